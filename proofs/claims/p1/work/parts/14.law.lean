/-! the law's own code as steps (f1, f2: its calls of height and owns) -/
theorem wd_80 : Cond.classLink RL 8 RX10 ∈ dm_W := dm_in (List.mem_append_right _ (dt_1 (List.mem_of_getElem? (i := 21) (by decide +kernel)))) (by decide +kernel)
theorem wd_81 : Cond.instantiable RX10 11 ∈ dm_W := dm_in (List.mem_append_right _ (dt_1 (List.mem_of_getElem? (i := 22) (by decide +kernel)))) (by decide +kernel)
theorem wd_82 : Cond.methodLink RL 19 yX10_init ∈ dm_W := dm_in (List.mem_append_right _ (dt_1 (List.mem_of_getElem? (i := 23) (by decide +kernel)))) (by decide +kernel)
theorem wd_83 : Cond.instanceMethod yX10_init ∈ dm_W := dm_in (List.mem_append_right _ (dt_1 (List.mem_of_getElem? (i := 24) (by decide +kernel)))) (by decide +kernel)
theorem wd_344 : Cond.methodLink RL 23 yX10_seed ∈ dm_W := dm_in (List.mem_append_right _ (dt_2 (List.mem_of_getElem? (i := 45) (by decide +kernel)))) (by decide +kernel)
theorem wd_345 : Cond.instanceMethod yX10_seed ∈ dm_W := dm_in (List.mem_append_right _ (dt_2 (List.mem_of_getElem? (i := 46) (by decide +kernel)))) (by decide +kernel)
theorem wd_346 : Cond.selects RX10 yX10_seed yX10_seed ∈ dm_W := dm_in (List.mem_append_right _ (dt_2 (List.mem_of_getElem? (i := 47) (by decide +kernel)))) (by decide +kernel)
theorem wd_348 : Cond.methodLink RL 27 yX10_fork ∈ dm_W := dm_in (List.mem_append_right _ (dt_2 (List.mem_of_getElem? (i := 49) (by decide +kernel)))) (by decide +kernel)
theorem wd_349 : Cond.instanceMethod yX10_fork ∈ dm_W := dm_in (List.mem_append_right _ (dt_2 (List.mem_of_getElem? (i := 50) (by decide +kernel)))) (by decide +kernel)
theorem wd_350 : Cond.selects RX10 yX10_fork yX10_fork ∈ dm_W := dm_in (List.mem_append_right _ (dt_2 (List.mem_of_getElem? (i := 51) (by decide +kernel)))) (by decide +kernel)
theorem wd_453 : Cond.methodLink RL 32 yX10_event ∈ dm_W := dm_in (List.mem_append_right _ (dt_2 (List.mem_of_getElem? (i := 154) (by decide +kernel)))) (by decide +kernel)
theorem wd_454 : Cond.instanceMethod yX10_event ∈ dm_W := dm_in (List.mem_append_right _ (dt_2 (List.mem_of_getElem? (i := 155) (by decide +kernel)))) (by decide +kernel)
theorem wd_455 : Cond.selects RX10 yX10_event yX10_event ∈ dm_W := dm_in (List.mem_append_right _ (dt_2 (List.mem_of_getElem? (i := 156) (by decide +kernel)))) (by decide +kernel)
theorem wd_502 : Cond.methodLink RL 36 yX10_join ∈ dm_W := dm_in (List.mem_append_right _ (dt_2 (List.mem_of_getElem? (i := 203) (by decide +kernel)))) (by decide +kernel)
theorem wd_503 : Cond.instanceMethod yX10_join ∈ dm_W := dm_in (List.mem_append_right _ (dt_2 (List.mem_of_getElem? (i := 204) (by decide +kernel)))) (by decide +kernel)
theorem wd_504 : Cond.selects RX10 yX10_join yX10_join ∈ dm_W := dm_in (List.mem_append_right _ (dt_2 (List.mem_of_getElem? (i := 205) (by decide +kernel)))) (by decide +kernel)
theorem wd_521 : Cond.methodLink RL 41 yX10_peek ∈ dm_W := dm_in (List.mem_append_right _ (dt_2 (List.mem_of_getElem? (i := 222) (by decide +kernel)))) (by decide +kernel)
theorem wd_522 : Cond.instanceMethod yX10_peek ∈ dm_W := dm_in (List.mem_append_right _ (dt_2 (List.mem_of_getElem? (i := 223) (by decide +kernel)))) (by decide +kernel)
theorem wd_523 : Cond.selects RX10 yX10_peek yX10_peek ∈ dm_W := dm_in (List.mem_append_right _ (dt_2 (List.mem_of_getElem? (i := 224) (by decide +kernel)))) (by decide +kernel)
theorem wd_529 : Cond.methodLink RL 45 yX10_send ∈ dm_W := dm_in (List.mem_append_right _ (dt_2 (List.mem_of_getElem? (i := 230) (by decide +kernel)))) (by decide +kernel)
theorem wd_530 : Cond.instanceMethod yX10_send ∈ dm_W := dm_in (List.mem_append_right _ (dt_2 (List.mem_of_getElem? (i := 231) (by decide +kernel)))) (by decide +kernel)
theorem wd_531 : Cond.selects RX10 yX10_send yX10_send ∈ dm_W := dm_in (List.mem_append_right _ (dt_2 (List.mem_of_getElem? (i := 232) (by decide +kernel)))) (by decide +kernel)
theorem wd_533 : Cond.methodLink RL 49 yX10_take ∈ dm_W := dm_in (List.mem_append_right _ (dt_2 (List.mem_of_getElem? (i := 234) (by decide +kernel)))) (by decide +kernel)
theorem wd_534 : Cond.instanceMethod yX10_take ∈ dm_W := dm_in (List.mem_append_right _ (dt_2 (List.mem_of_getElem? (i := 235) (by decide +kernel)))) (by decide +kernel)
theorem wd_535 : Cond.selects RX10 yX10_take yX10_take ∈ dm_W := dm_in (List.mem_append_right _ (dt_2 (List.mem_of_getElem? (i := 236) (by decide +kernel)))) (by decide +kernel)
theorem wd_537 : Cond.methodLink RL 53 yX10_lose ∈ dm_W := dm_in (List.mem_append_right _ (dt_2 (List.mem_of_getElem? (i := 238) (by decide +kernel)))) (by decide +kernel)
theorem wd_538 : Cond.instanceMethod yX10_lose ∈ dm_W := dm_in (List.mem_append_right _ (dt_2 (List.mem_of_getElem? (i := 239) (by decide +kernel)))) (by decide +kernel)
theorem wd_539 : Cond.selects RX10 yX10_lose yX10_lose ∈ dm_W := dm_in (List.mem_append_right _ (dt_3 (List.mem_of_getElem? (i := 0) (by decide +kernel)))) (by decide +kernel)
theorem wd_542 : Cond.methodLink RL 58 yX10_home ∈ dm_W := dm_in (List.mem_append_right _ (dt_3 (List.mem_of_getElem? (i := 3) (by decide +kernel)))) (by decide +kernel)
theorem wd_543 : Cond.instanceMethod yX10_home ∈ dm_W := dm_in (List.mem_append_right _ (dt_3 (List.mem_of_getElem? (i := 4) (by decide +kernel)))) (by decide +kernel)
theorem wd_544 : Cond.selects RX10 yX10_home yX10_home ∈ dm_W := dm_in (List.mem_append_right _ (dt_3 (List.mem_of_getElem? (i := 5) (by decide +kernel)))) (by decide +kernel)
theorem wd_564 : Cond.methodLink RL 62 yX10_undo ∈ dm_W := dm_in (List.mem_append_right _ (dt_3 (List.mem_of_getElem? (i := 25) (by decide +kernel)))) (by decide +kernel)
theorem wd_565 : Cond.instanceMethod yX10_undo ∈ dm_W := dm_in (List.mem_append_right _ (dt_3 (List.mem_of_getElem? (i := 26) (by decide +kernel)))) (by decide +kernel)
theorem wd_566 : Cond.selects RX10 yX10_undo yX10_undo ∈ dm_W := dm_in (List.mem_append_right _ (dt_3 (List.mem_of_getElem? (i := 27) (by decide +kernel)))) (by decide +kernel)
theorem wd_575 : Cond.methodLink RL 67 yX10_relation ∈ dm_W := dm_in (List.mem_append_right _ (dt_3 (List.mem_of_getElem? (i := 36) (by decide +kernel)))) (by decide +kernel)
theorem wd_580 : Cond.methodLink RL 71 yX10_unseen ∈ dm_W := dm_in (List.mem_append_right _ (dt_3 (List.mem_of_getElem? (i := 41) (by decide +kernel)))) (by decide +kernel)
theorem wd_581 : Cond.instanceMethod yX10_unseen ∈ dm_W := dm_in (List.mem_append_right _ (dt_3 (List.mem_of_getElem? (i := 42) (by decide +kernel)))) (by decide +kernel)
theorem wd_582 : Cond.selects RX10 yX10_unseen yX10_unseen ∈ dm_W := dm_in (List.mem_append_right _ (dt_3 (List.mem_of_getElem? (i := 43) (by decide +kernel)))) (by decide +kernel)
theorem wd_609 : Cond.methodLink RL 75 yX10_meets ∈ dm_W := dm_in (List.mem_append_right _ (dt_3 (List.mem_of_getElem? (i := 70) (by decide +kernel)))) (by decide +kernel)
theorem wd_610 : Cond.instanceMethod yX10_meets ∈ dm_W := dm_in (List.mem_append_right _ (dt_3 (List.mem_of_getElem? (i := 71) (by decide +kernel)))) (by decide +kernel)
theorem wd_611 : Cond.selects RX10 yX10_meets yX10_meets ∈ dm_W := dm_in (List.mem_append_right _ (dt_3 (List.mem_of_getElem? (i := 72) (by decide +kernel)))) (by decide +kernel)
theorem wd_620 : Cond.methodLink RL 95 yX10_stamp ∈ dm_W := dm_in (List.mem_append_right _ (dt_3 (List.mem_of_getElem? (i := 81) (by decide +kernel)))) (by decide +kernel)
theorem wd_621 : Cond.instanceMethod yX10_stamp ∈ dm_W := dm_in (List.mem_append_right _ (dt_3 (List.mem_of_getElem? (i := 82) (by decide +kernel)))) (by decide +kernel)
theorem wd_622 : Cond.selects RX10 yX10_stamp yX10_stamp ∈ dm_W := dm_in (List.mem_append_right _ (dt_3 (List.mem_of_getElem? (i := 83) (by decide +kernel)))) (by decide +kernel)
theorem wd_663 : Cond.methodLink RL 99 yX10_witness ∈ dm_W := dm_in (List.mem_append_right _ (dt_3 (List.mem_of_getElem? (i := 124) (by decide +kernel)))) (by decide +kernel)
theorem wd_664 : Cond.instanceMethod yX10_witness ∈ dm_W := dm_in (List.mem_append_right _ (dt_3 (List.mem_of_getElem? (i := 125) (by decide +kernel)))) (by decide +kernel)
theorem wd_665 : Cond.selects RX10 yX10_witness yX10_witness ∈ dm_W := dm_in (List.mem_append_right _ (dt_3 (List.mem_of_getElem? (i := 126) (by decide +kernel)))) (by decide +kernel)
theorem wd_676 : Cond.methodLink RL 104 yX10_place ∈ dm_W := dm_in (List.mem_append_right _ (dt_3 (List.mem_of_getElem? (i := 137) (by decide +kernel)))) (by decide +kernel)
theorem wd_677 : Cond.instanceMethod yX10_place ∈ dm_W := dm_in (List.mem_append_right _ (dt_3 (List.mem_of_getElem? (i := 138) (by decide +kernel)))) (by decide +kernel)
theorem wd_678 : Cond.selects RX10 yX10_place yX10_place ∈ dm_W := dm_in (List.mem_append_right _ (dt_3 (List.mem_of_getElem? (i := 139) (by decide +kernel)))) (by decide +kernel)
theorem wd_680 : Cond.methodLink RL 109 yX10_digits ∈ dm_W := dm_in (List.mem_append_right _ (dt_3 (List.mem_of_getElem? (i := 141) (by decide +kernel)))) (by decide +kernel)
theorem wd_681 : Cond.instanceMethod yX10_digits ∈ dm_W := dm_in (List.mem_append_right _ (dt_3 (List.mem_of_getElem? (i := 142) (by decide +kernel)))) (by decide +kernel)
theorem wd_682 : Cond.selects RX10 yX10_digits yX10_digits ∈ dm_W := dm_in (List.mem_append_right _ (dt_3 (List.mem_of_getElem? (i := 143) (by decide +kernel)))) (by decide +kernel)
theorem wd_684 : Cond.methodLink RL 113 yX10_check ∈ dm_W := dm_in (List.mem_append_right _ (dt_3 (List.mem_of_getElem? (i := 145) (by decide +kernel)))) (by decide +kernel)
theorem wd_685 : Cond.instanceMethod yX10_check ∈ dm_W := dm_in (List.mem_append_right _ (dt_3 (List.mem_of_getElem? (i := 146) (by decide +kernel)))) (by decide +kernel)
theorem wd_686 : Cond.selects RX10 yX10_check yX10_check ∈ dm_W := dm_in (List.mem_append_right _ (dt_3 (List.mem_of_getElem? (i := 147) (by decide +kernel)))) (by decide +kernel)
theorem wd_699 : Cond.methodLink RL 118 yX10_pack ∈ dm_W := dm_in (List.mem_append_right _ (dt_3 (List.mem_of_getElem? (i := 160) (by decide +kernel)))) (by decide +kernel)
theorem wd_700 : Cond.instanceMethod yX10_pack ∈ dm_W := dm_in (List.mem_append_right _ (dt_3 (List.mem_of_getElem? (i := 161) (by decide +kernel)))) (by decide +kernel)
theorem wd_701 : Cond.selects RX10 yX10_pack yX10_pack ∈ dm_W := dm_in (List.mem_append_right _ (dt_3 (List.mem_of_getElem? (i := 162) (by decide +kernel)))) (by decide +kernel)
theorem wd_712 : Cond.methodLink RL 122 yX10_bit ∈ dm_W := dm_in (List.mem_append_right _ (dt_3 (List.mem_of_getElem? (i := 173) (by decide +kernel)))) (by decide +kernel)
theorem wd_713 : Cond.instanceMethod yX10_bit ∈ dm_W := dm_in (List.mem_append_right _ (dt_3 (List.mem_of_getElem? (i := 174) (by decide +kernel)))) (by decide +kernel)
theorem wd_714 : Cond.selects RX10 yX10_bit yX10_bit ∈ dm_W := dm_in (List.mem_append_right _ (dt_3 (List.mem_of_getElem? (i := 175) (by decide +kernel)))) (by decide +kernel)
theorem wd_721 : Cond.methodLink RL 126 yX10_add ∈ dm_W := dm_in (List.mem_append_right _ (dt_3 (List.mem_of_getElem? (i := 182) (by decide +kernel)))) (by decide +kernel)
theorem wd_722 : Cond.instanceMethod yX10_add ∈ dm_W := dm_in (List.mem_append_right _ (dt_3 (List.mem_of_getElem? (i := 183) (by decide +kernel)))) (by decide +kernel)
theorem wd_723 : Cond.selects RX10 yX10_add yX10_add ∈ dm_W := dm_in (List.mem_append_right _ (dt_3 (List.mem_of_getElem? (i := 184) (by decide +kernel)))) (by decide +kernel)
theorem wd_726 : Cond.methodLink RL 131 yX10_end ∈ dm_W := dm_in (List.mem_append_right _ (dt_3 (List.mem_of_getElem? (i := 187) (by decide +kernel)))) (by decide +kernel)
theorem wd_727 : Cond.instanceMethod yX10_end ∈ dm_W := dm_in (List.mem_append_right _ (dt_3 (List.mem_of_getElem? (i := 188) (by decide +kernel)))) (by decide +kernel)
theorem wd_728 : Cond.selects RX10 yX10_end yX10_end ∈ dm_W := dm_in (List.mem_append_right _ (dt_3 (List.mem_of_getElem? (i := 189) (by decide +kernel)))) (by decide +kernel)
theorem wd_730 : Cond.methodLink RL 135 yX10_read ∈ dm_W := dm_in (List.mem_append_right _ (dt_3 (List.mem_of_getElem? (i := 191) (by decide +kernel)))) (by decide +kernel)
theorem wd_731 : Cond.instanceMethod yX10_read ∈ dm_W := dm_in (List.mem_append_right _ (dt_3 (List.mem_of_getElem? (i := 192) (by decide +kernel)))) (by decide +kernel)
theorem wd_732 : Cond.selects RX10 yX10_read yX10_read ∈ dm_W := dm_in (List.mem_append_right _ (dt_3 (List.mem_of_getElem? (i := 193) (by decide +kernel)))) (by decide +kernel)
theorem wd_781 : Cond.methodLink RL 139 yX10_fault ∈ dm_W := dm_in (List.mem_append_right _ (dt_4 (List.mem_of_getElem? (i := 2) (by decide +kernel)))) (by decide +kernel)
theorem wd_782 : Cond.instanceMethod yX10_fault ∈ dm_W := dm_in (List.mem_append_right _ (dt_4 (List.mem_of_getElem? (i := 3) (by decide +kernel)))) (by decide +kernel)
theorem wd_783 : Cond.selects RX10 yX10_fault yX10_fault ∈ dm_W := dm_in (List.mem_append_right _ (dt_4 (List.mem_of_getElem? (i := 4) (by decide +kernel)))) (by decide +kernel)
theorem wd_785 : Cond.methodLink RL 143 yX10_image ∈ dm_W := dm_in (List.mem_append_right _ (dt_4 (List.mem_of_getElem? (i := 6) (by decide +kernel)))) (by decide +kernel)
theorem wd_786 : Cond.instanceMethod yX10_image ∈ dm_W := dm_in (List.mem_append_right _ (dt_4 (List.mem_of_getElem? (i := 7) (by decide +kernel)))) (by decide +kernel)
theorem wd_787 : Cond.selects RX10 yX10_image yX10_image ∈ dm_W := dm_in (List.mem_append_right _ (dt_4 (List.mem_of_getElem? (i := 8) (by decide +kernel)))) (by decide +kernel)
theorem wd_799 : Cond.methodLink RL 147 yX10_back ∈ dm_W := dm_in (List.mem_append_right _ (dt_4 (List.mem_of_getElem? (i := 20) (by decide +kernel)))) (by decide +kernel)
theorem wd_800 : Cond.instanceMethod yX10_back ∈ dm_W := dm_in (List.mem_append_right _ (dt_4 (List.mem_of_getElem? (i := 21) (by decide +kernel)))) (by decide +kernel)
theorem wd_801 : Cond.selects RX10 yX10_back yX10_back ∈ dm_W := dm_in (List.mem_append_right _ (dt_4 (List.mem_of_getElem? (i := 22) (by decide +kernel)))) (by decide +kernel)
theorem wd_803 : Cond.methodLink RL 151 yX10_count ∈ dm_W := dm_in (List.mem_append_right _ (dt_4 (List.mem_of_getElem? (i := 24) (by decide +kernel)))) (by decide +kernel)
theorem wd_804 : Cond.instanceMethod yX10_count ∈ dm_W := dm_in (List.mem_append_right _ (dt_4 (List.mem_of_getElem? (i := 25) (by decide +kernel)))) (by decide +kernel)
theorem wd_805 : Cond.selects RX10 yX10_count yX10_count ∈ dm_W := dm_in (List.mem_append_right _ (dt_4 (List.mem_of_getElem? (i := 26) (by decide +kernel)))) (by decide +kernel)
theorem wd_908 : Cond.classLink RL 20 RX11 ∈ dm_W := dm_in (List.mem_append_right _ (dt_4 (List.mem_of_getElem? (i := 129) (by decide +kernel)))) (by decide +kernel)
theorem wd_909 : Cond.instantiable RX11 68 ∈ dm_W := dm_in (List.mem_append_right _ (dt_4 (List.mem_of_getElem? (i := 130) (by decide +kernel)))) (by decide +kernel)
theorem wd_910 : Cond.methodLink RL 22 yX11_init ∈ dm_W := dm_in (List.mem_append_right _ (dt_4 (List.mem_of_getElem? (i := 131) (by decide +kernel)))) (by decide +kernel)
theorem wd_911 : Cond.instanceMethod yX11_init ∈ dm_W := dm_in (List.mem_append_right _ (dt_4 (List.mem_of_getElem? (i := 132) (by decide +kernel)))) (by decide +kernel)
theorem wd_1156 : Cond.methodLink RL 88 yX11_thrown ∈ dm_W := dm_in (List.mem_append_right _ (dt_5 (List.mem_of_getElem? (i := 137) (by decide +kernel)))) (by decide +kernel)
theorem wd_1157 : Cond.instanceMethod yX11_thrown ∈ dm_W := dm_in (List.mem_append_right _ (dt_5 (List.mem_of_getElem? (i := 138) (by decide +kernel)))) (by decide +kernel)
theorem wd_1158 : Cond.selects RX11 yX11_thrown yX11_thrown ∈ dm_W := dm_in (List.mem_append_right _ (dt_5 (List.mem_of_getElem? (i := 139) (by decide +kernel)))) (by decide +kernel)
theorem wd_1160 : Cond.methodLink RL 26 yX11_seed ∈ dm_W := dm_in (List.mem_append_right _ (dt_5 (List.mem_of_getElem? (i := 141) (by decide +kernel)))) (by decide +kernel)
theorem wd_1161 : Cond.methodLink RL 31 yX11_fork ∈ dm_W := dm_in (List.mem_append_right _ (dt_5 (List.mem_of_getElem? (i := 142) (by decide +kernel)))) (by decide +kernel)
theorem wd_1162 : Cond.instanceMethod yX11_fork ∈ dm_W := dm_in (List.mem_append_right _ (dt_5 (List.mem_of_getElem? (i := 143) (by decide +kernel)))) (by decide +kernel)
theorem wd_1163 : Cond.selects RX11 yX11_fork yX11_fork ∈ dm_W := dm_in (List.mem_append_right _ (dt_5 (List.mem_of_getElem? (i := 144) (by decide +kernel)))) (by decide +kernel)
theorem wd_1201 : Cond.methodLink RL 35 yX11_event ∈ dm_W := dm_in (List.mem_append_right _ (dt_5 (List.mem_of_getElem? (i := 182) (by decide +kernel)))) (by decide +kernel)
theorem wd_1202 : Cond.instanceMethod yX11_event ∈ dm_W := dm_in (List.mem_append_right _ (dt_5 (List.mem_of_getElem? (i := 183) (by decide +kernel)))) (by decide +kernel)
theorem wd_1203 : Cond.selects RX11 yX11_event yX11_event ∈ dm_W := dm_in (List.mem_append_right _ (dt_5 (List.mem_of_getElem? (i := 184) (by decide +kernel)))) (by decide +kernel)
theorem wd_1242 : Cond.methodLink RL 40 yX11_join ∈ dm_W := dm_in (List.mem_append_right _ (dt_5 (List.mem_of_getElem? (i := 223) (by decide +kernel)))) (by decide +kernel)
theorem wd_1243 : Cond.instanceMethod yX11_join ∈ dm_W := dm_in (List.mem_append_right _ (dt_5 (List.mem_of_getElem? (i := 224) (by decide +kernel)))) (by decide +kernel)
theorem wd_1244 : Cond.selects RX11 yX11_join yX11_join ∈ dm_W := dm_in (List.mem_append_right _ (dt_5 (List.mem_of_getElem? (i := 225) (by decide +kernel)))) (by decide +kernel)
theorem wd_1258 : Cond.methodLink RL 44 yX11_peek ∈ dm_W := dm_in (List.mem_append_right _ (dt_5 (List.mem_of_getElem? (i := 239) (by decide +kernel)))) (by decide +kernel)
theorem wd_1259 : Cond.instanceMethod yX11_peek ∈ dm_W := dm_in (List.mem_append_right _ (dt_6 (List.mem_of_getElem? (i := 0) (by decide +kernel)))) (by decide +kernel)
theorem wd_1260 : Cond.selects RX11 yX11_peek yX11_peek ∈ dm_W := dm_in (List.mem_append_right _ (dt_6 (List.mem_of_getElem? (i := 1) (by decide +kernel)))) (by decide +kernel)
theorem wd_1262 : Cond.methodLink RL 48 yX11_send ∈ dm_W := dm_in (List.mem_append_right _ (dt_6 (List.mem_of_getElem? (i := 3) (by decide +kernel)))) (by decide +kernel)
theorem wd_1263 : Cond.instanceMethod yX11_send ∈ dm_W := dm_in (List.mem_append_right _ (dt_6 (List.mem_of_getElem? (i := 4) (by decide +kernel)))) (by decide +kernel)
theorem wd_1264 : Cond.selects RX11 yX11_send yX11_send ∈ dm_W := dm_in (List.mem_append_right _ (dt_6 (List.mem_of_getElem? (i := 5) (by decide +kernel)))) (by decide +kernel)
theorem wd_1266 : Cond.methodLink RL 52 yX11_take ∈ dm_W := dm_in (List.mem_append_right _ (dt_6 (List.mem_of_getElem? (i := 7) (by decide +kernel)))) (by decide +kernel)
theorem wd_1267 : Cond.instanceMethod yX11_take ∈ dm_W := dm_in (List.mem_append_right _ (dt_6 (List.mem_of_getElem? (i := 8) (by decide +kernel)))) (by decide +kernel)
theorem wd_1268 : Cond.selects RX11 yX11_take yX11_take ∈ dm_W := dm_in (List.mem_append_right _ (dt_6 (List.mem_of_getElem? (i := 9) (by decide +kernel)))) (by decide +kernel)
theorem wd_1270 : Cond.methodLink RL 57 yX11_lose ∈ dm_W := dm_in (List.mem_append_right _ (dt_6 (List.mem_of_getElem? (i := 11) (by decide +kernel)))) (by decide +kernel)
theorem wd_1271 : Cond.instanceMethod yX11_lose ∈ dm_W := dm_in (List.mem_append_right _ (dt_6 (List.mem_of_getElem? (i := 12) (by decide +kernel)))) (by decide +kernel)
theorem wd_1272 : Cond.selects RX11 yX11_lose yX11_lose ∈ dm_W := dm_in (List.mem_append_right _ (dt_6 (List.mem_of_getElem? (i := 13) (by decide +kernel)))) (by decide +kernel)
theorem wd_1274 : Cond.methodLink RL 61 yX11_home ∈ dm_W := dm_in (List.mem_append_right _ (dt_6 (List.mem_of_getElem? (i := 15) (by decide +kernel)))) (by decide +kernel)
theorem wd_1275 : Cond.instanceMethod yX11_home ∈ dm_W := dm_in (List.mem_append_right _ (dt_6 (List.mem_of_getElem? (i := 16) (by decide +kernel)))) (by decide +kernel)
theorem wd_1276 : Cond.selects RX11 yX11_home yX11_home ∈ dm_W := dm_in (List.mem_append_right _ (dt_6 (List.mem_of_getElem? (i := 17) (by decide +kernel)))) (by decide +kernel)
theorem wd_1282 : Cond.methodLink RL 66 yX11_undo ∈ dm_W := dm_in (List.mem_append_right _ (dt_6 (List.mem_of_getElem? (i := 23) (by decide +kernel)))) (by decide +kernel)
theorem wd_1283 : Cond.instanceMethod yX11_undo ∈ dm_W := dm_in (List.mem_append_right _ (dt_6 (List.mem_of_getElem? (i := 24) (by decide +kernel)))) (by decide +kernel)
theorem wd_1284 : Cond.selects RX11 yX11_undo yX11_undo ∈ dm_W := dm_in (List.mem_append_right _ (dt_6 (List.mem_of_getElem? (i := 25) (by decide +kernel)))) (by decide +kernel)
theorem wd_1286 : Cond.methodLink RL 70 yX11_relation ∈ dm_W := dm_in (List.mem_append_right _ (dt_6 (List.mem_of_getElem? (i := 27) (by decide +kernel)))) (by decide +kernel)
theorem wd_1287 : Cond.instanceMethod yX11_relation ∈ dm_W := dm_in (List.mem_append_right _ (dt_6 (List.mem_of_getElem? (i := 28) (by decide +kernel)))) (by decide +kernel)
theorem wd_1288 : Cond.selects RX11 yX11_relation yX11_relation ∈ dm_W := dm_in (List.mem_append_right _ (dt_6 (List.mem_of_getElem? (i := 29) (by decide +kernel)))) (by decide +kernel)
theorem wd_1290 : Cond.methodLink RL 74 yX11_unseen ∈ dm_W := dm_in (List.mem_append_right _ (dt_6 (List.mem_of_getElem? (i := 31) (by decide +kernel)))) (by decide +kernel)
theorem wd_1301 : Cond.methodLink RL 79 yX11_meets ∈ dm_W := dm_in (List.mem_append_right _ (dt_6 (List.mem_of_getElem? (i := 42) (by decide +kernel)))) (by decide +kernel)
theorem wd_1302 : Cond.instanceMethod yX11_meets ∈ dm_W := dm_in (List.mem_append_right _ (dt_6 (List.mem_of_getElem? (i := 43) (by decide +kernel)))) (by decide +kernel)
theorem wd_1303 : Cond.selects RX11 yX11_meets yX11_meets ∈ dm_W := dm_in (List.mem_append_right _ (dt_6 (List.mem_of_getElem? (i := 44) (by decide +kernel)))) (by decide +kernel)
theorem wd_1305 : Cond.methodLink RL 87 yX11_height ∈ dm_W := dm_in (List.mem_append_right _ (dt_6 (List.mem_of_getElem? (i := 46) (by decide +kernel)))) (by decide +kernel)
theorem wd_1306 : Cond.instanceMethod yX11_height ∈ dm_W := dm_in (List.mem_append_right _ (dt_6 (List.mem_of_getElem? (i := 47) (by decide +kernel)))) (by decide +kernel)
theorem wd_1307 : Cond.selects RX11 yX11_height yX11_height ∈ dm_W := dm_in (List.mem_append_right _ (dt_6 (List.mem_of_getElem? (i := 48) (by decide +kernel)))) (by decide +kernel)
theorem wd_1316 : Cond.methodLink RL 94 yX11_owns_ ∈ dm_W := dm_in (List.mem_append_right _ (dt_6 (List.mem_of_getElem? (i := 57) (by decide +kernel)))) (by decide +kernel)
theorem wd_1317 : Cond.instanceMethod yX11_owns_ ∈ dm_W := dm_in (List.mem_append_right _ (dt_6 (List.mem_of_getElem? (i := 58) (by decide +kernel)))) (by decide +kernel)
theorem wd_1318 : Cond.selects RX11 yX11_owns_ yX11_owns_ ∈ dm_W := dm_in (List.mem_append_right _ (dt_6 (List.mem_of_getElem? (i := 59) (by decide +kernel)))) (by decide +kernel)
theorem wd_1320 : Cond.methodLink RL 98 yX11_stamp ∈ dm_W := dm_in (List.mem_append_right _ (dt_6 (List.mem_of_getElem? (i := 61) (by decide +kernel)))) (by decide +kernel)
theorem wd_1321 : Cond.instanceMethod yX11_stamp ∈ dm_W := dm_in (List.mem_append_right _ (dt_6 (List.mem_of_getElem? (i := 62) (by decide +kernel)))) (by decide +kernel)
theorem wd_1322 : Cond.selects RX11 yX11_stamp yX11_stamp ∈ dm_W := dm_in (List.mem_append_right _ (dt_6 (List.mem_of_getElem? (i := 63) (by decide +kernel)))) (by decide +kernel)
theorem wd_1349 : Cond.methodLink RL 103 yX11_witness ∈ dm_W := dm_in (List.mem_append_right _ (dt_6 (List.mem_of_getElem? (i := 90) (by decide +kernel)))) (by decide +kernel)
theorem wd_1350 : Cond.instanceMethod yX11_witness ∈ dm_W := dm_in (List.mem_append_right _ (dt_6 (List.mem_of_getElem? (i := 91) (by decide +kernel)))) (by decide +kernel)
theorem wd_1351 : Cond.selects RX11 yX11_witness yX11_witness ∈ dm_W := dm_in (List.mem_append_right _ (dt_6 (List.mem_of_getElem? (i := 92) (by decide +kernel)))) (by decide +kernel)
theorem wd_1357 : Cond.methodLink RL 108 yX11_place ∈ dm_W := dm_in (List.mem_append_right _ (dt_6 (List.mem_of_getElem? (i := 98) (by decide +kernel)))) (by decide +kernel)
theorem wd_1358 : Cond.instanceMethod yX11_place ∈ dm_W := dm_in (List.mem_append_right _ (dt_6 (List.mem_of_getElem? (i := 99) (by decide +kernel)))) (by decide +kernel)
theorem wd_1359 : Cond.selects RX11 yX11_place yX11_place ∈ dm_W := dm_in (List.mem_append_right _ (dt_6 (List.mem_of_getElem? (i := 100) (by decide +kernel)))) (by decide +kernel)
theorem wd_1361 : Cond.methodLink RL 112 yX11_digits ∈ dm_W := dm_in (List.mem_append_right _ (dt_6 (List.mem_of_getElem? (i := 102) (by decide +kernel)))) (by decide +kernel)
theorem wd_1362 : Cond.instanceMethod yX11_digits ∈ dm_W := dm_in (List.mem_append_right _ (dt_6 (List.mem_of_getElem? (i := 103) (by decide +kernel)))) (by decide +kernel)
theorem wd_1363 : Cond.selects RX11 yX11_digits yX11_digits ∈ dm_W := dm_in (List.mem_append_right _ (dt_6 (List.mem_of_getElem? (i := 104) (by decide +kernel)))) (by decide +kernel)
theorem wd_1365 : Cond.methodLink RL 117 yX11_check ∈ dm_W := dm_in (List.mem_append_right _ (dt_6 (List.mem_of_getElem? (i := 106) (by decide +kernel)))) (by decide +kernel)
theorem wd_1366 : Cond.instanceMethod yX11_check ∈ dm_W := dm_in (List.mem_append_right _ (dt_6 (List.mem_of_getElem? (i := 107) (by decide +kernel)))) (by decide +kernel)
theorem wd_1367 : Cond.selects RX11 yX11_check yX11_check ∈ dm_W := dm_in (List.mem_append_right _ (dt_6 (List.mem_of_getElem? (i := 108) (by decide +kernel)))) (by decide +kernel)
theorem wd_1369 : Cond.methodLink RL 121 yX11_pack ∈ dm_W := dm_in (List.mem_append_right _ (dt_6 (List.mem_of_getElem? (i := 110) (by decide +kernel)))) (by decide +kernel)
theorem wd_1370 : Cond.instanceMethod yX11_pack ∈ dm_W := dm_in (List.mem_append_right _ (dt_6 (List.mem_of_getElem? (i := 111) (by decide +kernel)))) (by decide +kernel)
theorem wd_1371 : Cond.selects RX11 yX11_pack yX11_pack ∈ dm_W := dm_in (List.mem_append_right _ (dt_6 (List.mem_of_getElem? (i := 112) (by decide +kernel)))) (by decide +kernel)
theorem wd_1373 : Cond.methodLink RL 125 yX11_bit_ ∈ dm_W := dm_in (List.mem_append_right _ (dt_6 (List.mem_of_getElem? (i := 114) (by decide +kernel)))) (by decide +kernel)
theorem wd_1374 : Cond.instanceMethod yX11_bit_ ∈ dm_W := dm_in (List.mem_append_right _ (dt_6 (List.mem_of_getElem? (i := 115) (by decide +kernel)))) (by decide +kernel)
theorem wd_1375 : Cond.selects RX11 yX11_bit_ yX11_bit_ ∈ dm_W := dm_in (List.mem_append_right _ (dt_6 (List.mem_of_getElem? (i := 116) (by decide +kernel)))) (by decide +kernel)
theorem wd_1377 : Cond.methodLink RL 130 yX11_add ∈ dm_W := dm_in (List.mem_append_right _ (dt_6 (List.mem_of_getElem? (i := 118) (by decide +kernel)))) (by decide +kernel)
theorem wd_1378 : Cond.instanceMethod yX11_add ∈ dm_W := dm_in (List.mem_append_right _ (dt_6 (List.mem_of_getElem? (i := 119) (by decide +kernel)))) (by decide +kernel)
theorem wd_1379 : Cond.selects RX11 yX11_add yX11_add ∈ dm_W := dm_in (List.mem_append_right _ (dt_6 (List.mem_of_getElem? (i := 120) (by decide +kernel)))) (by decide +kernel)
theorem wd_1381 : Cond.methodLink RL 134 yX11_end ∈ dm_W := dm_in (List.mem_append_right _ (dt_6 (List.mem_of_getElem? (i := 122) (by decide +kernel)))) (by decide +kernel)
theorem wd_1382 : Cond.instanceMethod yX11_end ∈ dm_W := dm_in (List.mem_append_right _ (dt_6 (List.mem_of_getElem? (i := 123) (by decide +kernel)))) (by decide +kernel)
theorem wd_1383 : Cond.selects RX11 yX11_end yX11_end ∈ dm_W := dm_in (List.mem_append_right _ (dt_6 (List.mem_of_getElem? (i := 124) (by decide +kernel)))) (by decide +kernel)
theorem wd_1385 : Cond.methodLink RL 138 yX11_read ∈ dm_W := dm_in (List.mem_append_right _ (dt_6 (List.mem_of_getElem? (i := 126) (by decide +kernel)))) (by decide +kernel)
theorem wd_1386 : Cond.instanceMethod yX11_read ∈ dm_W := dm_in (List.mem_append_right _ (dt_6 (List.mem_of_getElem? (i := 127) (by decide +kernel)))) (by decide +kernel)
theorem wd_1387 : Cond.selects RX11 yX11_read yX11_read ∈ dm_W := dm_in (List.mem_append_right _ (dt_6 (List.mem_of_getElem? (i := 128) (by decide +kernel)))) (by decide +kernel)
theorem wd_1413 : Cond.methodLink RL 142 yX11_fault ∈ dm_W := dm_in (List.mem_append_right _ (dt_6 (List.mem_of_getElem? (i := 154) (by decide +kernel)))) (by decide +kernel)
theorem wd_1414 : Cond.instanceMethod yX11_fault ∈ dm_W := dm_in (List.mem_append_right _ (dt_6 (List.mem_of_getElem? (i := 155) (by decide +kernel)))) (by decide +kernel)
theorem wd_1415 : Cond.selects RX11 yX11_fault yX11_fault ∈ dm_W := dm_in (List.mem_append_right _ (dt_6 (List.mem_of_getElem? (i := 156) (by decide +kernel)))) (by decide +kernel)
theorem wd_1417 : Cond.methodLink RL 146 yX11_image ∈ dm_W := dm_in (List.mem_append_right _ (dt_6 (List.mem_of_getElem? (i := 158) (by decide +kernel)))) (by decide +kernel)
theorem wd_1418 : Cond.instanceMethod yX11_image ∈ dm_W := dm_in (List.mem_append_right _ (dt_6 (List.mem_of_getElem? (i := 159) (by decide +kernel)))) (by decide +kernel)
theorem wd_1419 : Cond.selects RX11 yX11_image yX11_image ∈ dm_W := dm_in (List.mem_append_right _ (dt_6 (List.mem_of_getElem? (i := 160) (by decide +kernel)))) (by decide +kernel)
theorem wd_1421 : Cond.methodLink RL 150 yX11_back ∈ dm_W := dm_in (List.mem_append_right _ (dt_6 (List.mem_of_getElem? (i := 162) (by decide +kernel)))) (by decide +kernel)
theorem wd_1422 : Cond.instanceMethod yX11_back ∈ dm_W := dm_in (List.mem_append_right _ (dt_6 (List.mem_of_getElem? (i := 163) (by decide +kernel)))) (by decide +kernel)
theorem wd_1423 : Cond.selects RX11 yX11_back yX11_back ∈ dm_W := dm_in (List.mem_append_right _ (dt_6 (List.mem_of_getElem? (i := 164) (by decide +kernel)))) (by decide +kernel)
theorem wd_1425 : Cond.methodLink RL 154 yX11_count ∈ dm_W := dm_in (List.mem_append_right _ (dt_6 (List.mem_of_getElem? (i := 166) (by decide +kernel)))) (by decide +kernel)
theorem wd_1426 : Cond.instanceMethod yX11_count ∈ dm_W := dm_in (List.mem_append_right _ (dt_6 (List.mem_of_getElem? (i := 167) (by decide +kernel)))) (by decide +kernel)
theorem wd_1427 : Cond.selects RX11 yX11_count yX11_count ∈ dm_W := dm_in (List.mem_append_right _ (dt_6 (List.mem_of_getElem? (i := 168) (by decide +kernel)))) (by decide +kernel)
theorem wd_1429 : Cond.constantLong RL 80 (4294967295) ∈ dm_W := dm_in (List.mem_append_right _ (dt_6 (List.mem_of_getElem? (i := 170) (by decide +kernel)))) (by decide +kernel)
theorem dL_law_0 : decode cL_law 0 = .ok (.new 8, 3) := by decide +kernel
theorem dL_law_3 : decode cL_law 3 = .ok (.dup, 1) := by decide +kernel
theorem dL_law_4 : decode cL_law 4 = .ok (.invokespecial 19, 3) := by decide +kernel
theorem dL_law_7 : decode cL_law 7 = .ok (.astore_n 1, 1) := by decide +kernel
theorem dL_law_8 : decode cL_law 8 = .ok (.new 20, 3) := by decide +kernel
theorem dL_law_11 : decode cL_law 11 = .ok (.dup, 1) := by decide +kernel
theorem dL_law_12 : decode cL_law 12 = .ok (.invokespecial 22, 3) := by decide +kernel
theorem dL_law_15 : decode cL_law 15 = .ok (.astore_n 2, 1) := by decide +kernel
theorem dL_law_16 : decode cL_law 16 = .ok (.iconst 1, 1) := by decide +kernel
theorem dL_law_17 : decode cL_law 17 = .ok (.newarray .long, 2) := by decide +kernel
theorem dL_law_19 : decode cL_law 19 = .ok (.astore_n 3, 1) := by decide +kernel
theorem dL_law_20 : decode cL_law 20 = .ok (.iconst 0, 1) := by decide +kernel
theorem dL_law_21 : decode cL_law 21 = .ok (.istore 4, 2) := by decide +kernel
theorem dL_law_23 : decode cL_law 23 = .ok (.iload 4, 2) := by decide +kernel
theorem dL_law_25 : decode cL_law 25 = .ok (.aload_n 0, 1) := by decide +kernel
theorem dL_law_26 : decode cL_law 26 = .ok (.arraylength, 1) := by decide +kernel
theorem dL_law_27 : decode cL_law 27 = .ok (.bipush 9, 2) := by decide +kernel
theorem dL_law_29 : decode cL_law 29 = .ok (.isub, 1) := by decide +kernel
theorem dL_law_30 : decode cL_law 30 = .ok (.if_icmp .gt 1239, 3) := by decide +kernel
theorem dL_law_33 : decode cL_law 33 = .ok (.aload_n 0, 1) := by decide +kernel
theorem dL_law_34 : decode cL_law 34 = .ok (.iload 4, 2) := by decide +kernel
theorem dL_law_36 : decode cL_law 36 = .ok (.iaload, 1) := by decide +kernel
theorem dL_law_37 : decode cL_law 37 = .ok (.bipush 31, 2) := by decide +kernel
theorem dL_law_39 : decode cL_law 39 = .ok (.iand, 1) := by decide +kernel
theorem dL_law_40 : decode cL_law 40 = .ok (.tableswitch 1223 0 28 #[132, 143, 168, 193, 230, 255, 280, 317, 342, 379, 392, 429, 466, 503, 615, 734, 771, 820, 834, 847, 1002, 1027, 1052, 1121, 1146, 1159, 1172, 1185, 1198], 132) := by decide +kernel
theorem dL_law_172 : decode cL_law 172 = .ok (.aload_n 1, 1) := by decide +kernel
theorem dL_law_173 : decode cL_law 173 = .ok (.invokevirtual 23, 3) := by decide +kernel
theorem dL_law_176 : decode cL_law 176 = .ok (.aload_n 2, 1) := by decide +kernel
theorem dL_law_177 : decode cL_law 177 = .ok (.invokevirtual 26, 3) := by decide +kernel
theorem dL_law_180 : decode cL_law 180 = .ok (.goto 1083, 3) := by decide +kernel
theorem dL_law_183 : decode cL_law 183 = .ok (.aload_n 1, 1) := by decide +kernel
theorem dL_law_184 : decode cL_law 184 = .ok (.aload_n 0, 1) := by decide +kernel
theorem dL_law_185 : decode cL_law 185 = .ok (.iload 4, 2) := by decide +kernel
theorem dL_law_187 : decode cL_law 187 = .ok (.iconst 1, 1) := by decide +kernel
theorem dL_law_188 : decode cL_law 188 = .ok (.iadd, 1) := by decide +kernel
theorem dL_law_189 : decode cL_law 189 = .ok (.iaload, 1) := by decide +kernel
theorem dL_law_190 : decode cL_law 190 = .ok (.invokevirtual 27, 3) := by decide +kernel
theorem dL_law_193 : decode cL_law 193 = .ok (.aload_n 2, 1) := by decide +kernel
theorem dL_law_194 : decode cL_law 194 = .ok (.aload_n 0, 1) := by decide +kernel
theorem dL_law_195 : decode cL_law 195 = .ok (.iload 4, 2) := by decide +kernel
theorem dL_law_197 : decode cL_law 197 = .ok (.iconst 1, 1) := by decide +kernel
theorem dL_law_198 : decode cL_law 198 = .ok (.iadd, 1) := by decide +kernel
theorem dL_law_199 : decode cL_law 199 = .ok (.iaload, 1) := by decide +kernel
theorem dL_law_200 : decode cL_law 200 = .ok (.invokevirtual 31, 3) := by decide +kernel
theorem dL_law_203 : decode cL_law 203 = .ok (.if_icmp .eq 1060, 3) := by decide +kernel
theorem dL_law_206 : decode cL_law 206 = .ok (.iconst 0, 1) := by decide +kernel
theorem dL_law_207 : decode cL_law 207 = .ok (.ireturn, 1) := by decide +kernel
theorem dL_law_208 : decode cL_law 208 = .ok (.aload_n 1, 1) := by decide +kernel
theorem dL_law_209 : decode cL_law 209 = .ok (.aload_n 0, 1) := by decide +kernel
theorem dL_law_210 : decode cL_law 210 = .ok (.iload 4, 2) := by decide +kernel
theorem dL_law_212 : decode cL_law 212 = .ok (.iconst 1, 1) := by decide +kernel
theorem dL_law_213 : decode cL_law 213 = .ok (.iadd, 1) := by decide +kernel
theorem dL_law_214 : decode cL_law 214 = .ok (.iaload, 1) := by decide +kernel
theorem dL_law_215 : decode cL_law 215 = .ok (.invokevirtual 32, 3) := by decide +kernel
theorem dL_law_218 : decode cL_law 218 = .ok (.aload_n 2, 1) := by decide +kernel
theorem dL_law_219 : decode cL_law 219 = .ok (.aload_n 0, 1) := by decide +kernel
theorem dL_law_220 : decode cL_law 220 = .ok (.iload 4, 2) := by decide +kernel
theorem dL_law_222 : decode cL_law 222 = .ok (.iconst 1, 1) := by decide +kernel
theorem dL_law_223 : decode cL_law 223 = .ok (.iadd, 1) := by decide +kernel
theorem dL_law_224 : decode cL_law 224 = .ok (.iaload, 1) := by decide +kernel
theorem dL_law_225 : decode cL_law 225 = .ok (.invokevirtual 35, 3) := by decide +kernel
theorem dL_law_228 : decode cL_law 228 = .ok (.if_icmp .eq 1035, 3) := by decide +kernel
theorem dL_law_231 : decode cL_law 231 = .ok (.iconst 0, 1) := by decide +kernel
theorem dL_law_232 : decode cL_law 232 = .ok (.ireturn, 1) := by decide +kernel
theorem dL_law_233 : decode cL_law 233 = .ok (.aload_n 1, 1) := by decide +kernel
theorem dL_law_234 : decode cL_law 234 = .ok (.aload_n 0, 1) := by decide +kernel
theorem dL_law_235 : decode cL_law 235 = .ok (.iload 4, 2) := by decide +kernel
theorem dL_law_237 : decode cL_law 237 = .ok (.iconst 1, 1) := by decide +kernel
theorem dL_law_238 : decode cL_law 238 = .ok (.iadd, 1) := by decide +kernel
theorem dL_law_239 : decode cL_law 239 = .ok (.iaload, 1) := by decide +kernel
theorem dL_law_240 : decode cL_law 240 = .ok (.aload_n 0, 1) := by decide +kernel
theorem dL_law_241 : decode cL_law 241 = .ok (.iload 4, 2) := by decide +kernel
theorem dL_law_243 : decode cL_law 243 = .ok (.iconst 2, 1) := by decide +kernel
theorem dL_law_244 : decode cL_law 244 = .ok (.iadd, 1) := by decide +kernel
theorem dL_law_245 : decode cL_law 245 = .ok (.iaload, 1) := by decide +kernel
theorem dL_law_246 : decode cL_law 246 = .ok (.invokevirtual 36, 3) := by decide +kernel
theorem dL_law_249 : decode cL_law 249 = .ok (.aload_n 2, 1) := by decide +kernel
theorem dL_law_250 : decode cL_law 250 = .ok (.aload_n 0, 1) := by decide +kernel
theorem dL_law_251 : decode cL_law 251 = .ok (.iload 4, 2) := by decide +kernel
theorem dL_law_253 : decode cL_law 253 = .ok (.iconst 1, 1) := by decide +kernel
theorem dL_law_254 : decode cL_law 254 = .ok (.iadd, 1) := by decide +kernel
theorem dL_law_255 : decode cL_law 255 = .ok (.iaload, 1) := by decide +kernel
theorem dL_law_256 : decode cL_law 256 = .ok (.aload_n 0, 1) := by decide +kernel
theorem dL_law_257 : decode cL_law 257 = .ok (.iload 4, 2) := by decide +kernel
theorem dL_law_259 : decode cL_law 259 = .ok (.iconst 2, 1) := by decide +kernel
theorem dL_law_260 : decode cL_law 260 = .ok (.iadd, 1) := by decide +kernel
theorem dL_law_261 : decode cL_law 261 = .ok (.iaload, 1) := by decide +kernel
theorem dL_law_262 : decode cL_law 262 = .ok (.invokevirtual 40, 3) := by decide +kernel
theorem dL_law_265 : decode cL_law 265 = .ok (.if_icmp .eq 998, 3) := by decide +kernel
theorem dL_law_268 : decode cL_law 268 = .ok (.iconst 0, 1) := by decide +kernel
theorem dL_law_269 : decode cL_law 269 = .ok (.ireturn, 1) := by decide +kernel
theorem dL_law_270 : decode cL_law 270 = .ok (.aload_n 1, 1) := by decide +kernel
theorem dL_law_271 : decode cL_law 271 = .ok (.aload_n 0, 1) := by decide +kernel
theorem dL_law_272 : decode cL_law 272 = .ok (.iload 4, 2) := by decide +kernel
theorem dL_law_274 : decode cL_law 274 = .ok (.iconst 1, 1) := by decide +kernel
theorem dL_law_275 : decode cL_law 275 = .ok (.iadd, 1) := by decide +kernel
theorem dL_law_276 : decode cL_law 276 = .ok (.iaload, 1) := by decide +kernel
theorem dL_law_277 : decode cL_law 277 = .ok (.invokevirtual 41, 3) := by decide +kernel
theorem dL_law_280 : decode cL_law 280 = .ok (.aload_n 2, 1) := by decide +kernel
theorem dL_law_281 : decode cL_law 281 = .ok (.aload_n 0, 1) := by decide +kernel
theorem dL_law_282 : decode cL_law 282 = .ok (.iload 4, 2) := by decide +kernel
theorem dL_law_284 : decode cL_law 284 = .ok (.iconst 1, 1) := by decide +kernel
theorem dL_law_285 : decode cL_law 285 = .ok (.iadd, 1) := by decide +kernel
theorem dL_law_286 : decode cL_law 286 = .ok (.iaload, 1) := by decide +kernel
theorem dL_law_287 : decode cL_law 287 = .ok (.invokevirtual 44, 3) := by decide +kernel
theorem dL_law_290 : decode cL_law 290 = .ok (.if_icmp .eq 973, 3) := by decide +kernel
theorem dL_law_293 : decode cL_law 293 = .ok (.iconst 0, 1) := by decide +kernel
theorem dL_law_294 : decode cL_law 294 = .ok (.ireturn, 1) := by decide +kernel
theorem dL_law_295 : decode cL_law 295 = .ok (.aload_n 1, 1) := by decide +kernel
theorem dL_law_296 : decode cL_law 296 = .ok (.aload_n 0, 1) := by decide +kernel
theorem dL_law_297 : decode cL_law 297 = .ok (.iload 4, 2) := by decide +kernel
theorem dL_law_299 : decode cL_law 299 = .ok (.iconst 1, 1) := by decide +kernel
theorem dL_law_300 : decode cL_law 300 = .ok (.iadd, 1) := by decide +kernel
theorem dL_law_301 : decode cL_law 301 = .ok (.iaload, 1) := by decide +kernel
theorem dL_law_302 : decode cL_law 302 = .ok (.invokevirtual 45, 3) := by decide +kernel
theorem dL_law_305 : decode cL_law 305 = .ok (.aload_n 2, 1) := by decide +kernel
theorem dL_law_306 : decode cL_law 306 = .ok (.aload_n 0, 1) := by decide +kernel
theorem dL_law_307 : decode cL_law 307 = .ok (.iload 4, 2) := by decide +kernel
theorem dL_law_309 : decode cL_law 309 = .ok (.iconst 1, 1) := by decide +kernel
theorem dL_law_310 : decode cL_law 310 = .ok (.iadd, 1) := by decide +kernel
theorem dL_law_311 : decode cL_law 311 = .ok (.iaload, 1) := by decide +kernel
theorem dL_law_312 : decode cL_law 312 = .ok (.invokevirtual 48, 3) := by decide +kernel
theorem dL_law_315 : decode cL_law 315 = .ok (.if_icmp .eq 948, 3) := by decide +kernel
theorem dL_law_318 : decode cL_law 318 = .ok (.iconst 0, 1) := by decide +kernel
theorem dL_law_319 : decode cL_law 319 = .ok (.ireturn, 1) := by decide +kernel
theorem dL_law_320 : decode cL_law 320 = .ok (.aload_n 1, 1) := by decide +kernel
theorem dL_law_321 : decode cL_law 321 = .ok (.aload_n 0, 1) := by decide +kernel
theorem dL_law_322 : decode cL_law 322 = .ok (.iload 4, 2) := by decide +kernel
theorem dL_law_324 : decode cL_law 324 = .ok (.iconst 1, 1) := by decide +kernel
theorem dL_law_325 : decode cL_law 325 = .ok (.iadd, 1) := by decide +kernel
theorem dL_law_326 : decode cL_law 326 = .ok (.iaload, 1) := by decide +kernel
theorem dL_law_327 : decode cL_law 327 = .ok (.aload_n 0, 1) := by decide +kernel
theorem dL_law_328 : decode cL_law 328 = .ok (.iload 4, 2) := by decide +kernel
theorem dL_law_330 : decode cL_law 330 = .ok (.iconst 2, 1) := by decide +kernel
theorem dL_law_331 : decode cL_law 331 = .ok (.iadd, 1) := by decide +kernel
theorem dL_law_332 : decode cL_law 332 = .ok (.iaload, 1) := by decide +kernel
theorem dL_law_333 : decode cL_law 333 = .ok (.invokevirtual 49, 3) := by decide +kernel
theorem dL_law_336 : decode cL_law 336 = .ok (.aload_n 2, 1) := by decide +kernel
theorem dL_law_337 : decode cL_law 337 = .ok (.aload_n 0, 1) := by decide +kernel
theorem dL_law_338 : decode cL_law 338 = .ok (.iload 4, 2) := by decide +kernel
theorem dL_law_340 : decode cL_law 340 = .ok (.iconst 1, 1) := by decide +kernel
theorem dL_law_341 : decode cL_law 341 = .ok (.iadd, 1) := by decide +kernel
theorem dL_law_342 : decode cL_law 342 = .ok (.iaload, 1) := by decide +kernel
theorem dL_law_343 : decode cL_law 343 = .ok (.aload_n 0, 1) := by decide +kernel
theorem dL_law_344 : decode cL_law 344 = .ok (.iload 4, 2) := by decide +kernel
theorem dL_law_346 : decode cL_law 346 = .ok (.iconst 2, 1) := by decide +kernel
theorem dL_law_347 : decode cL_law 347 = .ok (.iadd, 1) := by decide +kernel
theorem dL_law_348 : decode cL_law 348 = .ok (.iaload, 1) := by decide +kernel
theorem dL_law_349 : decode cL_law 349 = .ok (.invokevirtual 52, 3) := by decide +kernel
theorem dL_law_352 : decode cL_law 352 = .ok (.if_icmp .eq 911, 3) := by decide +kernel
theorem dL_law_355 : decode cL_law 355 = .ok (.iconst 0, 1) := by decide +kernel
theorem dL_law_356 : decode cL_law 356 = .ok (.ireturn, 1) := by decide +kernel
theorem dL_law_357 : decode cL_law 357 = .ok (.aload_n 1, 1) := by decide +kernel
theorem dL_law_358 : decode cL_law 358 = .ok (.aload_n 0, 1) := by decide +kernel
theorem dL_law_359 : decode cL_law 359 = .ok (.iload 4, 2) := by decide +kernel
theorem dL_law_361 : decode cL_law 361 = .ok (.iconst 1, 1) := by decide +kernel
theorem dL_law_362 : decode cL_law 362 = .ok (.iadd, 1) := by decide +kernel
theorem dL_law_363 : decode cL_law 363 = .ok (.iaload, 1) := by decide +kernel
theorem dL_law_364 : decode cL_law 364 = .ok (.invokevirtual 53, 3) := by decide +kernel
theorem dL_law_367 : decode cL_law 367 = .ok (.aload_n 2, 1) := by decide +kernel
theorem dL_law_368 : decode cL_law 368 = .ok (.aload_n 0, 1) := by decide +kernel
theorem dL_law_369 : decode cL_law 369 = .ok (.iload 4, 2) := by decide +kernel
theorem dL_law_371 : decode cL_law 371 = .ok (.iconst 1, 1) := by decide +kernel
theorem dL_law_372 : decode cL_law 372 = .ok (.iadd, 1) := by decide +kernel
theorem dL_law_373 : decode cL_law 373 = .ok (.iaload, 1) := by decide +kernel
theorem dL_law_374 : decode cL_law 374 = .ok (.invokevirtual 57, 3) := by decide +kernel
theorem dL_law_377 : decode cL_law 377 = .ok (.if_icmp .eq 886, 3) := by decide +kernel
theorem dL_law_380 : decode cL_law 380 = .ok (.iconst 0, 1) := by decide +kernel
theorem dL_law_381 : decode cL_law 381 = .ok (.ireturn, 1) := by decide +kernel
theorem dL_law_382 : decode cL_law 382 = .ok (.aload_n 1, 1) := by decide +kernel
theorem dL_law_383 : decode cL_law 383 = .ok (.aload_n 0, 1) := by decide +kernel
theorem dL_law_384 : decode cL_law 384 = .ok (.iload 4, 2) := by decide +kernel
theorem dL_law_386 : decode cL_law 386 = .ok (.iconst 1, 1) := by decide +kernel
theorem dL_law_387 : decode cL_law 387 = .ok (.iadd, 1) := by decide +kernel
theorem dL_law_388 : decode cL_law 388 = .ok (.iaload, 1) := by decide +kernel
theorem dL_law_389 : decode cL_law 389 = .ok (.aload_n 0, 1) := by decide +kernel
theorem dL_law_390 : decode cL_law 390 = .ok (.iload 4, 2) := by decide +kernel
theorem dL_law_392 : decode cL_law 392 = .ok (.iconst 2, 1) := by decide +kernel
theorem dL_law_393 : decode cL_law 393 = .ok (.iadd, 1) := by decide +kernel
theorem dL_law_394 : decode cL_law 394 = .ok (.iaload, 1) := by decide +kernel
theorem dL_law_395 : decode cL_law 395 = .ok (.invokevirtual 58, 3) := by decide +kernel
theorem dL_law_398 : decode cL_law 398 = .ok (.aload_n 2, 1) := by decide +kernel
theorem dL_law_399 : decode cL_law 399 = .ok (.aload_n 0, 1) := by decide +kernel
theorem dL_law_400 : decode cL_law 400 = .ok (.iload 4, 2) := by decide +kernel
theorem dL_law_402 : decode cL_law 402 = .ok (.iconst 1, 1) := by decide +kernel
theorem dL_law_403 : decode cL_law 403 = .ok (.iadd, 1) := by decide +kernel
theorem dL_law_404 : decode cL_law 404 = .ok (.iaload, 1) := by decide +kernel
theorem dL_law_405 : decode cL_law 405 = .ok (.aload_n 0, 1) := by decide +kernel
theorem dL_law_406 : decode cL_law 406 = .ok (.iload 4, 2) := by decide +kernel
theorem dL_law_408 : decode cL_law 408 = .ok (.iconst 2, 1) := by decide +kernel
theorem dL_law_409 : decode cL_law 409 = .ok (.iadd, 1) := by decide +kernel
theorem dL_law_410 : decode cL_law 410 = .ok (.iaload, 1) := by decide +kernel
theorem dL_law_411 : decode cL_law 411 = .ok (.invokevirtual 61, 3) := by decide +kernel
theorem dL_law_414 : decode cL_law 414 = .ok (.if_icmp .eq 849, 3) := by decide +kernel
theorem dL_law_417 : decode cL_law 417 = .ok (.iconst 0, 1) := by decide +kernel
theorem dL_law_418 : decode cL_law 418 = .ok (.ireturn, 1) := by decide +kernel
theorem dL_law_419 : decode cL_law 419 = .ok (.aload_n 1, 1) := by decide +kernel
theorem dL_law_420 : decode cL_law 420 = .ok (.invokevirtual 62, 3) := by decide +kernel
theorem dL_law_423 : decode cL_law 423 = .ok (.aload_n 2, 1) := by decide +kernel
theorem dL_law_424 : decode cL_law 424 = .ok (.invokevirtual 66, 3) := by decide +kernel
theorem dL_law_427 : decode cL_law 427 = .ok (.if_icmp .eq 836, 3) := by decide +kernel
theorem dL_law_430 : decode cL_law 430 = .ok (.iconst 0, 1) := by decide +kernel
theorem dL_law_431 : decode cL_law 431 = .ok (.ireturn, 1) := by decide +kernel
theorem dL_law_432 : decode cL_law 432 = .ok (.aload_n 1, 1) := by decide +kernel
theorem dL_law_433 : decode cL_law 433 = .ok (.aload_n 0, 1) := by decide +kernel
theorem dL_law_434 : decode cL_law 434 = .ok (.iload 4, 2) := by decide +kernel
theorem dL_law_436 : decode cL_law 436 = .ok (.iconst 1, 1) := by decide +kernel
theorem dL_law_437 : decode cL_law 437 = .ok (.iadd, 1) := by decide +kernel
theorem dL_law_438 : decode cL_law 438 = .ok (.iaload, 1) := by decide +kernel
theorem dL_law_439 : decode cL_law 439 = .ok (.aload_n 0, 1) := by decide +kernel
theorem dL_law_440 : decode cL_law 440 = .ok (.iload 4, 2) := by decide +kernel
theorem dL_law_442 : decode cL_law 442 = .ok (.iconst 2, 1) := by decide +kernel
theorem dL_law_443 : decode cL_law 443 = .ok (.iadd, 1) := by decide +kernel
theorem dL_law_444 : decode cL_law 444 = .ok (.iaload, 1) := by decide +kernel
theorem dL_law_445 : decode cL_law 445 = .ok (.invokevirtual 67, 3) := by decide +kernel
theorem dL_law_448 : decode cL_law 448 = .ok (.aload_n 2, 1) := by decide +kernel
theorem dL_law_449 : decode cL_law 449 = .ok (.aload_n 0, 1) := by decide +kernel
theorem dL_law_450 : decode cL_law 450 = .ok (.iload 4, 2) := by decide +kernel
theorem dL_law_452 : decode cL_law 452 = .ok (.iconst 1, 1) := by decide +kernel
theorem dL_law_453 : decode cL_law 453 = .ok (.iadd, 1) := by decide +kernel
theorem dL_law_454 : decode cL_law 454 = .ok (.iaload, 1) := by decide +kernel
theorem dL_law_455 : decode cL_law 455 = .ok (.aload_n 0, 1) := by decide +kernel
theorem dL_law_456 : decode cL_law 456 = .ok (.iload 4, 2) := by decide +kernel
theorem dL_law_458 : decode cL_law 458 = .ok (.iconst 2, 1) := by decide +kernel
theorem dL_law_459 : decode cL_law 459 = .ok (.iadd, 1) := by decide +kernel
theorem dL_law_460 : decode cL_law 460 = .ok (.iaload, 1) := by decide +kernel
theorem dL_law_461 : decode cL_law 461 = .ok (.invokevirtual 70, 3) := by decide +kernel
theorem dL_law_464 : decode cL_law 464 = .ok (.if_icmp .eq 799, 3) := by decide +kernel
theorem dL_law_467 : decode cL_law 467 = .ok (.iconst 0, 1) := by decide +kernel
theorem dL_law_468 : decode cL_law 468 = .ok (.ireturn, 1) := by decide +kernel
theorem dL_law_469 : decode cL_law 469 = .ok (.aload_n 1, 1) := by decide +kernel
theorem dL_law_470 : decode cL_law 470 = .ok (.aload_n 0, 1) := by decide +kernel
theorem dL_law_471 : decode cL_law 471 = .ok (.iload 4, 2) := by decide +kernel
theorem dL_law_473 : decode cL_law 473 = .ok (.iconst 1, 1) := by decide +kernel
theorem dL_law_474 : decode cL_law 474 = .ok (.iadd, 1) := by decide +kernel
theorem dL_law_475 : decode cL_law 475 = .ok (.iaload, 1) := by decide +kernel
theorem dL_law_476 : decode cL_law 476 = .ok (.aload_n 0, 1) := by decide +kernel
theorem dL_law_477 : decode cL_law 477 = .ok (.iload 4, 2) := by decide +kernel
theorem dL_law_479 : decode cL_law 479 = .ok (.iconst 2, 1) := by decide +kernel
theorem dL_law_480 : decode cL_law 480 = .ok (.iadd, 1) := by decide +kernel
theorem dL_law_481 : decode cL_law 481 = .ok (.iaload, 1) := by decide +kernel
theorem dL_law_482 : decode cL_law 482 = .ok (.invokevirtual 71, 3) := by decide +kernel
theorem dL_law_485 : decode cL_law 485 = .ok (.aload_n 2, 1) := by decide +kernel
theorem dL_law_486 : decode cL_law 486 = .ok (.aload_n 0, 1) := by decide +kernel
theorem dL_law_487 : decode cL_law 487 = .ok (.iload 4, 2) := by decide +kernel
theorem dL_law_489 : decode cL_law 489 = .ok (.iconst 1, 1) := by decide +kernel
theorem dL_law_490 : decode cL_law 490 = .ok (.iadd, 1) := by decide +kernel
theorem dL_law_491 : decode cL_law 491 = .ok (.iaload, 1) := by decide +kernel
theorem dL_law_492 : decode cL_law 492 = .ok (.aload_n 0, 1) := by decide +kernel
theorem dL_law_493 : decode cL_law 493 = .ok (.iload 4, 2) := by decide +kernel
theorem dL_law_495 : decode cL_law 495 = .ok (.iconst 2, 1) := by decide +kernel
theorem dL_law_496 : decode cL_law 496 = .ok (.iadd, 1) := by decide +kernel
theorem dL_law_497 : decode cL_law 497 = .ok (.iaload, 1) := by decide +kernel
theorem dL_law_498 : decode cL_law 498 = .ok (.invokevirtual 74, 3) := by decide +kernel
theorem dL_law_501 : decode cL_law 501 = .ok (.if_icmp .eq 762, 3) := by decide +kernel
theorem dL_law_504 : decode cL_law 504 = .ok (.iconst 0, 1) := by decide +kernel
theorem dL_law_505 : decode cL_law 505 = .ok (.ireturn, 1) := by decide +kernel
theorem dL_law_506 : decode cL_law 506 = .ok (.aload_n 1, 1) := by decide +kernel
theorem dL_law_507 : decode cL_law 507 = .ok (.aload_n 0, 1) := by decide +kernel
theorem dL_law_508 : decode cL_law 508 = .ok (.iload 4, 2) := by decide +kernel
theorem dL_law_510 : decode cL_law 510 = .ok (.iconst 1, 1) := by decide +kernel
theorem dL_law_511 : decode cL_law 511 = .ok (.iadd, 1) := by decide +kernel
theorem dL_law_512 : decode cL_law 512 = .ok (.iaload, 1) := by decide +kernel
theorem dL_law_513 : decode cL_law 513 = .ok (.aload_n 0, 1) := by decide +kernel
theorem dL_law_514 : decode cL_law 514 = .ok (.iload 4, 2) := by decide +kernel
theorem dL_law_516 : decode cL_law 516 = .ok (.iconst 2, 1) := by decide +kernel
theorem dL_law_517 : decode cL_law 517 = .ok (.iadd, 1) := by decide +kernel
theorem dL_law_518 : decode cL_law 518 = .ok (.iaload, 1) := by decide +kernel
theorem dL_law_519 : decode cL_law 519 = .ok (.invokevirtual 75, 3) := by decide +kernel
theorem dL_law_522 : decode cL_law 522 = .ok (.aload_n 2, 1) := by decide +kernel
theorem dL_law_523 : decode cL_law 523 = .ok (.aload_n 0, 1) := by decide +kernel
theorem dL_law_524 : decode cL_law 524 = .ok (.iload 4, 2) := by decide +kernel
theorem dL_law_526 : decode cL_law 526 = .ok (.iconst 1, 1) := by decide +kernel
theorem dL_law_527 : decode cL_law 527 = .ok (.iadd, 1) := by decide +kernel
theorem dL_law_528 : decode cL_law 528 = .ok (.iaload, 1) := by decide +kernel
theorem dL_law_529 : decode cL_law 529 = .ok (.aload_n 0, 1) := by decide +kernel
theorem dL_law_530 : decode cL_law 530 = .ok (.iload 4, 2) := by decide +kernel
theorem dL_law_532 : decode cL_law 532 = .ok (.iconst 2, 1) := by decide +kernel
theorem dL_law_533 : decode cL_law 533 = .ok (.iadd, 1) := by decide +kernel
theorem dL_law_534 : decode cL_law 534 = .ok (.iaload, 1) := by decide +kernel
theorem dL_law_535 : decode cL_law 535 = .ok (.invokevirtual 79, 3) := by decide +kernel
theorem dL_law_538 : decode cL_law 538 = .ok (.if_icmp .eq 725, 3) := by decide +kernel
theorem dL_law_541 : decode cL_law 541 = .ok (.iconst 0, 1) := by decide +kernel
theorem dL_law_542 : decode cL_law 542 = .ok (.ireturn, 1) := by decide +kernel
theorem dL_law_543 : decode cL_law 543 = .ok (.aload_n 1, 1) := by decide +kernel
theorem dL_law_544 : decode cL_law 544 = .ok (.aload_n 0, 1) := by decide +kernel
theorem dL_law_545 : decode cL_law 545 = .ok (.iload 4, 2) := by decide +kernel
theorem dL_law_547 : decode cL_law 547 = .ok (.iconst 1, 1) := by decide +kernel
theorem dL_law_548 : decode cL_law 548 = .ok (.iadd, 1) := by decide +kernel
theorem dL_law_549 : decode cL_law 549 = .ok (.iaload, 1) := by decide +kernel
theorem dL_law_550 : decode cL_law 550 = .ok (.aload_n 0, 1) := by decide +kernel
theorem dL_law_551 : decode cL_law 551 = .ok (.iload 4, 2) := by decide +kernel
theorem dL_law_553 : decode cL_law 553 = .ok (.iconst 2, 1) := by decide +kernel
theorem dL_law_554 : decode cL_law 554 = .ok (.iadd, 1) := by decide +kernel
theorem dL_law_555 : decode cL_law 555 = .ok (.iaload, 1) := by decide +kernel
theorem dL_law_556 : decode cL_law 556 = .ok (.i2l, 1) := by decide +kernel
theorem dL_law_557 : decode cL_law 557 = .ok (.bipush 32, 2) := by decide +kernel
theorem dL_law_559 : decode cL_law 559 = .ok (.lshl, 1) := by decide +kernel
theorem dL_law_560 : decode cL_law 560 = .ok (.aload_n 0, 1) := by decide +kernel
theorem dL_law_561 : decode cL_law 561 = .ok (.iload 4, 2) := by decide +kernel
theorem dL_law_563 : decode cL_law 563 = .ok (.iconst 3, 1) := by decide +kernel
theorem dL_law_564 : decode cL_law 564 = .ok (.iadd, 1) := by decide +kernel
theorem dL_law_565 : decode cL_law 565 = .ok (.iaload, 1) := by decide +kernel
theorem dL_law_566 : decode cL_law 566 = .ok (.i2l, 1) := by decide +kernel
theorem dL_law_567 : decode cL_law 567 = .ok (.ldc2_w 80, 3) := by decide +kernel
theorem dL_law_570 : decode cL_law 570 = .ok (.land, 1) := by decide +kernel
theorem dL_law_571 : decode cL_law 571 = .ok (.lor, 1) := by decide +kernel
theorem dL_law_572 : decode cL_law 572 = .ok (.aload_n 0, 1) := by decide +kernel
theorem dL_law_573 : decode cL_law 573 = .ok (.iload 4, 2) := by decide +kernel
theorem dL_law_575 : decode cL_law 575 = .ok (.iconst 4, 1) := by decide +kernel
theorem dL_law_576 : decode cL_law 576 = .ok (.iadd, 1) := by decide +kernel
theorem dL_law_577 : decode cL_law 577 = .ok (.iaload, 1) := by decide +kernel
theorem dL_law_578 : decode cL_law 578 = .ok (.aload_n 3, 1) := by decide +kernel
theorem dL_law_579 : decode cL_law 579 = .ok (.invokestatic 82, 3) := by decide +kernel
theorem dL_law_582 : decode cL_law 582 = .ok (.istore 5, 2) := by decide +kernel
theorem dL_law_584 : decode cL_law 584 = .ok (.aload_n 2, 1) := by decide +kernel
theorem dL_law_585 : decode cL_law 585 = .ok (.aload_n 0, 1) := by decide +kernel
theorem dL_law_586 : decode cL_law 586 = .ok (.iload 4, 2) := by decide +kernel
theorem dL_law_588 : decode cL_law 588 = .ok (.iconst 1, 1) := by decide +kernel
theorem dL_law_589 : decode cL_law 589 = .ok (.iadd, 1) := by decide +kernel
theorem dL_law_590 : decode cL_law 590 = .ok (.iaload, 1) := by decide +kernel
theorem dL_law_591 : decode cL_law 591 = .ok (.aload_n 0, 1) := by decide +kernel
theorem dL_law_592 : decode cL_law 592 = .ok (.iload 4, 2) := by decide +kernel
theorem dL_law_594 : decode cL_law 594 = .ok (.iconst 2, 1) := by decide +kernel
theorem dL_law_595 : decode cL_law 595 = .ok (.iadd, 1) := by decide +kernel
theorem dL_law_596 : decode cL_law 596 = .ok (.iaload, 1) := by decide +kernel
theorem dL_law_597 : decode cL_law 597 = .ok (.i2l, 1) := by decide +kernel
theorem dL_law_598 : decode cL_law 598 = .ok (.bipush 32, 2) := by decide +kernel
theorem dL_law_600 : decode cL_law 600 = .ok (.lshl, 1) := by decide +kernel
theorem dL_law_601 : decode cL_law 601 = .ok (.aload_n 0, 1) := by decide +kernel
theorem dL_law_602 : decode cL_law 602 = .ok (.iload 4, 2) := by decide +kernel
theorem dL_law_604 : decode cL_law 604 = .ok (.iconst 3, 1) := by decide +kernel
theorem dL_law_605 : decode cL_law 605 = .ok (.iadd, 1) := by decide +kernel
theorem dL_law_606 : decode cL_law 606 = .ok (.iaload, 1) := by decide +kernel
theorem dL_law_607 : decode cL_law 607 = .ok (.i2l, 1) := by decide +kernel
theorem dL_law_608 : decode cL_law 608 = .ok (.ldc2_w 80, 3) := by decide +kernel
theorem dL_law_611 : decode cL_law 611 = .ok (.land, 1) := by decide +kernel
theorem dL_law_612 : decode cL_law 612 = .ok (.lor, 1) := by decide +kernel
theorem dL_law_613 : decode cL_law 613 = .ok (.aload_n 0, 1) := by decide +kernel
theorem dL_law_614 : decode cL_law 614 = .ok (.iload 4, 2) := by decide +kernel
theorem dL_law_616 : decode cL_law 616 = .ok (.iconst 4, 1) := by decide +kernel
theorem dL_law_617 : decode cL_law 617 = .ok (.iadd, 1) := by decide +kernel
theorem dL_law_618 : decode cL_law 618 = .ok (.iaload, 1) := by decide +kernel
theorem dL_law_619 : decode cL_law 619 = .ok (.invokevirtual 87, 3) := by decide +kernel
theorem dL_law_622 : decode cL_law 622 = .ok (.istore 6, 2) := by decide +kernel
theorem dL_law_624 : decode cL_law 624 = .ok (.aload_n 2, 1) := by decide +kernel
theorem dL_law_625 : decode cL_law 625 = .ok (.invokevirtual 88, 3) := by decide +kernel
theorem dL_law_628 : decode cL_law 628 = .ok (.iload 5, 2) := by decide +kernel
theorem dL_law_630 : decode cL_law 630 = .ok (.if_icmp .eq 5, 3) := by decide +kernel
theorem dL_law_633 : decode cL_law 633 = .ok (.iconst 0, 1) := by decide +kernel
theorem dL_law_634 : decode cL_law 634 = .ok (.ireturn, 1) := by decide +kernel
theorem dL_law_635 : decode cL_law 635 = .ok (.iload 5, 2) := by decide +kernel
theorem dL_law_637 : decode cL_law 637 = .ok (.ifCond .ne 15, 3) := by decide +kernel
theorem dL_law_640 : decode cL_law 640 = .ok (.aload_n 3, 1) := by decide +kernel
theorem dL_law_641 : decode cL_law 641 = .ok (.iconst 0, 1) := by decide +kernel
theorem dL_law_642 : decode cL_law 642 = .ok (.laload, 1) := by decide +kernel
theorem dL_law_643 : decode cL_law 643 = .ok (.iload 6, 2) := by decide +kernel
theorem dL_law_645 : decode cL_law 645 = .ok (.i2l, 1) := by decide +kernel
theorem dL_law_646 : decode cL_law 646 = .ok (.lcmp, 1) := by decide +kernel
theorem dL_law_647 : decode cL_law 647 = .ok (.ifCond .eq 5, 3) := by decide +kernel
theorem dL_law_650 : decode cL_law 650 = .ok (.iconst 0, 1) := by decide +kernel
theorem dL_law_651 : decode cL_law 651 = .ok (.ireturn, 1) := by decide +kernel
theorem dL_law_652 : decode cL_law 652 = .ok (.goto 611, 3) := by decide +kernel
theorem dL_law_655 : decode cL_law 655 = .ok (.aload_n 1, 1) := by decide +kernel
theorem dL_law_656 : decode cL_law 656 = .ok (.aload_n 0, 1) := by decide +kernel
theorem dL_law_657 : decode cL_law 657 = .ok (.iload 4, 2) := by decide +kernel
theorem dL_law_659 : decode cL_law 659 = .ok (.iconst 1, 1) := by decide +kernel
theorem dL_law_660 : decode cL_law 660 = .ok (.iadd, 1) := by decide +kernel
theorem dL_law_661 : decode cL_law 661 = .ok (.iaload, 1) := by decide +kernel
theorem dL_law_662 : decode cL_law 662 = .ok (.aload_n 0, 1) := by decide +kernel
theorem dL_law_663 : decode cL_law 663 = .ok (.iload 4, 2) := by decide +kernel
theorem dL_law_665 : decode cL_law 665 = .ok (.iconst 2, 1) := by decide +kernel
theorem dL_law_666 : decode cL_law 666 = .ok (.iadd, 1) := by decide +kernel
theorem dL_law_667 : decode cL_law 667 = .ok (.iaload, 1) := by decide +kernel
theorem dL_law_668 : decode cL_law 668 = .ok (.i2l, 1) := by decide +kernel
theorem dL_law_669 : decode cL_law 669 = .ok (.bipush 32, 2) := by decide +kernel
theorem dL_law_671 : decode cL_law 671 = .ok (.lshl, 1) := by decide +kernel
theorem dL_law_672 : decode cL_law 672 = .ok (.aload_n 0, 1) := by decide +kernel
theorem dL_law_673 : decode cL_law 673 = .ok (.iload 4, 2) := by decide +kernel
theorem dL_law_675 : decode cL_law 675 = .ok (.iconst 3, 1) := by decide +kernel
theorem dL_law_676 : decode cL_law 676 = .ok (.iadd, 1) := by decide +kernel
theorem dL_law_677 : decode cL_law 677 = .ok (.iaload, 1) := by decide +kernel
theorem dL_law_678 : decode cL_law 678 = .ok (.i2l, 1) := by decide +kernel
theorem dL_law_679 : decode cL_law 679 = .ok (.ldc2_w 80, 3) := by decide +kernel
theorem dL_law_682 : decode cL_law 682 = .ok (.land, 1) := by decide +kernel
theorem dL_law_683 : decode cL_law 683 = .ok (.lor, 1) := by decide +kernel
theorem dL_law_684 : decode cL_law 684 = .ok (.aload_n 0, 1) := by decide +kernel
theorem dL_law_685 : decode cL_law 685 = .ok (.iload 4, 2) := by decide +kernel
theorem dL_law_687 : decode cL_law 687 = .ok (.iconst 4, 1) := by decide +kernel
theorem dL_law_688 : decode cL_law 688 = .ok (.iadd, 1) := by decide +kernel
theorem dL_law_689 : decode cL_law 689 = .ok (.iaload, 1) := by decide +kernel
theorem dL_law_690 : decode cL_law 690 = .ok (.aload_n 3, 1) := by decide +kernel
theorem dL_law_691 : decode cL_law 691 = .ok (.invokestatic 92, 3) := by decide +kernel
theorem dL_law_694 : decode cL_law 694 = .ok (.istore 5, 2) := by decide +kernel
theorem dL_law_696 : decode cL_law 696 = .ok (.aload_n 2, 1) := by decide +kernel
theorem dL_law_697 : decode cL_law 697 = .ok (.aload_n 0, 1) := by decide +kernel
theorem dL_law_698 : decode cL_law 698 = .ok (.iload 4, 2) := by decide +kernel
theorem dL_law_700 : decode cL_law 700 = .ok (.iconst 1, 1) := by decide +kernel
theorem dL_law_701 : decode cL_law 701 = .ok (.iadd, 1) := by decide +kernel
theorem dL_law_702 : decode cL_law 702 = .ok (.iaload, 1) := by decide +kernel
theorem dL_law_703 : decode cL_law 703 = .ok (.aload_n 0, 1) := by decide +kernel
theorem dL_law_704 : decode cL_law 704 = .ok (.iload 4, 2) := by decide +kernel
theorem dL_law_706 : decode cL_law 706 = .ok (.iconst 2, 1) := by decide +kernel
theorem dL_law_707 : decode cL_law 707 = .ok (.iadd, 1) := by decide +kernel
theorem dL_law_708 : decode cL_law 708 = .ok (.iaload, 1) := by decide +kernel
theorem dL_law_709 : decode cL_law 709 = .ok (.i2l, 1) := by decide +kernel
theorem dL_law_710 : decode cL_law 710 = .ok (.bipush 32, 2) := by decide +kernel
theorem dL_law_712 : decode cL_law 712 = .ok (.lshl, 1) := by decide +kernel
theorem dL_law_713 : decode cL_law 713 = .ok (.aload_n 0, 1) := by decide +kernel
theorem dL_law_714 : decode cL_law 714 = .ok (.iload 4, 2) := by decide +kernel
theorem dL_law_716 : decode cL_law 716 = .ok (.iconst 3, 1) := by decide +kernel
theorem dL_law_717 : decode cL_law 717 = .ok (.iadd, 1) := by decide +kernel
theorem dL_law_718 : decode cL_law 718 = .ok (.iaload, 1) := by decide +kernel
theorem dL_law_719 : decode cL_law 719 = .ok (.i2l, 1) := by decide +kernel
theorem dL_law_720 : decode cL_law 720 = .ok (.ldc2_w 80, 3) := by decide +kernel
theorem dL_law_723 : decode cL_law 723 = .ok (.land, 1) := by decide +kernel
theorem dL_law_724 : decode cL_law 724 = .ok (.lor, 1) := by decide +kernel
theorem dL_law_725 : decode cL_law 725 = .ok (.aload_n 0, 1) := by decide +kernel
theorem dL_law_726 : decode cL_law 726 = .ok (.iload 4, 2) := by decide +kernel
theorem dL_law_728 : decode cL_law 728 = .ok (.iconst 4, 1) := by decide +kernel
theorem dL_law_729 : decode cL_law 729 = .ok (.iadd, 1) := by decide +kernel
theorem dL_law_730 : decode cL_law 730 = .ok (.iaload, 1) := by decide +kernel
theorem dL_law_731 : decode cL_law 731 = .ok (.invokevirtual 94, 3) := by decide +kernel
theorem dL_law_734 : decode cL_law 734 = .ok (.istore 6, 2) := by decide +kernel
theorem dL_law_736 : decode cL_law 736 = .ok (.aload_n 2, 1) := by decide +kernel
theorem dL_law_737 : decode cL_law 737 = .ok (.invokevirtual 88, 3) := by decide +kernel
theorem dL_law_740 : decode cL_law 740 = .ok (.iload 5, 2) := by decide +kernel
theorem dL_law_742 : decode cL_law 742 = .ok (.if_icmp .eq 5, 3) := by decide +kernel
theorem dL_law_745 : decode cL_law 745 = .ok (.iconst 0, 1) := by decide +kernel
theorem dL_law_746 : decode cL_law 746 = .ok (.ireturn, 1) := by decide +kernel
theorem dL_law_747 : decode cL_law 747 = .ok (.iload 5, 2) := by decide +kernel
theorem dL_law_749 : decode cL_law 749 = .ok (.ifCond .ne 22, 3) := by decide +kernel
theorem dL_law_752 : decode cL_law 752 = .ok (.aload_n 3, 1) := by decide +kernel
theorem dL_law_753 : decode cL_law 753 = .ok (.iconst 0, 1) := by decide +kernel
theorem dL_law_754 : decode cL_law 754 = .ok (.laload, 1) := by decide +kernel
theorem dL_law_755 : decode cL_law 755 = .ok (.iload 6, 2) := by decide +kernel
theorem dL_law_757 : decode cL_law 757 = .ok (.ifCond .eq 7, 3) := by decide +kernel
theorem dL_law_760 : decode cL_law 760 = .ok (.lconst 1, 1) := by decide +kernel
theorem dL_law_761 : decode cL_law 761 = .ok (.goto 4, 3) := by decide +kernel
theorem dL_law_764 : decode cL_law 764 = .ok (.lconst 0, 1) := by decide +kernel
theorem dL_law_765 : decode cL_law 765 = .ok (.lcmp, 1) := by decide +kernel
theorem dL_law_766 : decode cL_law 766 = .ok (.ifCond .eq 5, 3) := by decide +kernel
theorem dL_law_769 : decode cL_law 769 = .ok (.iconst 0, 1) := by decide +kernel
theorem dL_law_770 : decode cL_law 770 = .ok (.ireturn, 1) := by decide +kernel
theorem dL_law_771 : decode cL_law 771 = .ok (.goto 492, 3) := by decide +kernel
theorem dL_law_774 : decode cL_law 774 = .ok (.aload_n 1, 1) := by decide +kernel
theorem dL_law_775 : decode cL_law 775 = .ok (.aload_n 0, 1) := by decide +kernel
theorem dL_law_776 : decode cL_law 776 = .ok (.iload 4, 2) := by decide +kernel
theorem dL_law_778 : decode cL_law 778 = .ok (.iconst 1, 1) := by decide +kernel
theorem dL_law_779 : decode cL_law 779 = .ok (.iadd, 1) := by decide +kernel
theorem dL_law_780 : decode cL_law 780 = .ok (.iaload, 1) := by decide +kernel
theorem dL_law_781 : decode cL_law 781 = .ok (.aload_n 0, 1) := by decide +kernel
theorem dL_law_782 : decode cL_law 782 = .ok (.iload 4, 2) := by decide +kernel
theorem dL_law_784 : decode cL_law 784 = .ok (.iconst 2, 1) := by decide +kernel
theorem dL_law_785 : decode cL_law 785 = .ok (.iadd, 1) := by decide +kernel
theorem dL_law_786 : decode cL_law 786 = .ok (.iaload, 1) := by decide +kernel
theorem dL_law_787 : decode cL_law 787 = .ok (.invokevirtual 95, 3) := by decide +kernel
theorem dL_law_790 : decode cL_law 790 = .ok (.aload_n 2, 1) := by decide +kernel
theorem dL_law_791 : decode cL_law 791 = .ok (.aload_n 0, 1) := by decide +kernel
theorem dL_law_792 : decode cL_law 792 = .ok (.iload 4, 2) := by decide +kernel
theorem dL_law_794 : decode cL_law 794 = .ok (.iconst 1, 1) := by decide +kernel
theorem dL_law_795 : decode cL_law 795 = .ok (.iadd, 1) := by decide +kernel
theorem dL_law_796 : decode cL_law 796 = .ok (.iaload, 1) := by decide +kernel
theorem dL_law_797 : decode cL_law 797 = .ok (.aload_n 0, 1) := by decide +kernel
theorem dL_law_798 : decode cL_law 798 = .ok (.iload 4, 2) := by decide +kernel
theorem dL_law_800 : decode cL_law 800 = .ok (.iconst 2, 1) := by decide +kernel
theorem dL_law_801 : decode cL_law 801 = .ok (.iadd, 1) := by decide +kernel
theorem dL_law_802 : decode cL_law 802 = .ok (.iaload, 1) := by decide +kernel
theorem dL_law_803 : decode cL_law 803 = .ok (.invokevirtual 98, 3) := by decide +kernel
theorem dL_law_806 : decode cL_law 806 = .ok (.if_icmp .eq 457, 3) := by decide +kernel
theorem dL_law_809 : decode cL_law 809 = .ok (.iconst 0, 1) := by decide +kernel
theorem dL_law_810 : decode cL_law 810 = .ok (.ireturn, 1) := by decide +kernel
theorem dL_law_811 : decode cL_law 811 = .ok (.aload_n 1, 1) := by decide +kernel
theorem dL_law_812 : decode cL_law 812 = .ok (.aload_n 0, 1) := by decide +kernel
theorem dL_law_813 : decode cL_law 813 = .ok (.iload 4, 2) := by decide +kernel
theorem dL_law_815 : decode cL_law 815 = .ok (.iconst 1, 1) := by decide +kernel
theorem dL_law_816 : decode cL_law 816 = .ok (.iadd, 1) := by decide +kernel
theorem dL_law_817 : decode cL_law 817 = .ok (.iaload, 1) := by decide +kernel
theorem dL_law_818 : decode cL_law 818 = .ok (.aload_n 0, 1) := by decide +kernel
theorem dL_law_819 : decode cL_law 819 = .ok (.iload 4, 2) := by decide +kernel
theorem dL_law_821 : decode cL_law 821 = .ok (.iconst 2, 1) := by decide +kernel
theorem dL_law_822 : decode cL_law 822 = .ok (.iadd, 1) := by decide +kernel
theorem dL_law_823 : decode cL_law 823 = .ok (.iaload, 1) := by decide +kernel
theorem dL_law_824 : decode cL_law 824 = .ok (.aload_n 0, 1) := by decide +kernel
theorem dL_law_825 : decode cL_law 825 = .ok (.iload 4, 2) := by decide +kernel
theorem dL_law_827 : decode cL_law 827 = .ok (.iconst 3, 1) := by decide +kernel
theorem dL_law_828 : decode cL_law 828 = .ok (.iadd, 1) := by decide +kernel
theorem dL_law_829 : decode cL_law 829 = .ok (.iaload, 1) := by decide +kernel
theorem dL_law_830 : decode cL_law 830 = .ok (.invokevirtual 99, 3) := by decide +kernel
theorem dL_law_833 : decode cL_law 833 = .ok (.aload_n 2, 1) := by decide +kernel
theorem dL_law_834 : decode cL_law 834 = .ok (.aload_n 0, 1) := by decide +kernel
theorem dL_law_835 : decode cL_law 835 = .ok (.iload 4, 2) := by decide +kernel
theorem dL_law_837 : decode cL_law 837 = .ok (.iconst 1, 1) := by decide +kernel
theorem dL_law_838 : decode cL_law 838 = .ok (.iadd, 1) := by decide +kernel
theorem dL_law_839 : decode cL_law 839 = .ok (.iaload, 1) := by decide +kernel
theorem dL_law_840 : decode cL_law 840 = .ok (.aload_n 0, 1) := by decide +kernel
theorem dL_law_841 : decode cL_law 841 = .ok (.iload 4, 2) := by decide +kernel
theorem dL_law_843 : decode cL_law 843 = .ok (.iconst 2, 1) := by decide +kernel
theorem dL_law_844 : decode cL_law 844 = .ok (.iadd, 1) := by decide +kernel
theorem dL_law_845 : decode cL_law 845 = .ok (.iaload, 1) := by decide +kernel
theorem dL_law_846 : decode cL_law 846 = .ok (.aload_n 0, 1) := by decide +kernel
theorem dL_law_847 : decode cL_law 847 = .ok (.iload 4, 2) := by decide +kernel
theorem dL_law_849 : decode cL_law 849 = .ok (.iconst 3, 1) := by decide +kernel
theorem dL_law_850 : decode cL_law 850 = .ok (.iadd, 1) := by decide +kernel
theorem dL_law_851 : decode cL_law 851 = .ok (.iaload, 1) := by decide +kernel
theorem dL_law_852 : decode cL_law 852 = .ok (.invokevirtual 103, 3) := by decide +kernel
theorem dL_law_855 : decode cL_law 855 = .ok (.if_icmp .eq 408, 3) := by decide +kernel
theorem dL_law_858 : decode cL_law 858 = .ok (.iconst 0, 1) := by decide +kernel
theorem dL_law_859 : decode cL_law 859 = .ok (.ireturn, 1) := by decide +kernel
theorem dL_law_860 : decode cL_law 860 = .ok (.aload_n 1, 1) := by decide +kernel
theorem dL_law_861 : decode cL_law 861 = .ok (.invokevirtual 104, 3) := by decide +kernel
theorem dL_law_864 : decode cL_law 864 = .ok (.aload_n 2, 1) := by decide +kernel
theorem dL_law_865 : decode cL_law 865 = .ok (.invokevirtual 108, 3) := by decide +kernel
theorem dL_law_868 : decode cL_law 868 = .ok (.lcmp, 1) := by decide +kernel
theorem dL_law_869 : decode cL_law 869 = .ok (.ifCond .eq 394, 3) := by decide +kernel
theorem dL_law_872 : decode cL_law 872 = .ok (.iconst 0, 1) := by decide +kernel
theorem dL_law_873 : decode cL_law 873 = .ok (.ireturn, 1) := by decide +kernel
theorem dL_law_874 : decode cL_law 874 = .ok (.aload_n 1, 1) := by decide +kernel
theorem dL_law_875 : decode cL_law 875 = .ok (.invokevirtual 109, 3) := by decide +kernel
theorem dL_law_878 : decode cL_law 878 = .ok (.aload_n 2, 1) := by decide +kernel
theorem dL_law_879 : decode cL_law 879 = .ok (.invokevirtual 112, 3) := by decide +kernel
theorem dL_law_882 : decode cL_law 882 = .ok (.if_icmp .eq 381, 3) := by decide +kernel
theorem dL_law_885 : decode cL_law 885 = .ok (.iconst 0, 1) := by decide +kernel
theorem dL_law_886 : decode cL_law 886 = .ok (.ireturn, 1) := by decide +kernel
theorem dL_law_887 : decode cL_law 887 = .ok (.aload_n 1, 1) := by decide +kernel
theorem dL_law_888 : decode cL_law 888 = .ok (.aload_n 0, 1) := by decide +kernel
theorem dL_law_889 : decode cL_law 889 = .ok (.iload 4, 2) := by decide +kernel
theorem dL_law_891 : decode cL_law 891 = .ok (.iconst 1, 1) := by decide +kernel
theorem dL_law_892 : decode cL_law 892 = .ok (.iadd, 1) := by decide +kernel
theorem dL_law_893 : decode cL_law 893 = .ok (.iaload, 1) := by decide +kernel
theorem dL_law_894 : decode cL_law 894 = .ok (.aload_n 0, 1) := by decide +kernel
theorem dL_law_895 : decode cL_law 895 = .ok (.iload 4, 2) := by decide +kernel
theorem dL_law_897 : decode cL_law 897 = .ok (.iconst 2, 1) := by decide +kernel
theorem dL_law_898 : decode cL_law 898 = .ok (.iadd, 1) := by decide +kernel
theorem dL_law_899 : decode cL_law 899 = .ok (.iaload, 1) := by decide +kernel
theorem dL_law_900 : decode cL_law 900 = .ok (.aload_n 0, 1) := by decide +kernel
theorem dL_law_901 : decode cL_law 901 = .ok (.iload 4, 2) := by decide +kernel
theorem dL_law_903 : decode cL_law 903 = .ok (.iconst 3, 1) := by decide +kernel
theorem dL_law_904 : decode cL_law 904 = .ok (.iadd, 1) := by decide +kernel
theorem dL_law_905 : decode cL_law 905 = .ok (.iaload, 1) := by decide +kernel
theorem dL_law_906 : decode cL_law 906 = .ok (.i2l, 1) := by decide +kernel
theorem dL_law_907 : decode cL_law 907 = .ok (.bipush 32, 2) := by decide +kernel
theorem dL_law_909 : decode cL_law 909 = .ok (.lshl, 1) := by decide +kernel
theorem dL_law_910 : decode cL_law 910 = .ok (.aload_n 0, 1) := by decide +kernel
theorem dL_law_911 : decode cL_law 911 = .ok (.iload 4, 2) := by decide +kernel
theorem dL_law_913 : decode cL_law 913 = .ok (.iconst 4, 1) := by decide +kernel
theorem dL_law_914 : decode cL_law 914 = .ok (.iadd, 1) := by decide +kernel
theorem dL_law_915 : decode cL_law 915 = .ok (.iaload, 1) := by decide +kernel
theorem dL_law_916 : decode cL_law 916 = .ok (.i2l, 1) := by decide +kernel
theorem dL_law_917 : decode cL_law 917 = .ok (.ldc2_w 80, 3) := by decide +kernel
theorem dL_law_920 : decode cL_law 920 = .ok (.land, 1) := by decide +kernel
theorem dL_law_921 : decode cL_law 921 = .ok (.lor, 1) := by decide +kernel
theorem dL_law_922 : decode cL_law 922 = .ok (.aload_n 0, 1) := by decide +kernel
theorem dL_law_923 : decode cL_law 923 = .ok (.iload 4, 2) := by decide +kernel
theorem dL_law_925 : decode cL_law 925 = .ok (.iconst 5, 1) := by decide +kernel
theorem dL_law_926 : decode cL_law 926 = .ok (.iadd, 1) := by decide +kernel
theorem dL_law_927 : decode cL_law 927 = .ok (.iaload, 1) := by decide +kernel
theorem dL_law_928 : decode cL_law 928 = .ok (.aload_n 0, 1) := by decide +kernel
theorem dL_law_929 : decode cL_law 929 = .ok (.iload 4, 2) := by decide +kernel
theorem dL_law_931 : decode cL_law 931 = .ok (.bipush 6, 2) := by decide +kernel
theorem dL_law_933 : decode cL_law 933 = .ok (.iadd, 1) := by decide +kernel
theorem dL_law_934 : decode cL_law 934 = .ok (.iaload, 1) := by decide +kernel
theorem dL_law_935 : decode cL_law 935 = .ok (.i2l, 1) := by decide +kernel
theorem dL_law_936 : decode cL_law 936 = .ok (.bipush 32, 2) := by decide +kernel
theorem dL_law_938 : decode cL_law 938 = .ok (.lshl, 1) := by decide +kernel
theorem dL_law_939 : decode cL_law 939 = .ok (.aload_n 0, 1) := by decide +kernel
theorem dL_law_940 : decode cL_law 940 = .ok (.iload 4, 2) := by decide +kernel
theorem dL_law_942 : decode cL_law 942 = .ok (.bipush 7, 2) := by decide +kernel
theorem dL_law_944 : decode cL_law 944 = .ok (.iadd, 1) := by decide +kernel
theorem dL_law_945 : decode cL_law 945 = .ok (.iaload, 1) := by decide +kernel
theorem dL_law_946 : decode cL_law 946 = .ok (.i2l, 1) := by decide +kernel
theorem dL_law_947 : decode cL_law 947 = .ok (.ldc2_w 80, 3) := by decide +kernel
theorem dL_law_950 : decode cL_law 950 = .ok (.land, 1) := by decide +kernel
theorem dL_law_951 : decode cL_law 951 = .ok (.lor, 1) := by decide +kernel
theorem dL_law_952 : decode cL_law 952 = .ok (.aload_n 0, 1) := by decide +kernel
theorem dL_law_953 : decode cL_law 953 = .ok (.iload 4, 2) := by decide +kernel
theorem dL_law_955 : decode cL_law 955 = .ok (.bipush 8, 2) := by decide +kernel
theorem dL_law_957 : decode cL_law 957 = .ok (.iadd, 1) := by decide +kernel
theorem dL_law_958 : decode cL_law 958 = .ok (.iaload, 1) := by decide +kernel
theorem dL_law_959 : decode cL_law 959 = .ok (.invokevirtual 113, 3) := by decide +kernel
theorem dL_law_962 : decode cL_law 962 = .ok (.aload_n 2, 1) := by decide +kernel
theorem dL_law_963 : decode cL_law 963 = .ok (.aload_n 0, 1) := by decide +kernel
theorem dL_law_964 : decode cL_law 964 = .ok (.iload 4, 2) := by decide +kernel
theorem dL_law_966 : decode cL_law 966 = .ok (.iconst 1, 1) := by decide +kernel
theorem dL_law_967 : decode cL_law 967 = .ok (.iadd, 1) := by decide +kernel
theorem dL_law_968 : decode cL_law 968 = .ok (.iaload, 1) := by decide +kernel
theorem dL_law_969 : decode cL_law 969 = .ok (.aload_n 0, 1) := by decide +kernel
theorem dL_law_970 : decode cL_law 970 = .ok (.iload 4, 2) := by decide +kernel
theorem dL_law_972 : decode cL_law 972 = .ok (.iconst 2, 1) := by decide +kernel
theorem dL_law_973 : decode cL_law 973 = .ok (.iadd, 1) := by decide +kernel
theorem dL_law_974 : decode cL_law 974 = .ok (.iaload, 1) := by decide +kernel
theorem dL_law_975 : decode cL_law 975 = .ok (.aload_n 0, 1) := by decide +kernel
theorem dL_law_976 : decode cL_law 976 = .ok (.iload 4, 2) := by decide +kernel
theorem dL_law_978 : decode cL_law 978 = .ok (.iconst 3, 1) := by decide +kernel
theorem dL_law_979 : decode cL_law 979 = .ok (.iadd, 1) := by decide +kernel
theorem dL_law_980 : decode cL_law 980 = .ok (.iaload, 1) := by decide +kernel
theorem dL_law_981 : decode cL_law 981 = .ok (.i2l, 1) := by decide +kernel
theorem dL_law_982 : decode cL_law 982 = .ok (.bipush 32, 2) := by decide +kernel
theorem dL_law_984 : decode cL_law 984 = .ok (.lshl, 1) := by decide +kernel
theorem dL_law_985 : decode cL_law 985 = .ok (.aload_n 0, 1) := by decide +kernel
theorem dL_law_986 : decode cL_law 986 = .ok (.iload 4, 2) := by decide +kernel
theorem dL_law_988 : decode cL_law 988 = .ok (.iconst 4, 1) := by decide +kernel
theorem dL_law_989 : decode cL_law 989 = .ok (.iadd, 1) := by decide +kernel
theorem dL_law_990 : decode cL_law 990 = .ok (.iaload, 1) := by decide +kernel
theorem dL_law_991 : decode cL_law 991 = .ok (.i2l, 1) := by decide +kernel
theorem dL_law_992 : decode cL_law 992 = .ok (.ldc2_w 80, 3) := by decide +kernel
theorem dL_law_995 : decode cL_law 995 = .ok (.land, 1) := by decide +kernel
theorem dL_law_996 : decode cL_law 996 = .ok (.lor, 1) := by decide +kernel
theorem dL_law_997 : decode cL_law 997 = .ok (.aload_n 0, 1) := by decide +kernel
theorem dL_law_998 : decode cL_law 998 = .ok (.iload 4, 2) := by decide +kernel
theorem dL_law_1000 : decode cL_law 1000 = .ok (.iconst 5, 1) := by decide +kernel
theorem dL_law_1001 : decode cL_law 1001 = .ok (.iadd, 1) := by decide +kernel
theorem dL_law_1002 : decode cL_law 1002 = .ok (.iaload, 1) := by decide +kernel
theorem dL_law_1003 : decode cL_law 1003 = .ok (.aload_n 0, 1) := by decide +kernel
theorem dL_law_1004 : decode cL_law 1004 = .ok (.iload 4, 2) := by decide +kernel
theorem dL_law_1006 : decode cL_law 1006 = .ok (.bipush 6, 2) := by decide +kernel
theorem dL_law_1008 : decode cL_law 1008 = .ok (.iadd, 1) := by decide +kernel
theorem dL_law_1009 : decode cL_law 1009 = .ok (.iaload, 1) := by decide +kernel
theorem dL_law_1010 : decode cL_law 1010 = .ok (.i2l, 1) := by decide +kernel
theorem dL_law_1011 : decode cL_law 1011 = .ok (.bipush 32, 2) := by decide +kernel
theorem dL_law_1013 : decode cL_law 1013 = .ok (.lshl, 1) := by decide +kernel
theorem dL_law_1014 : decode cL_law 1014 = .ok (.aload_n 0, 1) := by decide +kernel
theorem dL_law_1015 : decode cL_law 1015 = .ok (.iload 4, 2) := by decide +kernel
theorem dL_law_1017 : decode cL_law 1017 = .ok (.bipush 7, 2) := by decide +kernel
theorem dL_law_1019 : decode cL_law 1019 = .ok (.iadd, 1) := by decide +kernel
theorem dL_law_1020 : decode cL_law 1020 = .ok (.iaload, 1) := by decide +kernel
theorem dL_law_1021 : decode cL_law 1021 = .ok (.i2l, 1) := by decide +kernel
theorem dL_law_1022 : decode cL_law 1022 = .ok (.ldc2_w 80, 3) := by decide +kernel
theorem dL_law_1025 : decode cL_law 1025 = .ok (.land, 1) := by decide +kernel
theorem dL_law_1026 : decode cL_law 1026 = .ok (.lor, 1) := by decide +kernel
theorem dL_law_1027 : decode cL_law 1027 = .ok (.aload_n 0, 1) := by decide +kernel
theorem dL_law_1028 : decode cL_law 1028 = .ok (.iload 4, 2) := by decide +kernel
theorem dL_law_1030 : decode cL_law 1030 = .ok (.bipush 8, 2) := by decide +kernel
theorem dL_law_1032 : decode cL_law 1032 = .ok (.iadd, 1) := by decide +kernel
theorem dL_law_1033 : decode cL_law 1033 = .ok (.iaload, 1) := by decide +kernel
theorem dL_law_1034 : decode cL_law 1034 = .ok (.invokevirtual 117, 3) := by decide +kernel
theorem dL_law_1037 : decode cL_law 1037 = .ok (.if_icmp .eq 226, 3) := by decide +kernel
theorem dL_law_1040 : decode cL_law 1040 = .ok (.iconst 0, 1) := by decide +kernel
theorem dL_law_1041 : decode cL_law 1041 = .ok (.ireturn, 1) := by decide +kernel
theorem dL_law_1042 : decode cL_law 1042 = .ok (.aload_n 1, 1) := by decide +kernel
theorem dL_law_1043 : decode cL_law 1043 = .ok (.aload_n 0, 1) := by decide +kernel
theorem dL_law_1044 : decode cL_law 1044 = .ok (.iload 4, 2) := by decide +kernel
theorem dL_law_1046 : decode cL_law 1046 = .ok (.iconst 1, 1) := by decide +kernel
theorem dL_law_1047 : decode cL_law 1047 = .ok (.iadd, 1) := by decide +kernel
theorem dL_law_1048 : decode cL_law 1048 = .ok (.iaload, 1) := by decide +kernel
theorem dL_law_1049 : decode cL_law 1049 = .ok (.invokevirtual 118, 3) := by decide +kernel
theorem dL_law_1052 : decode cL_law 1052 = .ok (.aload_n 2, 1) := by decide +kernel
theorem dL_law_1053 : decode cL_law 1053 = .ok (.aload_n 0, 1) := by decide +kernel
theorem dL_law_1054 : decode cL_law 1054 = .ok (.iload 4, 2) := by decide +kernel
theorem dL_law_1056 : decode cL_law 1056 = .ok (.iconst 1, 1) := by decide +kernel
theorem dL_law_1057 : decode cL_law 1057 = .ok (.iadd, 1) := by decide +kernel
theorem dL_law_1058 : decode cL_law 1058 = .ok (.iaload, 1) := by decide +kernel
theorem dL_law_1059 : decode cL_law 1059 = .ok (.invokevirtual 121, 3) := by decide +kernel
theorem dL_law_1062 : decode cL_law 1062 = .ok (.if_icmp .eq 201, 3) := by decide +kernel
theorem dL_law_1065 : decode cL_law 1065 = .ok (.iconst 0, 1) := by decide +kernel
theorem dL_law_1066 : decode cL_law 1066 = .ok (.ireturn, 1) := by decide +kernel
theorem dL_law_1067 : decode cL_law 1067 = .ok (.aload_n 1, 1) := by decide +kernel
theorem dL_law_1068 : decode cL_law 1068 = .ok (.aload_n 0, 1) := by decide +kernel
theorem dL_law_1069 : decode cL_law 1069 = .ok (.iload 4, 2) := by decide +kernel
theorem dL_law_1071 : decode cL_law 1071 = .ok (.iconst 1, 1) := by decide +kernel
theorem dL_law_1072 : decode cL_law 1072 = .ok (.iadd, 1) := by decide +kernel
theorem dL_law_1073 : decode cL_law 1073 = .ok (.iaload, 1) := by decide +kernel
theorem dL_law_1074 : decode cL_law 1074 = .ok (.invokevirtual 122, 3) := by decide +kernel
theorem dL_law_1077 : decode cL_law 1077 = .ok (.aload_n 2, 1) := by decide +kernel
theorem dL_law_1078 : decode cL_law 1078 = .ok (.aload_n 0, 1) := by decide +kernel
theorem dL_law_1079 : decode cL_law 1079 = .ok (.iload 4, 2) := by decide +kernel
theorem dL_law_1081 : decode cL_law 1081 = .ok (.iconst 1, 1) := by decide +kernel
theorem dL_law_1082 : decode cL_law 1082 = .ok (.iadd, 1) := by decide +kernel
theorem dL_law_1083 : decode cL_law 1083 = .ok (.iaload, 1) := by decide +kernel
theorem dL_law_1084 : decode cL_law 1084 = .ok (.invokevirtual 125, 3) := by decide +kernel
theorem dL_law_1087 : decode cL_law 1087 = .ok (.if_icmp .eq 176, 3) := by decide +kernel
theorem dL_law_1090 : decode cL_law 1090 = .ok (.iconst 0, 1) := by decide +kernel
theorem dL_law_1091 : decode cL_law 1091 = .ok (.ireturn, 1) := by decide +kernel
theorem dL_law_1092 : decode cL_law 1092 = .ok (.aload_n 1, 1) := by decide +kernel
theorem dL_law_1093 : decode cL_law 1093 = .ok (.aload_n 0, 1) := by decide +kernel
theorem dL_law_1094 : decode cL_law 1094 = .ok (.iload 4, 2) := by decide +kernel
theorem dL_law_1096 : decode cL_law 1096 = .ok (.iconst 1, 1) := by decide +kernel
theorem dL_law_1097 : decode cL_law 1097 = .ok (.iadd, 1) := by decide +kernel
theorem dL_law_1098 : decode cL_law 1098 = .ok (.iaload, 1) := by decide +kernel
theorem dL_law_1099 : decode cL_law 1099 = .ok (.i2l, 1) := by decide +kernel
theorem dL_law_1100 : decode cL_law 1100 = .ok (.bipush 32, 2) := by decide +kernel
theorem dL_law_1102 : decode cL_law 1102 = .ok (.lshl, 1) := by decide +kernel
theorem dL_law_1103 : decode cL_law 1103 = .ok (.aload_n 0, 1) := by decide +kernel
theorem dL_law_1104 : decode cL_law 1104 = .ok (.iload 4, 2) := by decide +kernel
theorem dL_law_1106 : decode cL_law 1106 = .ok (.iconst 2, 1) := by decide +kernel
theorem dL_law_1107 : decode cL_law 1107 = .ok (.iadd, 1) := by decide +kernel
theorem dL_law_1108 : decode cL_law 1108 = .ok (.iaload, 1) := by decide +kernel
theorem dL_law_1109 : decode cL_law 1109 = .ok (.i2l, 1) := by decide +kernel
theorem dL_law_1110 : decode cL_law 1110 = .ok (.ldc2_w 80, 3) := by decide +kernel
theorem dL_law_1113 : decode cL_law 1113 = .ok (.land, 1) := by decide +kernel
theorem dL_law_1114 : decode cL_law 1114 = .ok (.lor, 1) := by decide +kernel
theorem dL_law_1115 : decode cL_law 1115 = .ok (.aload_n 0, 1) := by decide +kernel
theorem dL_law_1116 : decode cL_law 1116 = .ok (.iload 4, 2) := by decide +kernel
theorem dL_law_1118 : decode cL_law 1118 = .ok (.iconst 3, 1) := by decide +kernel
theorem dL_law_1119 : decode cL_law 1119 = .ok (.iadd, 1) := by decide +kernel
theorem dL_law_1120 : decode cL_law 1120 = .ok (.iaload, 1) := by decide +kernel
theorem dL_law_1121 : decode cL_law 1121 = .ok (.invokevirtual 126, 3) := by decide +kernel
theorem dL_law_1124 : decode cL_law 1124 = .ok (.aload_n 2, 1) := by decide +kernel
theorem dL_law_1125 : decode cL_law 1125 = .ok (.aload_n 0, 1) := by decide +kernel
theorem dL_law_1126 : decode cL_law 1126 = .ok (.iload 4, 2) := by decide +kernel
theorem dL_law_1128 : decode cL_law 1128 = .ok (.iconst 1, 1) := by decide +kernel
theorem dL_law_1129 : decode cL_law 1129 = .ok (.iadd, 1) := by decide +kernel
theorem dL_law_1130 : decode cL_law 1130 = .ok (.iaload, 1) := by decide +kernel
theorem dL_law_1131 : decode cL_law 1131 = .ok (.i2l, 1) := by decide +kernel
theorem dL_law_1132 : decode cL_law 1132 = .ok (.bipush 32, 2) := by decide +kernel
theorem dL_law_1134 : decode cL_law 1134 = .ok (.lshl, 1) := by decide +kernel
theorem dL_law_1135 : decode cL_law 1135 = .ok (.aload_n 0, 1) := by decide +kernel
theorem dL_law_1136 : decode cL_law 1136 = .ok (.iload 4, 2) := by decide +kernel
theorem dL_law_1138 : decode cL_law 1138 = .ok (.iconst 2, 1) := by decide +kernel
theorem dL_law_1139 : decode cL_law 1139 = .ok (.iadd, 1) := by decide +kernel
theorem dL_law_1140 : decode cL_law 1140 = .ok (.iaload, 1) := by decide +kernel
theorem dL_law_1141 : decode cL_law 1141 = .ok (.i2l, 1) := by decide +kernel
theorem dL_law_1142 : decode cL_law 1142 = .ok (.ldc2_w 80, 3) := by decide +kernel
theorem dL_law_1145 : decode cL_law 1145 = .ok (.land, 1) := by decide +kernel
theorem dL_law_1146 : decode cL_law 1146 = .ok (.lor, 1) := by decide +kernel
theorem dL_law_1147 : decode cL_law 1147 = .ok (.aload_n 0, 1) := by decide +kernel
theorem dL_law_1148 : decode cL_law 1148 = .ok (.iload 4, 2) := by decide +kernel
theorem dL_law_1150 : decode cL_law 1150 = .ok (.iconst 3, 1) := by decide +kernel
theorem dL_law_1151 : decode cL_law 1151 = .ok (.iadd, 1) := by decide +kernel
theorem dL_law_1152 : decode cL_law 1152 = .ok (.iaload, 1) := by decide +kernel
theorem dL_law_1153 : decode cL_law 1153 = .ok (.invokevirtual 130, 3) := by decide +kernel
theorem dL_law_1156 : decode cL_law 1156 = .ok (.if_icmp .eq 107, 3) := by decide +kernel
theorem dL_law_1159 : decode cL_law 1159 = .ok (.iconst 0, 1) := by decide +kernel
theorem dL_law_1160 : decode cL_law 1160 = .ok (.ireturn, 1) := by decide +kernel
theorem dL_law_1161 : decode cL_law 1161 = .ok (.aload_n 1, 1) := by decide +kernel
theorem dL_law_1162 : decode cL_law 1162 = .ok (.aload_n 0, 1) := by decide +kernel
theorem dL_law_1163 : decode cL_law 1163 = .ok (.iload 4, 2) := by decide +kernel
theorem dL_law_1165 : decode cL_law 1165 = .ok (.iconst 1, 1) := by decide +kernel
theorem dL_law_1166 : decode cL_law 1166 = .ok (.iadd, 1) := by decide +kernel
theorem dL_law_1167 : decode cL_law 1167 = .ok (.iaload, 1) := by decide +kernel
theorem dL_law_1168 : decode cL_law 1168 = .ok (.invokevirtual 131, 3) := by decide +kernel
theorem dL_law_1171 : decode cL_law 1171 = .ok (.aload_n 2, 1) := by decide +kernel
theorem dL_law_1172 : decode cL_law 1172 = .ok (.aload_n 0, 1) := by decide +kernel
theorem dL_law_1173 : decode cL_law 1173 = .ok (.iload 4, 2) := by decide +kernel
theorem dL_law_1175 : decode cL_law 1175 = .ok (.iconst 1, 1) := by decide +kernel
theorem dL_law_1176 : decode cL_law 1176 = .ok (.iadd, 1) := by decide +kernel
theorem dL_law_1177 : decode cL_law 1177 = .ok (.iaload, 1) := by decide +kernel
theorem dL_law_1178 : decode cL_law 1178 = .ok (.invokevirtual 134, 3) := by decide +kernel
theorem dL_law_1181 : decode cL_law 1181 = .ok (.if_icmp .eq 82, 3) := by decide +kernel
theorem dL_law_1184 : decode cL_law 1184 = .ok (.iconst 0, 1) := by decide +kernel
theorem dL_law_1185 : decode cL_law 1185 = .ok (.ireturn, 1) := by decide +kernel
theorem dL_law_1186 : decode cL_law 1186 = .ok (.aload_n 1, 1) := by decide +kernel
theorem dL_law_1187 : decode cL_law 1187 = .ok (.invokevirtual 135, 3) := by decide +kernel
theorem dL_law_1190 : decode cL_law 1190 = .ok (.aload_n 2, 1) := by decide +kernel
theorem dL_law_1191 : decode cL_law 1191 = .ok (.invokevirtual 138, 3) := by decide +kernel
theorem dL_law_1194 : decode cL_law 1194 = .ok (.if_icmp .eq 69, 3) := by decide +kernel
theorem dL_law_1197 : decode cL_law 1197 = .ok (.iconst 0, 1) := by decide +kernel
theorem dL_law_1198 : decode cL_law 1198 = .ok (.ireturn, 1) := by decide +kernel
theorem dL_law_1199 : decode cL_law 1199 = .ok (.aload_n 1, 1) := by decide +kernel
theorem dL_law_1200 : decode cL_law 1200 = .ok (.invokevirtual 139, 3) := by decide +kernel
theorem dL_law_1203 : decode cL_law 1203 = .ok (.aload_n 2, 1) := by decide +kernel
theorem dL_law_1204 : decode cL_law 1204 = .ok (.invokevirtual 142, 3) := by decide +kernel
theorem dL_law_1207 : decode cL_law 1207 = .ok (.if_icmp .eq 56, 3) := by decide +kernel
theorem dL_law_1210 : decode cL_law 1210 = .ok (.iconst 0, 1) := by decide +kernel
theorem dL_law_1211 : decode cL_law 1211 = .ok (.ireturn, 1) := by decide +kernel
theorem dL_law_1212 : decode cL_law 1212 = .ok (.aload_n 1, 1) := by decide +kernel
theorem dL_law_1213 : decode cL_law 1213 = .ok (.invokevirtual 143, 3) := by decide +kernel
theorem dL_law_1216 : decode cL_law 1216 = .ok (.aload_n 2, 1) := by decide +kernel
theorem dL_law_1217 : decode cL_law 1217 = .ok (.invokevirtual 146, 3) := by decide +kernel
theorem dL_law_1220 : decode cL_law 1220 = .ok (.if_icmp .eq 43, 3) := by decide +kernel
theorem dL_law_1223 : decode cL_law 1223 = .ok (.iconst 0, 1) := by decide +kernel
theorem dL_law_1224 : decode cL_law 1224 = .ok (.ireturn, 1) := by decide +kernel
theorem dL_law_1225 : decode cL_law 1225 = .ok (.aload_n 1, 1) := by decide +kernel
theorem dL_law_1226 : decode cL_law 1226 = .ok (.invokevirtual 147, 3) := by decide +kernel
theorem dL_law_1229 : decode cL_law 1229 = .ok (.aload_n 2, 1) := by decide +kernel
theorem dL_law_1230 : decode cL_law 1230 = .ok (.invokevirtual 150, 3) := by decide +kernel
theorem dL_law_1233 : decode cL_law 1233 = .ok (.if_icmp .eq 30, 3) := by decide +kernel
theorem dL_law_1236 : decode cL_law 1236 = .ok (.iconst 0, 1) := by decide +kernel
theorem dL_law_1237 : decode cL_law 1237 = .ok (.ireturn, 1) := by decide +kernel
theorem dL_law_1238 : decode cL_law 1238 = .ok (.aload_n 1, 1) := by decide +kernel
theorem dL_law_1239 : decode cL_law 1239 = .ok (.aload_n 0, 1) := by decide +kernel
theorem dL_law_1240 : decode cL_law 1240 = .ok (.iload 4, 2) := by decide +kernel
theorem dL_law_1242 : decode cL_law 1242 = .ok (.iconst 1, 1) := by decide +kernel
theorem dL_law_1243 : decode cL_law 1243 = .ok (.iadd, 1) := by decide +kernel
theorem dL_law_1244 : decode cL_law 1244 = .ok (.iaload, 1) := by decide +kernel
theorem dL_law_1245 : decode cL_law 1245 = .ok (.invokevirtual 151, 3) := by decide +kernel
theorem dL_law_1248 : decode cL_law 1248 = .ok (.aload_n 2, 1) := by decide +kernel
theorem dL_law_1249 : decode cL_law 1249 = .ok (.aload_n 0, 1) := by decide +kernel
theorem dL_law_1250 : decode cL_law 1250 = .ok (.iload 4, 2) := by decide +kernel
theorem dL_law_1252 : decode cL_law 1252 = .ok (.iconst 1, 1) := by decide +kernel
theorem dL_law_1253 : decode cL_law 1253 = .ok (.iadd, 1) := by decide +kernel
theorem dL_law_1254 : decode cL_law 1254 = .ok (.iaload, 1) := by decide +kernel
theorem dL_law_1255 : decode cL_law 1255 = .ok (.invokevirtual 154, 3) := by decide +kernel
theorem dL_law_1258 : decode cL_law 1258 = .ok (.if_icmp .eq 5, 3) := by decide +kernel
theorem dL_law_1261 : decode cL_law 1261 = .ok (.iconst 0, 1) := by decide +kernel
theorem dL_law_1262 : decode cL_law 1262 = .ok (.ireturn, 1) := by decide +kernel
theorem dL_law_1263 : decode cL_law 1263 = .ok (.iinc 4 9, 3) := by decide +kernel
theorem dL_law_1266 : decode cL_law 1266 = .ok (.goto (-1243), 3) := by decide +kernel
theorem dL_law_1269 : decode cL_law 1269 = .ok (.iconst 1, 1) := by decide +kernel
theorem dL_law_1270 : decode cL_law 1270 = .ok (.ireturn, 1) := by decide +kernel
def cdL (L : Nat) (xs : Nat → Int32) (f1 f2 : dm_Sem) : dm_Code := [[dm_new 3 7 nf_X10, dm_no, dm_no, dm_dup 4, dm_ini 7 94 0, dm_no, dm_no, dm_ast 8 1, dm_new 11 8 nf_X11, dm_no, dm_no, dm_dup 12, dm_ini 15 134 0, dm_no, dm_no, dm_ast 16 2],
  [dm_push 17 (.int 1), dm_newa 19 .long, dm_no, dm_ast 20 3, dm_push 21 (.int 0), dm_ist 23 4, dm_no, dm_ild 25 4, dm_no, dm_ald 26 0, dm_sln 27 L, dm_push 29 (.int 9), dm_no, dm_ii 30 (fun x y => x - y), dm_ic_gt 33 1269, dm_no],
  [dm_no, dm_ald 34 0, dm_ild 36 4, dm_no, dm_sld 37 L xs, dm_push 39 (.int 31), dm_no, dm_ii 40 (fun x y => x &&& y), dm_tsw 0 28 1263 [172, 183, 208, 233, 270, 295, 320, 357, 382, 419, 432, 469, 506, 543, 655, 774, 811, 860, 874, 887, 1042, 1067, 1092, 1161, 1186, 1199, 1212, 1225, 1238], dm_no, dm_no, dm_no, dm_no, dm_no, dm_no, dm_no],
  [dm_no, dm_no, dm_no, dm_no, dm_no, dm_no, dm_no, dm_no, dm_no, dm_no, dm_no, dm_no, dm_no, dm_no, dm_no, dm_no],
  [dm_no, dm_no, dm_no, dm_no, dm_no, dm_no, dm_no, dm_no, dm_no, dm_no, dm_no, dm_no, dm_no, dm_no, dm_no, dm_no],
  [dm_no, dm_no, dm_no, dm_no, dm_no, dm_no, dm_no, dm_no, dm_no, dm_no, dm_no, dm_no, dm_no, dm_no, dm_no, dm_no],
  [dm_no, dm_no, dm_no, dm_no, dm_no, dm_no, dm_no, dm_no, dm_no, dm_no, dm_no, dm_no, dm_no, dm_no, dm_no, dm_no],
  [dm_no, dm_no, dm_no, dm_no, dm_no, dm_no, dm_no, dm_no, dm_no, dm_no, dm_no, dm_no, dm_no, dm_no, dm_no, dm_no],
  [dm_no, dm_no, dm_no, dm_no, dm_no, dm_no, dm_no, dm_no, dm_no, dm_no, dm_no, dm_no, dm_no, dm_no, dm_no, dm_no],
  [dm_no, dm_no, dm_no, dm_no, dm_no, dm_no, dm_no, dm_no, dm_no, dm_no, dm_no, dm_no, dm_no, dm_no, dm_no, dm_no],
  [dm_no, dm_no, dm_no, dm_no, dm_no, dm_no, dm_no, dm_no, dm_no, dm_no, dm_no, dm_no, dm_ald 173 1, dm_inv 176 95 0 7, dm_no, dm_no],
  [dm_ald 177 2, dm_inv 180 136 0 8, dm_no, dm_no, dm_goto 1263, dm_no, dm_no, dm_ald 184 1, dm_ald 185 0, dm_ild 187 4, dm_no, dm_push 188 (.int 1), dm_ii 189 (fun x y => x + y), dm_sld 190 L xs, dm_inv 193 96 1 7, dm_no],
  [dm_no, dm_ald 194 2, dm_ald 195 0, dm_ild 197 4, dm_no, dm_push 198 (.int 1), dm_ii 199 (fun x y => x + y), dm_sld 200 L xs, dm_inv 203 158 1 8, dm_no, dm_no, dm_ic_eq 206 1263, dm_no, dm_no, dm_push 207 (.int 0), dm_ret .boolean],
  [dm_ald 209 1, dm_ald 210 0, dm_ild 212 4, dm_no, dm_push 213 (.int 1), dm_ii 214 (fun x y => x + y), dm_sld 215 L xs, dm_inv 218 97 1 7, dm_no, dm_no, dm_ald 219 2, dm_ald 220 0, dm_ild 222 4, dm_no, dm_push 223 (.int 1), dm_ii 224 (fun x y => x + y)],
  [dm_sld 225 L xs, dm_inv 228 163 1 8, dm_no, dm_no, dm_ic_eq 231 1263, dm_no, dm_no, dm_push 232 (.int 0), dm_ret .boolean, dm_ald 234 1, dm_ald 235 0, dm_ild 237 4, dm_no, dm_push 238 (.int 1), dm_ii 239 (fun x y => x + y), dm_sld 240 L xs],
  [dm_ald 241 0, dm_ild 243 4, dm_no, dm_push 244 (.int 2), dm_ii 245 (fun x y => x + y), dm_sld 246 L xs, dm_inv 249 98 2 7, dm_no, dm_no, dm_ald 250 2, dm_ald 251 0, dm_ild 253 4, dm_no, dm_push 254 (.int 1), dm_ii 255 (fun x y => x + y), dm_sld 256 L xs],
  [dm_ald 257 0, dm_ild 259 4, dm_no, dm_push 260 (.int 2), dm_ii 261 (fun x y => x + y), dm_sld 262 L xs, dm_inv 265 167 2 8, dm_no, dm_no, dm_ic_eq 268 1263, dm_no, dm_no, dm_push 269 (.int 0), dm_ret .boolean, dm_ald 271 1, dm_ald 272 0],
  [dm_ild 274 4, dm_no, dm_push 275 (.int 1), dm_ii 276 (fun x y => x + y), dm_sld 277 L xs, dm_inv 280 99 1 7, dm_no, dm_no, dm_ald 281 2, dm_ald 282 0, dm_ild 284 4, dm_no, dm_push 285 (.int 1), dm_ii 286 (fun x y => x + y), dm_sld 287 L xs, dm_inv 290 168 1 8],
  [dm_no, dm_no, dm_ic_eq 293 1263, dm_no, dm_no, dm_push 294 (.int 0), dm_ret .boolean, dm_ald 296 1, dm_ald 297 0, dm_ild 299 4, dm_no, dm_push 300 (.int 1), dm_ii 301 (fun x y => x + y), dm_sld 302 L xs, dm_inv 305 100 1 7, dm_no],
  [dm_no, dm_ald 306 2, dm_ald 307 0, dm_ild 309 4, dm_no, dm_push 310 (.int 1), dm_ii 311 (fun x y => x + y), dm_sld 312 L xs, dm_inv 315 169 1 8, dm_no, dm_no, dm_ic_eq 318 1263, dm_no, dm_no, dm_push 319 (.int 0), dm_ret .boolean],
  [dm_ald 321 1, dm_ald 322 0, dm_ild 324 4, dm_no, dm_push 325 (.int 1), dm_ii 326 (fun x y => x + y), dm_sld 327 L xs, dm_ald 328 0, dm_ild 330 4, dm_no, dm_push 331 (.int 2), dm_ii 332 (fun x y => x + y), dm_sld 333 L xs, dm_inv 336 101 2 7, dm_no, dm_no],
  [dm_ald 337 2, dm_ald 338 0, dm_ild 340 4, dm_no, dm_push 341 (.int 1), dm_ii 342 (fun x y => x + y), dm_sld 343 L xs, dm_ald 344 0, dm_ild 346 4, dm_no, dm_push 347 (.int 2), dm_ii 348 (fun x y => x + y), dm_sld 349 L xs, dm_inv 352 170 2 8, dm_no, dm_no],
  [dm_ic_eq 355 1263, dm_no, dm_no, dm_push 356 (.int 0), dm_ret .boolean, dm_ald 358 1, dm_ald 359 0, dm_ild 361 4, dm_no, dm_push 362 (.int 1), dm_ii 363 (fun x y => x + y), dm_sld 364 L xs, dm_inv 367 102 1 7, dm_no, dm_no, dm_ald 368 2],
  [dm_ald 369 0, dm_ild 371 4, dm_no, dm_push 372 (.int 1), dm_ii 373 (fun x y => x + y), dm_sld 374 L xs, dm_inv 377 171 1 8, dm_no, dm_no, dm_ic_eq 380 1263, dm_no, dm_no, dm_push 381 (.int 0), dm_ret .boolean, dm_ald 383 1, dm_ald 384 0],
  [dm_ild 386 4, dm_no, dm_push 387 (.int 1), dm_ii 388 (fun x y => x + y), dm_sld 389 L xs, dm_ald 390 0, dm_ild 392 4, dm_no, dm_push 393 (.int 2), dm_ii 394 (fun x y => x + y), dm_sld 395 L xs, dm_inv 398 103 2 7, dm_no, dm_no, dm_ald 399 2, dm_ald 400 0],
  [dm_ild 402 4, dm_no, dm_push 403 (.int 1), dm_ii 404 (fun x y => x + y), dm_sld 405 L xs, dm_ald 406 0, dm_ild 408 4, dm_no, dm_push 409 (.int 2), dm_ii 410 (fun x y => x + y), dm_sld 411 L xs, dm_inv 414 172 2 8, dm_no, dm_no, dm_ic_eq 417 1263, dm_no],
  [dm_no, dm_push 418 (.int 0), dm_ret .boolean, dm_ald 420 1, dm_inv 423 104 0 7, dm_no, dm_no, dm_ald 424 2, dm_inv 427 173 0 8, dm_no, dm_no, dm_ic_eq 430 1263, dm_no, dm_no, dm_push 431 (.int 0), dm_ret .boolean],
  [dm_ald 433 1, dm_ald 434 0, dm_ild 436 4, dm_no, dm_push 437 (.int 1), dm_ii 438 (fun x y => x + y), dm_sld 439 L xs, dm_ald 440 0, dm_ild 442 4, dm_no, dm_push 443 (.int 2), dm_ii 444 (fun x y => x + y), dm_sld 445 L xs, dm_inv 448 105 2 7, dm_no, dm_no],
  [dm_ald 449 2, dm_ald 450 0, dm_ild 452 4, dm_no, dm_push 453 (.int 1), dm_ii 454 (fun x y => x + y), dm_sld 455 L xs, dm_ald 456 0, dm_ild 458 4, dm_no, dm_push 459 (.int 2), dm_ii 460 (fun x y => x + y), dm_sld 461 L xs, dm_inv 464 175 2 8, dm_no, dm_no],
  [dm_ic_eq 467 1263, dm_no, dm_no, dm_push 468 (.int 0), dm_ret .boolean, dm_ald 470 1, dm_ald 471 0, dm_ild 473 4, dm_no, dm_push 474 (.int 1), dm_ii 475 (fun x y => x + y), dm_sld 476 L xs, dm_ald 477 0, dm_ild 479 4, dm_no, dm_push 480 (.int 2)],
  [dm_ii 481 (fun x y => x + y), dm_sld 482 L xs, dm_inv 485 106 2 7, dm_no, dm_no, dm_ald 486 2, dm_ald 487 0, dm_ild 489 4, dm_no, dm_push 490 (.int 1), dm_ii 491 (fun x y => x + y), dm_sld 492 L xs, dm_ald 493 0, dm_ild 495 4, dm_no, dm_push 496 (.int 2)],
  [dm_ii 497 (fun x y => x + y), dm_sld 498 L xs, dm_inv 501 176 2 8, dm_no, dm_no, dm_ic_eq 504 1263, dm_no, dm_no, dm_push 505 (.int 0), dm_ret .boolean, dm_ald 507 1, dm_ald 508 0, dm_ild 510 4, dm_no, dm_push 511 (.int 1), dm_ii 512 (fun x y => x + y)],
  [dm_sld 513 L xs, dm_ald 514 0, dm_ild 516 4, dm_no, dm_push 517 (.int 2), dm_ii 518 (fun x y => x + y), dm_sld 519 L xs, dm_inv 522 107 2 7, dm_no, dm_no, dm_ald 523 2, dm_ald 524 0, dm_ild 526 4, dm_no, dm_push 527 (.int 1), dm_ii 528 (fun x y => x + y)],
  [dm_sld 529 L xs, dm_ald 530 0, dm_ild 532 4, dm_no, dm_push 533 (.int 2), dm_ii 534 (fun x y => x + y), dm_sld 535 L xs, dm_inv 538 177 2 8, dm_no, dm_no, dm_ic_eq 541 1263, dm_no, dm_no, dm_push 542 (.int 0), dm_ret .boolean, dm_ald 544 1],
  [dm_ald 545 0, dm_ild 547 4, dm_no, dm_push 548 (.int 1), dm_ii 549 (fun x y => x + y), dm_sld 550 L xs, dm_ald 551 0, dm_ild 553 4, dm_no, dm_push 554 (.int 2), dm_ii 555 (fun x y => x + y), dm_sld 556 L xs, dm_i1 557 (fun x => .long x.toInt64), dm_push 559 (.int 32), dm_no, dm_li 560 (fun x y => x <<< (y.toInt64 &&& 63))],
  [dm_ald 561 0, dm_ild 563 4, dm_no, dm_push 564 (.int 3), dm_ii 565 (fun x y => x + y), dm_sld 566 L xs, dm_i1 567 (fun x => .long x.toInt64), dm_push 570 (.long 4294967295), dm_no, dm_no, dm_ll 571 (fun x y => x &&& y), dm_ll 572 (fun x y => x ||| y), dm_ald 573 0, dm_ild 575 4, dm_no, dm_push 576 (.int 4)],
  [dm_ii 577 (fun x y => x + y), dm_sld 578 L xs, dm_ald 579 3, f1, dm_no, dm_no, dm_ist 584 5, dm_no, dm_ald 585 2, dm_ald 586 0, dm_ild 588 4, dm_no, dm_push 589 (.int 1), dm_ii 590 (fun x y => x + y), dm_sld 591 L xs, dm_ald 592 0],
  [dm_ild 594 4, dm_no, dm_push 595 (.int 2), dm_ii 596 (fun x y => x + y), dm_sld 597 L xs, dm_i1 598 (fun x => .long x.toInt64), dm_push 600 (.int 32), dm_no, dm_li 601 (fun x y => x <<< (y.toInt64 &&& 63)), dm_ald 602 0, dm_ild 604 4, dm_no, dm_push 605 (.int 3), dm_ii 606 (fun x y => x + y), dm_sld 607 L xs, dm_i1 608 (fun x => .long x.toInt64)],
  [dm_push 611 (.long 4294967295), dm_no, dm_no, dm_ll 612 (fun x y => x &&& y), dm_ll 613 (fun x y => x ||| y), dm_ald 614 0, dm_ild 616 4, dm_no, dm_push 617 (.int 4), dm_ii 618 (fun x y => x + y), dm_sld 619 L xs, dm_inv 622 180 3 8, dm_no, dm_no, dm_ist 624 6, dm_no],
  [dm_ald 625 2, dm_inv 628 135 0 8, dm_no, dm_no, dm_ild 630 5, dm_no, dm_ic_eq 633 635, dm_no, dm_no, dm_push 634 (.int 0), dm_ret .boolean, dm_ild 637 5, dm_no, dm_if_ne 640 652, dm_no, dm_no],
  [dm_ald 641 3, dm_push 642 (.int 0), dm_lald 643, dm_ild 645 6, dm_no, dm_i1 646 (fun x => .long x.toInt64), dm_lc 647, dm_if_eq 650 652, dm_no, dm_no, dm_push 651 (.int 0), dm_ret .boolean, dm_goto 1263, dm_no, dm_no, dm_ald 656 1],
  [dm_ald 657 0, dm_ild 659 4, dm_no, dm_push 660 (.int 1), dm_ii 661 (fun x y => x + y), dm_sld 662 L xs, dm_ald 663 0, dm_ild 665 4, dm_no, dm_push 666 (.int 2), dm_ii 667 (fun x y => x + y), dm_sld 668 L xs, dm_i1 669 (fun x => .long x.toInt64), dm_push 671 (.int 32), dm_no, dm_li 672 (fun x y => x <<< (y.toInt64 &&& 63))],
  [dm_ald 673 0, dm_ild 675 4, dm_no, dm_push 676 (.int 3), dm_ii 677 (fun x y => x + y), dm_sld 678 L xs, dm_i1 679 (fun x => .long x.toInt64), dm_push 682 (.long 4294967295), dm_no, dm_no, dm_ll 683 (fun x y => x &&& y), dm_ll 684 (fun x y => x ||| y), dm_ald 685 0, dm_ild 687 4, dm_no, dm_push 688 (.int 4)],
  [dm_ii 689 (fun x y => x + y), dm_sld 690 L xs, dm_ald 691 3, f2, dm_no, dm_no, dm_ist 696 5, dm_no, dm_ald 697 2, dm_ald 698 0, dm_ild 700 4, dm_no, dm_push 701 (.int 1), dm_ii 702 (fun x y => x + y), dm_sld 703 L xs, dm_ald 704 0],
  [dm_ild 706 4, dm_no, dm_push 707 (.int 2), dm_ii 708 (fun x y => x + y), dm_sld 709 L xs, dm_i1 710 (fun x => .long x.toInt64), dm_push 712 (.int 32), dm_no, dm_li 713 (fun x y => x <<< (y.toInt64 &&& 63)), dm_ald 714 0, dm_ild 716 4, dm_no, dm_push 717 (.int 3), dm_ii 718 (fun x y => x + y), dm_sld 719 L xs, dm_i1 720 (fun x => .long x.toInt64)],
  [dm_push 723 (.long 4294967295), dm_no, dm_no, dm_ll 724 (fun x y => x &&& y), dm_ll 725 (fun x y => x ||| y), dm_ald 726 0, dm_ild 728 4, dm_no, dm_push 729 (.int 4), dm_ii 730 (fun x y => x + y), dm_sld 731 L xs, dm_inv 734 181 3 8, dm_no, dm_no, dm_ist 736 6, dm_no],
  [dm_ald 737 2, dm_inv 740 135 0 8, dm_no, dm_no, dm_ild 742 5, dm_no, dm_ic_eq 745 747, dm_no, dm_no, dm_push 746 (.int 0), dm_ret .boolean, dm_ild 749 5, dm_no, dm_if_ne 752 771, dm_no, dm_no],
  [dm_ald 753 3, dm_push 754 (.int 0), dm_lald 755, dm_ild 757 6, dm_no, dm_if_eq 760 764, dm_no, dm_no, dm_push 761 (.long 1), dm_goto 765, dm_no, dm_no, dm_push 765 (.long 0), dm_lc 766, dm_if_eq 769 771, dm_no],
  [dm_no, dm_push 770 (.int 0), dm_ret .boolean, dm_goto 1263, dm_no, dm_no, dm_ald 775 1, dm_ald 776 0, dm_ild 778 4, dm_no, dm_push 779 (.int 1), dm_ii 780 (fun x y => x + y), dm_sld 781 L xs, dm_ald 782 0, dm_ild 784 4, dm_no],
  [dm_push 785 (.int 2), dm_ii 786 (fun x y => x + y), dm_sld 787 L xs, dm_inv 790 110 2 7, dm_no, dm_no, dm_ald 791 2, dm_ald 792 0, dm_ild 794 4, dm_no, dm_push 795 (.int 1), dm_ii 796 (fun x y => x + y), dm_sld 797 L xs, dm_ald 798 0, dm_ild 800 4, dm_no],
  [dm_push 801 (.int 2), dm_ii 802 (fun x y => x + y), dm_sld 803 L xs, dm_inv 806 182 2 8, dm_no, dm_no, dm_ic_eq 809 1263, dm_no, dm_no, dm_push 810 (.int 0), dm_ret .boolean, dm_ald 812 1, dm_ald 813 0, dm_ild 815 4, dm_no, dm_push 816 (.int 1)],
  [dm_ii 817 (fun x y => x + y), dm_sld 818 L xs, dm_ald 819 0, dm_ild 821 4, dm_no, dm_push 822 (.int 2), dm_ii 823 (fun x y => x + y), dm_sld 824 L xs, dm_ald 825 0, dm_ild 827 4, dm_no, dm_push 828 (.int 3), dm_ii 829 (fun x y => x + y), dm_sld 830 L xs, dm_inv 833 111 3 7, dm_no],
  [dm_no, dm_ald 834 2, dm_ald 835 0, dm_ild 837 4, dm_no, dm_push 838 (.int 1), dm_ii 839 (fun x y => x + y), dm_sld 840 L xs, dm_ald 841 0, dm_ild 843 4, dm_no, dm_push 844 (.int 2), dm_ii 845 (fun x y => x + y), dm_sld 846 L xs, dm_ald 847 0, dm_ild 849 4],
  [dm_no, dm_push 850 (.int 3), dm_ii 851 (fun x y => x + y), dm_sld 852 L xs, dm_inv 855 185 3 8, dm_no, dm_no, dm_ic_eq 858 1263, dm_no, dm_no, dm_push 859 (.int 0), dm_ret .boolean, dm_ald 861 1, dm_inv 864 112 0 7, dm_no, dm_no],
  [dm_ald 865 2, dm_inv 868 186 0 8, dm_no, dm_no, dm_lc 869, dm_if_eq 872 1263, dm_no, dm_no, dm_push 873 (.int 0), dm_ret .boolean, dm_ald 875 1, dm_inv 878 113 0 7, dm_no, dm_no, dm_ald 879 2, dm_inv 882 187 0 8],
  [dm_no, dm_no, dm_ic_eq 885 1263, dm_no, dm_no, dm_push 886 (.int 0), dm_ret .boolean, dm_ald 888 1, dm_ald 889 0, dm_ild 891 4, dm_no, dm_push 892 (.int 1), dm_ii 893 (fun x y => x + y), dm_sld 894 L xs, dm_ald 895 0, dm_ild 897 4],
  [dm_no, dm_push 898 (.int 2), dm_ii 899 (fun x y => x + y), dm_sld 900 L xs, dm_ald 901 0, dm_ild 903 4, dm_no, dm_push 904 (.int 3), dm_ii 905 (fun x y => x + y), dm_sld 906 L xs, dm_i1 907 (fun x => .long x.toInt64), dm_push 909 (.int 32), dm_no, dm_li 910 (fun x y => x <<< (y.toInt64 &&& 63)), dm_ald 911 0, dm_ild 913 4],
  [dm_no, dm_push 914 (.int 4), dm_ii 915 (fun x y => x + y), dm_sld 916 L xs, dm_i1 917 (fun x => .long x.toInt64), dm_push 920 (.long 4294967295), dm_no, dm_no, dm_ll 921 (fun x y => x &&& y), dm_ll 922 (fun x y => x ||| y), dm_ald 923 0, dm_ild 925 4, dm_no, dm_push 926 (.int 5), dm_ii 927 (fun x y => x + y), dm_sld 928 L xs],
  [dm_ald 929 0, dm_ild 931 4, dm_no, dm_push 933 (.int 6), dm_no, dm_ii 934 (fun x y => x + y), dm_sld 935 L xs, dm_i1 936 (fun x => .long x.toInt64), dm_push 938 (.int 32), dm_no, dm_li 939 (fun x y => x <<< (y.toInt64 &&& 63)), dm_ald 940 0, dm_ild 942 4, dm_no, dm_push 944 (.int 7), dm_no],
  [dm_ii 945 (fun x y => x + y), dm_sld 946 L xs, dm_i1 947 (fun x => .long x.toInt64), dm_push 950 (.long 4294967295), dm_no, dm_no, dm_ll 951 (fun x y => x &&& y), dm_ll 952 (fun x y => x ||| y), dm_ald 953 0, dm_ild 955 4, dm_no, dm_push 957 (.int 8), dm_no, dm_ii 958 (fun x y => x + y), dm_sld 959 L xs, dm_inv 962 114 6 7],
  [dm_no, dm_no, dm_ald 963 2, dm_ald 964 0, dm_ild 966 4, dm_no, dm_push 967 (.int 1), dm_ii 968 (fun x y => x + y), dm_sld 969 L xs, dm_ald 970 0, dm_ild 972 4, dm_no, dm_push 973 (.int 2), dm_ii 974 (fun x y => x + y), dm_sld 975 L xs, dm_ald 976 0],
  [dm_ild 978 4, dm_no, dm_push 979 (.int 3), dm_ii 980 (fun x y => x + y), dm_sld 981 L xs, dm_i1 982 (fun x => .long x.toInt64), dm_push 984 (.int 32), dm_no, dm_li 985 (fun x y => x <<< (y.toInt64 &&& 63)), dm_ald 986 0, dm_ild 988 4, dm_no, dm_push 989 (.int 4), dm_ii 990 (fun x y => x + y), dm_sld 991 L xs, dm_i1 992 (fun x => .long x.toInt64)],
  [dm_push 995 (.long 4294967295), dm_no, dm_no, dm_ll 996 (fun x y => x &&& y), dm_ll 997 (fun x y => x ||| y), dm_ald 998 0, dm_ild 1000 4, dm_no, dm_push 1001 (.int 5), dm_ii 1002 (fun x y => x + y), dm_sld 1003 L xs, dm_ald 1004 0, dm_ild 1006 4, dm_no, dm_push 1008 (.int 6), dm_no],
  [dm_ii 1009 (fun x y => x + y), dm_sld 1010 L xs, dm_i1 1011 (fun x => .long x.toInt64), dm_push 1013 (.int 32), dm_no, dm_li 1014 (fun x y => x <<< (y.toInt64 &&& 63)), dm_ald 1015 0, dm_ild 1017 4, dm_no, dm_push 1019 (.int 7), dm_no, dm_ii 1020 (fun x y => x + y), dm_sld 1021 L xs, dm_i1 1022 (fun x => .long x.toInt64), dm_push 1025 (.long 4294967295), dm_no],
  [dm_no, dm_ll 1026 (fun x y => x &&& y), dm_ll 1027 (fun x y => x ||| y), dm_ald 1028 0, dm_ild 1030 4, dm_no, dm_push 1032 (.int 8), dm_no, dm_ii 1033 (fun x y => x + y), dm_sld 1034 L xs, dm_inv 1037 188 6 8, dm_no, dm_no, dm_ic_eq 1040 1263, dm_no, dm_no],
  [dm_push 1041 (.int 0), dm_ret .boolean, dm_ald 1043 1, dm_ald 1044 0, dm_ild 1046 4, dm_no, dm_push 1047 (.int 1), dm_ii 1048 (fun x y => x + y), dm_sld 1049 L xs, dm_inv 1052 115 1 7, dm_no, dm_no, dm_ald 1053 2, dm_ald 1054 0, dm_ild 1056 4, dm_no],
  [dm_push 1057 (.int 1), dm_ii 1058 (fun x y => x + y), dm_sld 1059 L xs, dm_inv 1062 194 1 8, dm_no, dm_no, dm_ic_eq 1065 1263, dm_no, dm_no, dm_push 1066 (.int 0), dm_ret .boolean, dm_ald 1068 1, dm_ald 1069 0, dm_ild 1071 4, dm_no, dm_push 1072 (.int 1)],
  [dm_ii 1073 (fun x y => x + y), dm_sld 1074 L xs, dm_inv 1077 116 1 7, dm_no, dm_no, dm_ald 1078 2, dm_ald 1079 0, dm_ild 1081 4, dm_no, dm_push 1082 (.int 1), dm_ii 1083 (fun x y => x + y), dm_sld 1084 L xs, dm_inv 1087 195 1 8, dm_no, dm_no, dm_ic_eq 1090 1263],
  [dm_no, dm_no, dm_push 1091 (.int 0), dm_ret .boolean, dm_ald 1093 1, dm_ald 1094 0, dm_ild 1096 4, dm_no, dm_push 1097 (.int 1), dm_ii 1098 (fun x y => x + y), dm_sld 1099 L xs, dm_i1 1100 (fun x => .long x.toInt64), dm_push 1102 (.int 32), dm_no, dm_li 1103 (fun x y => x <<< (y.toInt64 &&& 63)), dm_ald 1104 0],
  [dm_ild 1106 4, dm_no, dm_push 1107 (.int 2), dm_ii 1108 (fun x y => x + y), dm_sld 1109 L xs, dm_i1 1110 (fun x => .long x.toInt64), dm_push 1113 (.long 4294967295), dm_no, dm_no, dm_ll 1114 (fun x y => x &&& y), dm_ll 1115 (fun x y => x ||| y), dm_ald 1116 0, dm_ild 1118 4, dm_no, dm_push 1119 (.int 3), dm_ii 1120 (fun x y => x + y)],
  [dm_sld 1121 L xs, dm_inv 1124 117 2 7, dm_no, dm_no, dm_ald 1125 2, dm_ald 1126 0, dm_ild 1128 4, dm_no, dm_push 1129 (.int 1), dm_ii 1130 (fun x y => x + y), dm_sld 1131 L xs, dm_i1 1132 (fun x => .long x.toInt64), dm_push 1134 (.int 32), dm_no, dm_li 1135 (fun x y => x <<< (y.toInt64 &&& 63)), dm_ald 1136 0],
  [dm_ild 1138 4, dm_no, dm_push 1139 (.int 2), dm_ii 1140 (fun x y => x + y), dm_sld 1141 L xs, dm_i1 1142 (fun x => .long x.toInt64), dm_push 1145 (.long 4294967295), dm_no, dm_no, dm_ll 1146 (fun x y => x &&& y), dm_ll 1147 (fun x y => x ||| y), dm_ald 1148 0, dm_ild 1150 4, dm_no, dm_push 1151 (.int 3), dm_ii 1152 (fun x y => x + y)],
  [dm_sld 1153 L xs, dm_inv 1156 196 2 8, dm_no, dm_no, dm_ic_eq 1159 1263, dm_no, dm_no, dm_push 1160 (.int 0), dm_ret .boolean, dm_ald 1162 1, dm_ald 1163 0, dm_ild 1165 4, dm_no, dm_push 1166 (.int 1), dm_ii 1167 (fun x y => x + y), dm_sld 1168 L xs],
  [dm_inv 1171 118 1 7, dm_no, dm_no, dm_ald 1172 2, dm_ald 1173 0, dm_ild 1175 4, dm_no, dm_push 1176 (.int 1), dm_ii 1177 (fun x y => x + y), dm_sld 1178 L xs, dm_inv 1181 197 1 8, dm_no, dm_no, dm_ic_eq 1184 1263, dm_no, dm_no],
  [dm_push 1185 (.int 0), dm_ret .boolean, dm_ald 1187 1, dm_inv 1190 119 0 7, dm_no, dm_no, dm_ald 1191 2, dm_inv 1194 204 0 8, dm_no, dm_no, dm_ic_eq 1197 1263, dm_no, dm_no, dm_push 1198 (.int 0), dm_ret .boolean, dm_ald 1200 1],
  [dm_inv 1203 120 0 7, dm_no, dm_no, dm_ald 1204 2, dm_inv 1207 205 0 8, dm_no, dm_no, dm_ic_eq 1210 1263, dm_no, dm_no, dm_push 1211 (.int 0), dm_ret .boolean, dm_ald 1213 1, dm_inv 1216 121 0 7, dm_no, dm_no],
  [dm_ald 1217 2, dm_inv 1220 206 0 8, dm_no, dm_no, dm_ic_eq 1223 1263, dm_no, dm_no, dm_push 1224 (.int 0), dm_ret .boolean, dm_ald 1226 1, dm_inv 1229 122 0 7, dm_no, dm_no, dm_ald 1230 2, dm_inv 1233 207 0 8, dm_no],
  [dm_no, dm_ic_eq 1236 1263, dm_no, dm_no, dm_push 1237 (.int 0), dm_ret .boolean, dm_ald 1239 1, dm_ald 1240 0, dm_ild 1242 4, dm_no, dm_push 1243 (.int 1), dm_ii 1244 (fun x y => x + y), dm_sld 1245 L xs, dm_inv 1248 123 1 7, dm_no, dm_no],
  [dm_ald 1249 2, dm_ald 1250 0, dm_ild 1252 4, dm_no, dm_push 1253 (.int 1), dm_ii 1254 (fun x y => x + y), dm_sld 1255 L xs, dm_inv 1258 208 1 8, dm_no, dm_no, dm_ic_eq 1261 1263, dm_no, dm_no, dm_push 1262 (.int 0), dm_ret .boolean, dm_iinc 1266 4 9],
  [dm_no, dm_no, dm_goto 23, dm_no, dm_no, dm_push 1270 (.int 1), dm_ret .boolean]]
/-- a step of the law: the JVM's, or one of the two calls -/
def lw_ok (L : Nat) (xs : Nat → Int32) (f1 f2 : dm_Sem) (pc : Nat) (f : dm_Sem) : Prop := dm_Good dm_tb RL cL_law 7 (some .boolean) false (some (L, xs)) pc f ∨ (pc = 579 ∧ f = f1) ∨ (pc = 691 ∧ f = f2)
theorem tr_L_0 (L : Nat) (xs : Nat → Int32) (f1 f2 : dm_Sem) : dm_AllR (lw_ok L xs f1 f2) 0 [dm_new 3 7 nf_X10, dm_no, dm_no, dm_dup 4, dm_ini 7 94 0, dm_no, dm_no, dm_ast 8 1, dm_new 11 8 nf_X11, dm_no, dm_no, dm_dup 12, dm_ini 15 134 0, dm_no, dm_no, dm_ast 16 2] := dr_c (Or.inl (dg_new (T := TX10) (C := RX10) (N := 11) (ty := tyX10) dL_law_0 rfl iw_X10 tyX10_ok wd_80 wd_81 wd_60 rfl nv_X10 nz_X10)) <| dr_c (Or.inl dg_no) <| dr_c (Or.inl dg_no) <| dr_c (Or.inl (dg_dup dL_law_3)) <| dr_c (Or.inl (dg_ini dL_law_4 mo_94 rfl rfl wd_82 wd_83 pd_94)) <| dr_c (Or.inl dg_no) <| dr_c (Or.inl dg_no) <| dr_c (Or.inl (dg_astore_n (k := 1) rfl (by decide) dL_law_7)) <| dr_c (Or.inl (dg_new (T := TX11) (C := RX11) (N := 68) (ty := tyX11) dL_law_8 rfl iw_X11 tyX11_ok wd_908 wd_909 wd_71 rfl nv_X11 nz_X11)) <| dr_c (Or.inl dg_no) <| dr_c (Or.inl dg_no) <| dr_c (Or.inl (dg_dup dL_law_11)) <| dr_c (Or.inl (dg_ini dL_law_12 mo_134 rfl rfl wd_910 wd_911 pd_134)) <| dr_c (Or.inl dg_no) <| dr_c (Or.inl dg_no) <| dr_c (Or.inl (dg_astore_n (k := 2) rfl (by decide) dL_law_15)) <| dr_n
theorem tr_L_1 (L : Nat) (xs : Nat → Int32) (f1 f2 : dm_Sem) : dm_AllR (lw_ok L xs f1 f2) 16 [dm_push 17 (.int 1), dm_newa 19 .long, dm_no, dm_ast 20 3, dm_push 21 (.int 0), dm_ist 23 4, dm_no, dm_ild 25 4, dm_no, dm_ald 26 0, dm_sln 27 L, dm_push 29 (.int 9), dm_no, dm_ii 30 (fun x y => x - y), dm_ic_gt 33 1269, dm_no] := dr_c (Or.inl (dg_iconst (by decide) dL_law_16)) <| dr_c (Or.inl (dg_newa dL_law_17 rfl rfl wd_1153)) <| dr_c (Or.inl dg_no) <| dr_c (Or.inl (dg_astore_n (k := 3) rfl (by decide) dL_law_19)) <| dr_c (Or.inl (dg_iconst (by decide) dL_law_20)) <| dr_c (Or.inl (dg_istore (by decide) dL_law_21)) <| dr_c (Or.inl dg_no) <| dr_c (Or.inl (dg_iload dL_law_23)) <| dr_c (Or.inl dg_no) <| dr_c (Or.inl (dg_aload_n (k := 0) rfl dL_law_25)) <| dr_c (Or.inl (dg_sln dL_law_26)) <| dr_c (Or.inl (dg_bipush (by decide) dL_law_27)) <| dr_c (Or.inl dg_no) <| dr_c (Or.inl (dg_isub dL_law_29)) <| dr_c (Or.inl (dg_ic_gt (by decide) dL_law_30)) <| dr_c (Or.inl dg_no) <| dr_n
theorem tr_L_2 (L : Nat) (xs : Nat → Int32) (f1 f2 : dm_Sem) : dm_AllR (lw_ok L xs f1 f2) 32 [dm_no, dm_ald 34 0, dm_ild 36 4, dm_no, dm_sld 37 L xs, dm_push 39 (.int 31), dm_no, dm_ii 40 (fun x y => x &&& y), dm_tsw 0 28 1263 [172, 183, 208, 233, 270, 295, 320, 357, 382, 419, 432, 469, 506, 543, 655, 774, 811, 860, 874, 887, 1042, 1067, 1092, 1161, 1186, 1199, 1212, 1225, 1238], dm_no, dm_no, dm_no, dm_no, dm_no, dm_no, dm_no] := dr_c (Or.inl dg_no) <| dr_c (Or.inl (dg_aload_n (k := 0) rfl dL_law_33)) <| dr_c (Or.inl (dg_iload dL_law_34)) <| dr_c (Or.inl dg_no) <| dr_c (Or.inl (dg_sld dL_law_36)) <| dr_c (Or.inl (dg_bipush (by decide) dL_law_37)) <| dr_c (Or.inl dg_no) <| dr_c (Or.inl (dg_iand dL_law_39)) <| dr_c (Or.inl (dg_tsw dL_law_40 (by decide) (by decide))) <| dr_c (Or.inl dg_no) <| dr_c (Or.inl dg_no) <| dr_c (Or.inl dg_no) <| dr_c (Or.inl dg_no) <| dr_c (Or.inl dg_no) <| dr_c (Or.inl dg_no) <| dr_c (Or.inl dg_no) <| dr_n
theorem tr_L_3 (L : Nat) (xs : Nat → Int32) (f1 f2 : dm_Sem) : dm_AllR (lw_ok L xs f1 f2) 48 [dm_no, dm_no, dm_no, dm_no, dm_no, dm_no, dm_no, dm_no, dm_no, dm_no, dm_no, dm_no, dm_no, dm_no, dm_no, dm_no] := dr_c (Or.inl dg_no) <| dr_c (Or.inl dg_no) <| dr_c (Or.inl dg_no) <| dr_c (Or.inl dg_no) <| dr_c (Or.inl dg_no) <| dr_c (Or.inl dg_no) <| dr_c (Or.inl dg_no) <| dr_c (Or.inl dg_no) <| dr_c (Or.inl dg_no) <| dr_c (Or.inl dg_no) <| dr_c (Or.inl dg_no) <| dr_c (Or.inl dg_no) <| dr_c (Or.inl dg_no) <| dr_c (Or.inl dg_no) <| dr_c (Or.inl dg_no) <| dr_c (Or.inl dg_no) <| dr_n
theorem tr_L_4 (L : Nat) (xs : Nat → Int32) (f1 f2 : dm_Sem) : dm_AllR (lw_ok L xs f1 f2) 64 [dm_no, dm_no, dm_no, dm_no, dm_no, dm_no, dm_no, dm_no, dm_no, dm_no, dm_no, dm_no, dm_no, dm_no, dm_no, dm_no] := dr_c (Or.inl dg_no) <| dr_c (Or.inl dg_no) <| dr_c (Or.inl dg_no) <| dr_c (Or.inl dg_no) <| dr_c (Or.inl dg_no) <| dr_c (Or.inl dg_no) <| dr_c (Or.inl dg_no) <| dr_c (Or.inl dg_no) <| dr_c (Or.inl dg_no) <| dr_c (Or.inl dg_no) <| dr_c (Or.inl dg_no) <| dr_c (Or.inl dg_no) <| dr_c (Or.inl dg_no) <| dr_c (Or.inl dg_no) <| dr_c (Or.inl dg_no) <| dr_c (Or.inl dg_no) <| dr_n
theorem tr_L_5 (L : Nat) (xs : Nat → Int32) (f1 f2 : dm_Sem) : dm_AllR (lw_ok L xs f1 f2) 80 [dm_no, dm_no, dm_no, dm_no, dm_no, dm_no, dm_no, dm_no, dm_no, dm_no, dm_no, dm_no, dm_no, dm_no, dm_no, dm_no] := dr_c (Or.inl dg_no) <| dr_c (Or.inl dg_no) <| dr_c (Or.inl dg_no) <| dr_c (Or.inl dg_no) <| dr_c (Or.inl dg_no) <| dr_c (Or.inl dg_no) <| dr_c (Or.inl dg_no) <| dr_c (Or.inl dg_no) <| dr_c (Or.inl dg_no) <| dr_c (Or.inl dg_no) <| dr_c (Or.inl dg_no) <| dr_c (Or.inl dg_no) <| dr_c (Or.inl dg_no) <| dr_c (Or.inl dg_no) <| dr_c (Or.inl dg_no) <| dr_c (Or.inl dg_no) <| dr_n
theorem tr_L_6 (L : Nat) (xs : Nat → Int32) (f1 f2 : dm_Sem) : dm_AllR (lw_ok L xs f1 f2) 96 [dm_no, dm_no, dm_no, dm_no, dm_no, dm_no, dm_no, dm_no, dm_no, dm_no, dm_no, dm_no, dm_no, dm_no, dm_no, dm_no] := dr_c (Or.inl dg_no) <| dr_c (Or.inl dg_no) <| dr_c (Or.inl dg_no) <| dr_c (Or.inl dg_no) <| dr_c (Or.inl dg_no) <| dr_c (Or.inl dg_no) <| dr_c (Or.inl dg_no) <| dr_c (Or.inl dg_no) <| dr_c (Or.inl dg_no) <| dr_c (Or.inl dg_no) <| dr_c (Or.inl dg_no) <| dr_c (Or.inl dg_no) <| dr_c (Or.inl dg_no) <| dr_c (Or.inl dg_no) <| dr_c (Or.inl dg_no) <| dr_c (Or.inl dg_no) <| dr_n
theorem tr_L_7 (L : Nat) (xs : Nat → Int32) (f1 f2 : dm_Sem) : dm_AllR (lw_ok L xs f1 f2) 112 [dm_no, dm_no, dm_no, dm_no, dm_no, dm_no, dm_no, dm_no, dm_no, dm_no, dm_no, dm_no, dm_no, dm_no, dm_no, dm_no] := dr_c (Or.inl dg_no) <| dr_c (Or.inl dg_no) <| dr_c (Or.inl dg_no) <| dr_c (Or.inl dg_no) <| dr_c (Or.inl dg_no) <| dr_c (Or.inl dg_no) <| dr_c (Or.inl dg_no) <| dr_c (Or.inl dg_no) <| dr_c (Or.inl dg_no) <| dr_c (Or.inl dg_no) <| dr_c (Or.inl dg_no) <| dr_c (Or.inl dg_no) <| dr_c (Or.inl dg_no) <| dr_c (Or.inl dg_no) <| dr_c (Or.inl dg_no) <| dr_c (Or.inl dg_no) <| dr_n
theorem tr_L_8 (L : Nat) (xs : Nat → Int32) (f1 f2 : dm_Sem) : dm_AllR (lw_ok L xs f1 f2) 128 [dm_no, dm_no, dm_no, dm_no, dm_no, dm_no, dm_no, dm_no, dm_no, dm_no, dm_no, dm_no, dm_no, dm_no, dm_no, dm_no] := dr_c (Or.inl dg_no) <| dr_c (Or.inl dg_no) <| dr_c (Or.inl dg_no) <| dr_c (Or.inl dg_no) <| dr_c (Or.inl dg_no) <| dr_c (Or.inl dg_no) <| dr_c (Or.inl dg_no) <| dr_c (Or.inl dg_no) <| dr_c (Or.inl dg_no) <| dr_c (Or.inl dg_no) <| dr_c (Or.inl dg_no) <| dr_c (Or.inl dg_no) <| dr_c (Or.inl dg_no) <| dr_c (Or.inl dg_no) <| dr_c (Or.inl dg_no) <| dr_c (Or.inl dg_no) <| dr_n
theorem tr_L_9 (L : Nat) (xs : Nat → Int32) (f1 f2 : dm_Sem) : dm_AllR (lw_ok L xs f1 f2) 144 [dm_no, dm_no, dm_no, dm_no, dm_no, dm_no, dm_no, dm_no, dm_no, dm_no, dm_no, dm_no, dm_no, dm_no, dm_no, dm_no] := dr_c (Or.inl dg_no) <| dr_c (Or.inl dg_no) <| dr_c (Or.inl dg_no) <| dr_c (Or.inl dg_no) <| dr_c (Or.inl dg_no) <| dr_c (Or.inl dg_no) <| dr_c (Or.inl dg_no) <| dr_c (Or.inl dg_no) <| dr_c (Or.inl dg_no) <| dr_c (Or.inl dg_no) <| dr_c (Or.inl dg_no) <| dr_c (Or.inl dg_no) <| dr_c (Or.inl dg_no) <| dr_c (Or.inl dg_no) <| dr_c (Or.inl dg_no) <| dr_c (Or.inl dg_no) <| dr_n
theorem tr_L_10 (L : Nat) (xs : Nat → Int32) (f1 f2 : dm_Sem) : dm_AllR (lw_ok L xs f1 f2) 160 [dm_no, dm_no, dm_no, dm_no, dm_no, dm_no, dm_no, dm_no, dm_no, dm_no, dm_no, dm_no, dm_ald 173 1, dm_inv 176 95 0 7, dm_no, dm_no] := dr_c (Or.inl dg_no) <| dr_c (Or.inl dg_no) <| dr_c (Or.inl dg_no) <| dr_c (Or.inl dg_no) <| dr_c (Or.inl dg_no) <| dr_c (Or.inl dg_no) <| dr_c (Or.inl dg_no) <| dr_c (Or.inl dg_no) <| dr_c (Or.inl dg_no) <| dr_c (Or.inl dg_no) <| dr_c (Or.inl dg_no) <| dr_c (Or.inl dg_no) <| dr_c (Or.inl (dg_aload_n (k := 1) rfl dL_law_172)) <| dr_c (Or.inl (dg_inv dL_law_173 mo_95 rfl rfl wd_344 wd_345 wd_346 pd_95)) <| dr_c (Or.inl dg_no) <| dr_c (Or.inl dg_no) <| dr_n
theorem tr_L_11 (L : Nat) (xs : Nat → Int32) (f1 f2 : dm_Sem) : dm_AllR (lw_ok L xs f1 f2) 176 [dm_ald 177 2, dm_inv 180 136 0 8, dm_no, dm_no, dm_goto 1263, dm_no, dm_no, dm_ald 184 1, dm_ald 185 0, dm_ild 187 4, dm_no, dm_push 188 (.int 1), dm_ii 189 (fun x y => x + y), dm_sld 190 L xs, dm_inv 193 96 1 7, dm_no] := dr_c (Or.inl (dg_aload_n (k := 2) rfl dL_law_176)) <| dr_c (Or.inl (dg_inv dL_law_177 mo_136 rfl rfl wd_1160 wd_915 wd_916 pd_136)) <| dr_c (Or.inl dg_no) <| dr_c (Or.inl dg_no) <| dr_c (Or.inl (dg_goto (by decide) dL_law_180)) <| dr_c (Or.inl dg_no) <| dr_c (Or.inl dg_no) <| dr_c (Or.inl (dg_aload_n (k := 1) rfl dL_law_183)) <| dr_c (Or.inl (dg_aload_n (k := 0) rfl dL_law_184)) <| dr_c (Or.inl (dg_iload dL_law_185)) <| dr_c (Or.inl dg_no) <| dr_c (Or.inl (dg_iconst (by decide) dL_law_187)) <| dr_c (Or.inl (dg_iadd dL_law_188)) <| dr_c (Or.inl (dg_sld dL_law_189)) <| dr_c (Or.inl (dg_inv dL_law_190 mo_96 rfl rfl wd_348 wd_349 wd_350 pd_96)) <| dr_c (Or.inl dg_no) <| dr_n
theorem tr_L_12 (L : Nat) (xs : Nat → Int32) (f1 f2 : dm_Sem) : dm_AllR (lw_ok L xs f1 f2) 192 [dm_no, dm_ald 194 2, dm_ald 195 0, dm_ild 197 4, dm_no, dm_push 198 (.int 1), dm_ii 199 (fun x y => x + y), dm_sld 200 L xs, dm_inv 203 158 1 8, dm_no, dm_no, dm_ic_eq 206 1263, dm_no, dm_no, dm_push 207 (.int 0), dm_ret .boolean] := dr_c (Or.inl dg_no) <| dr_c (Or.inl (dg_aload_n (k := 2) rfl dL_law_193)) <| dr_c (Or.inl (dg_aload_n (k := 0) rfl dL_law_194)) <| dr_c (Or.inl (dg_iload dL_law_195)) <| dr_c (Or.inl dg_no) <| dr_c (Or.inl (dg_iconst (by decide) dL_law_197)) <| dr_c (Or.inl (dg_iadd dL_law_198)) <| dr_c (Or.inl (dg_sld dL_law_199)) <| dr_c (Or.inl (dg_inv dL_law_200 mo_158 rfl rfl wd_1161 wd_1162 wd_1163 pd_158)) <| dr_c (Or.inl dg_no) <| dr_c (Or.inl dg_no) <| dr_c (Or.inl (dg_ic_eq (by decide) dL_law_203)) <| dr_c (Or.inl dg_no) <| dr_c (Or.inl dg_no) <| dr_c (Or.inl (dg_iconst (by decide) dL_law_206)) <| dr_c (Or.inl (dg_ret dL_law_207)) <| dr_n
theorem tr_L_13 (L : Nat) (xs : Nat → Int32) (f1 f2 : dm_Sem) : dm_AllR (lw_ok L xs f1 f2) 208 [dm_ald 209 1, dm_ald 210 0, dm_ild 212 4, dm_no, dm_push 213 (.int 1), dm_ii 214 (fun x y => x + y), dm_sld 215 L xs, dm_inv 218 97 1 7, dm_no, dm_no, dm_ald 219 2, dm_ald 220 0, dm_ild 222 4, dm_no, dm_push 223 (.int 1), dm_ii 224 (fun x y => x + y)] := dr_c (Or.inl (dg_aload_n (k := 1) rfl dL_law_208)) <| dr_c (Or.inl (dg_aload_n (k := 0) rfl dL_law_209)) <| dr_c (Or.inl (dg_iload dL_law_210)) <| dr_c (Or.inl dg_no) <| dr_c (Or.inl (dg_iconst (by decide) dL_law_212)) <| dr_c (Or.inl (dg_iadd dL_law_213)) <| dr_c (Or.inl (dg_sld dL_law_214)) <| dr_c (Or.inl (dg_inv dL_law_215 mo_97 rfl rfl wd_453 wd_454 wd_455 pd_97)) <| dr_c (Or.inl dg_no) <| dr_c (Or.inl dg_no) <| dr_c (Or.inl (dg_aload_n (k := 2) rfl dL_law_218)) <| dr_c (Or.inl (dg_aload_n (k := 0) rfl dL_law_219)) <| dr_c (Or.inl (dg_iload dL_law_220)) <| dr_c (Or.inl dg_no) <| dr_c (Or.inl (dg_iconst (by decide) dL_law_222)) <| dr_c (Or.inl (dg_iadd dL_law_223)) <| dr_n
theorem tr_L_14 (L : Nat) (xs : Nat → Int32) (f1 f2 : dm_Sem) : dm_AllR (lw_ok L xs f1 f2) 224 [dm_sld 225 L xs, dm_inv 228 163 1 8, dm_no, dm_no, dm_ic_eq 231 1263, dm_no, dm_no, dm_push 232 (.int 0), dm_ret .boolean, dm_ald 234 1, dm_ald 235 0, dm_ild 237 4, dm_no, dm_push 238 (.int 1), dm_ii 239 (fun x y => x + y), dm_sld 240 L xs] := dr_c (Or.inl (dg_sld dL_law_224)) <| dr_c (Or.inl (dg_inv dL_law_225 mo_163 rfl rfl wd_1201 wd_1202 wd_1203 pd_163)) <| dr_c (Or.inl dg_no) <| dr_c (Or.inl dg_no) <| dr_c (Or.inl (dg_ic_eq (by decide) dL_law_228)) <| dr_c (Or.inl dg_no) <| dr_c (Or.inl dg_no) <| dr_c (Or.inl (dg_iconst (by decide) dL_law_231)) <| dr_c (Or.inl (dg_ret dL_law_232)) <| dr_c (Or.inl (dg_aload_n (k := 1) rfl dL_law_233)) <| dr_c (Or.inl (dg_aload_n (k := 0) rfl dL_law_234)) <| dr_c (Or.inl (dg_iload dL_law_235)) <| dr_c (Or.inl dg_no) <| dr_c (Or.inl (dg_iconst (by decide) dL_law_237)) <| dr_c (Or.inl (dg_iadd dL_law_238)) <| dr_c (Or.inl (dg_sld dL_law_239)) <| dr_n
theorem tr_L_15 (L : Nat) (xs : Nat → Int32) (f1 f2 : dm_Sem) : dm_AllR (lw_ok L xs f1 f2) 240 [dm_ald 241 0, dm_ild 243 4, dm_no, dm_push 244 (.int 2), dm_ii 245 (fun x y => x + y), dm_sld 246 L xs, dm_inv 249 98 2 7, dm_no, dm_no, dm_ald 250 2, dm_ald 251 0, dm_ild 253 4, dm_no, dm_push 254 (.int 1), dm_ii 255 (fun x y => x + y), dm_sld 256 L xs] := dr_c (Or.inl (dg_aload_n (k := 0) rfl dL_law_240)) <| dr_c (Or.inl (dg_iload dL_law_241)) <| dr_c (Or.inl dg_no) <| dr_c (Or.inl (dg_iconst (by decide) dL_law_243)) <| dr_c (Or.inl (dg_iadd dL_law_244)) <| dr_c (Or.inl (dg_sld dL_law_245)) <| dr_c (Or.inl (dg_inv dL_law_246 mo_98 rfl rfl wd_502 wd_503 wd_504 pd_98)) <| dr_c (Or.inl dg_no) <| dr_c (Or.inl dg_no) <| dr_c (Or.inl (dg_aload_n (k := 2) rfl dL_law_249)) <| dr_c (Or.inl (dg_aload_n (k := 0) rfl dL_law_250)) <| dr_c (Or.inl (dg_iload dL_law_251)) <| dr_c (Or.inl dg_no) <| dr_c (Or.inl (dg_iconst (by decide) dL_law_253)) <| dr_c (Or.inl (dg_iadd dL_law_254)) <| dr_c (Or.inl (dg_sld dL_law_255)) <| dr_n
theorem tr_L_16 (L : Nat) (xs : Nat → Int32) (f1 f2 : dm_Sem) : dm_AllR (lw_ok L xs f1 f2) 256 [dm_ald 257 0, dm_ild 259 4, dm_no, dm_push 260 (.int 2), dm_ii 261 (fun x y => x + y), dm_sld 262 L xs, dm_inv 265 167 2 8, dm_no, dm_no, dm_ic_eq 268 1263, dm_no, dm_no, dm_push 269 (.int 0), dm_ret .boolean, dm_ald 271 1, dm_ald 272 0] := dr_c (Or.inl (dg_aload_n (k := 0) rfl dL_law_256)) <| dr_c (Or.inl (dg_iload dL_law_257)) <| dr_c (Or.inl dg_no) <| dr_c (Or.inl (dg_iconst (by decide) dL_law_259)) <| dr_c (Or.inl (dg_iadd dL_law_260)) <| dr_c (Or.inl (dg_sld dL_law_261)) <| dr_c (Or.inl (dg_inv dL_law_262 mo_167 rfl rfl wd_1242 wd_1243 wd_1244 pd_167)) <| dr_c (Or.inl dg_no) <| dr_c (Or.inl dg_no) <| dr_c (Or.inl (dg_ic_eq (by decide) dL_law_265)) <| dr_c (Or.inl dg_no) <| dr_c (Or.inl dg_no) <| dr_c (Or.inl (dg_iconst (by decide) dL_law_268)) <| dr_c (Or.inl (dg_ret dL_law_269)) <| dr_c (Or.inl (dg_aload_n (k := 1) rfl dL_law_270)) <| dr_c (Or.inl (dg_aload_n (k := 0) rfl dL_law_271)) <| dr_n
theorem tr_L_17 (L : Nat) (xs : Nat → Int32) (f1 f2 : dm_Sem) : dm_AllR (lw_ok L xs f1 f2) 272 [dm_ild 274 4, dm_no, dm_push 275 (.int 1), dm_ii 276 (fun x y => x + y), dm_sld 277 L xs, dm_inv 280 99 1 7, dm_no, dm_no, dm_ald 281 2, dm_ald 282 0, dm_ild 284 4, dm_no, dm_push 285 (.int 1), dm_ii 286 (fun x y => x + y), dm_sld 287 L xs, dm_inv 290 168 1 8] := dr_c (Or.inl (dg_iload dL_law_272)) <| dr_c (Or.inl dg_no) <| dr_c (Or.inl (dg_iconst (by decide) dL_law_274)) <| dr_c (Or.inl (dg_iadd dL_law_275)) <| dr_c (Or.inl (dg_sld dL_law_276)) <| dr_c (Or.inl (dg_inv dL_law_277 mo_99 rfl rfl wd_521 wd_522 wd_523 pd_99)) <| dr_c (Or.inl dg_no) <| dr_c (Or.inl dg_no) <| dr_c (Or.inl (dg_aload_n (k := 2) rfl dL_law_280)) <| dr_c (Or.inl (dg_aload_n (k := 0) rfl dL_law_281)) <| dr_c (Or.inl (dg_iload dL_law_282)) <| dr_c (Or.inl dg_no) <| dr_c (Or.inl (dg_iconst (by decide) dL_law_284)) <| dr_c (Or.inl (dg_iadd dL_law_285)) <| dr_c (Or.inl (dg_sld dL_law_286)) <| dr_c (Or.inl (dg_inv dL_law_287 mo_168 rfl rfl wd_1258 wd_1259 wd_1260 pd_168)) <| dr_n
theorem tr_L_18 (L : Nat) (xs : Nat → Int32) (f1 f2 : dm_Sem) : dm_AllR (lw_ok L xs f1 f2) 288 [dm_no, dm_no, dm_ic_eq 293 1263, dm_no, dm_no, dm_push 294 (.int 0), dm_ret .boolean, dm_ald 296 1, dm_ald 297 0, dm_ild 299 4, dm_no, dm_push 300 (.int 1), dm_ii 301 (fun x y => x + y), dm_sld 302 L xs, dm_inv 305 100 1 7, dm_no] := dr_c (Or.inl dg_no) <| dr_c (Or.inl dg_no) <| dr_c (Or.inl (dg_ic_eq (by decide) dL_law_290)) <| dr_c (Or.inl dg_no) <| dr_c (Or.inl dg_no) <| dr_c (Or.inl (dg_iconst (by decide) dL_law_293)) <| dr_c (Or.inl (dg_ret dL_law_294)) <| dr_c (Or.inl (dg_aload_n (k := 1) rfl dL_law_295)) <| dr_c (Or.inl (dg_aload_n (k := 0) rfl dL_law_296)) <| dr_c (Or.inl (dg_iload dL_law_297)) <| dr_c (Or.inl dg_no) <| dr_c (Or.inl (dg_iconst (by decide) dL_law_299)) <| dr_c (Or.inl (dg_iadd dL_law_300)) <| dr_c (Or.inl (dg_sld dL_law_301)) <| dr_c (Or.inl (dg_inv dL_law_302 mo_100 rfl rfl wd_529 wd_530 wd_531 pd_100)) <| dr_c (Or.inl dg_no) <| dr_n
theorem tr_L_19 (L : Nat) (xs : Nat → Int32) (f1 f2 : dm_Sem) : dm_AllR (lw_ok L xs f1 f2) 304 [dm_no, dm_ald 306 2, dm_ald 307 0, dm_ild 309 4, dm_no, dm_push 310 (.int 1), dm_ii 311 (fun x y => x + y), dm_sld 312 L xs, dm_inv 315 169 1 8, dm_no, dm_no, dm_ic_eq 318 1263, dm_no, dm_no, dm_push 319 (.int 0), dm_ret .boolean] := dr_c (Or.inl dg_no) <| dr_c (Or.inl (dg_aload_n (k := 2) rfl dL_law_305)) <| dr_c (Or.inl (dg_aload_n (k := 0) rfl dL_law_306)) <| dr_c (Or.inl (dg_iload dL_law_307)) <| dr_c (Or.inl dg_no) <| dr_c (Or.inl (dg_iconst (by decide) dL_law_309)) <| dr_c (Or.inl (dg_iadd dL_law_310)) <| dr_c (Or.inl (dg_sld dL_law_311)) <| dr_c (Or.inl (dg_inv dL_law_312 mo_169 rfl rfl wd_1262 wd_1263 wd_1264 pd_169)) <| dr_c (Or.inl dg_no) <| dr_c (Or.inl dg_no) <| dr_c (Or.inl (dg_ic_eq (by decide) dL_law_315)) <| dr_c (Or.inl dg_no) <| dr_c (Or.inl dg_no) <| dr_c (Or.inl (dg_iconst (by decide) dL_law_318)) <| dr_c (Or.inl (dg_ret dL_law_319)) <| dr_n
theorem tr_L_20 (L : Nat) (xs : Nat → Int32) (f1 f2 : dm_Sem) : dm_AllR (lw_ok L xs f1 f2) 320 [dm_ald 321 1, dm_ald 322 0, dm_ild 324 4, dm_no, dm_push 325 (.int 1), dm_ii 326 (fun x y => x + y), dm_sld 327 L xs, dm_ald 328 0, dm_ild 330 4, dm_no, dm_push 331 (.int 2), dm_ii 332 (fun x y => x + y), dm_sld 333 L xs, dm_inv 336 101 2 7, dm_no, dm_no] := dr_c (Or.inl (dg_aload_n (k := 1) rfl dL_law_320)) <| dr_c (Or.inl (dg_aload_n (k := 0) rfl dL_law_321)) <| dr_c (Or.inl (dg_iload dL_law_322)) <| dr_c (Or.inl dg_no) <| dr_c (Or.inl (dg_iconst (by decide) dL_law_324)) <| dr_c (Or.inl (dg_iadd dL_law_325)) <| dr_c (Or.inl (dg_sld dL_law_326)) <| dr_c (Or.inl (dg_aload_n (k := 0) rfl dL_law_327)) <| dr_c (Or.inl (dg_iload dL_law_328)) <| dr_c (Or.inl dg_no) <| dr_c (Or.inl (dg_iconst (by decide) dL_law_330)) <| dr_c (Or.inl (dg_iadd dL_law_331)) <| dr_c (Or.inl (dg_sld dL_law_332)) <| dr_c (Or.inl (dg_inv dL_law_333 mo_101 rfl rfl wd_533 wd_534 wd_535 pd_101)) <| dr_c (Or.inl dg_no) <| dr_c (Or.inl dg_no) <| dr_n
theorem tr_L_21 (L : Nat) (xs : Nat → Int32) (f1 f2 : dm_Sem) : dm_AllR (lw_ok L xs f1 f2) 336 [dm_ald 337 2, dm_ald 338 0, dm_ild 340 4, dm_no, dm_push 341 (.int 1), dm_ii 342 (fun x y => x + y), dm_sld 343 L xs, dm_ald 344 0, dm_ild 346 4, dm_no, dm_push 347 (.int 2), dm_ii 348 (fun x y => x + y), dm_sld 349 L xs, dm_inv 352 170 2 8, dm_no, dm_no] := dr_c (Or.inl (dg_aload_n (k := 2) rfl dL_law_336)) <| dr_c (Or.inl (dg_aload_n (k := 0) rfl dL_law_337)) <| dr_c (Or.inl (dg_iload dL_law_338)) <| dr_c (Or.inl dg_no) <| dr_c (Or.inl (dg_iconst (by decide) dL_law_340)) <| dr_c (Or.inl (dg_iadd dL_law_341)) <| dr_c (Or.inl (dg_sld dL_law_342)) <| dr_c (Or.inl (dg_aload_n (k := 0) rfl dL_law_343)) <| dr_c (Or.inl (dg_iload dL_law_344)) <| dr_c (Or.inl dg_no) <| dr_c (Or.inl (dg_iconst (by decide) dL_law_346)) <| dr_c (Or.inl (dg_iadd dL_law_347)) <| dr_c (Or.inl (dg_sld dL_law_348)) <| dr_c (Or.inl (dg_inv dL_law_349 mo_170 rfl rfl wd_1266 wd_1267 wd_1268 pd_170)) <| dr_c (Or.inl dg_no) <| dr_c (Or.inl dg_no) <| dr_n
theorem tr_L_22 (L : Nat) (xs : Nat → Int32) (f1 f2 : dm_Sem) : dm_AllR (lw_ok L xs f1 f2) 352 [dm_ic_eq 355 1263, dm_no, dm_no, dm_push 356 (.int 0), dm_ret .boolean, dm_ald 358 1, dm_ald 359 0, dm_ild 361 4, dm_no, dm_push 362 (.int 1), dm_ii 363 (fun x y => x + y), dm_sld 364 L xs, dm_inv 367 102 1 7, dm_no, dm_no, dm_ald 368 2] := dr_c (Or.inl (dg_ic_eq (by decide) dL_law_352)) <| dr_c (Or.inl dg_no) <| dr_c (Or.inl dg_no) <| dr_c (Or.inl (dg_iconst (by decide) dL_law_355)) <| dr_c (Or.inl (dg_ret dL_law_356)) <| dr_c (Or.inl (dg_aload_n (k := 1) rfl dL_law_357)) <| dr_c (Or.inl (dg_aload_n (k := 0) rfl dL_law_358)) <| dr_c (Or.inl (dg_iload dL_law_359)) <| dr_c (Or.inl dg_no) <| dr_c (Or.inl (dg_iconst (by decide) dL_law_361)) <| dr_c (Or.inl (dg_iadd dL_law_362)) <| dr_c (Or.inl (dg_sld dL_law_363)) <| dr_c (Or.inl (dg_inv dL_law_364 mo_102 rfl rfl wd_537 wd_538 wd_539 pd_102)) <| dr_c (Or.inl dg_no) <| dr_c (Or.inl dg_no) <| dr_c (Or.inl (dg_aload_n (k := 2) rfl dL_law_367)) <| dr_n
theorem tr_L_23 (L : Nat) (xs : Nat → Int32) (f1 f2 : dm_Sem) : dm_AllR (lw_ok L xs f1 f2) 368 [dm_ald 369 0, dm_ild 371 4, dm_no, dm_push 372 (.int 1), dm_ii 373 (fun x y => x + y), dm_sld 374 L xs, dm_inv 377 171 1 8, dm_no, dm_no, dm_ic_eq 380 1263, dm_no, dm_no, dm_push 381 (.int 0), dm_ret .boolean, dm_ald 383 1, dm_ald 384 0] := dr_c (Or.inl (dg_aload_n (k := 0) rfl dL_law_368)) <| dr_c (Or.inl (dg_iload dL_law_369)) <| dr_c (Or.inl dg_no) <| dr_c (Or.inl (dg_iconst (by decide) dL_law_371)) <| dr_c (Or.inl (dg_iadd dL_law_372)) <| dr_c (Or.inl (dg_sld dL_law_373)) <| dr_c (Or.inl (dg_inv dL_law_374 mo_171 rfl rfl wd_1270 wd_1271 wd_1272 pd_171)) <| dr_c (Or.inl dg_no) <| dr_c (Or.inl dg_no) <| dr_c (Or.inl (dg_ic_eq (by decide) dL_law_377)) <| dr_c (Or.inl dg_no) <| dr_c (Or.inl dg_no) <| dr_c (Or.inl (dg_iconst (by decide) dL_law_380)) <| dr_c (Or.inl (dg_ret dL_law_381)) <| dr_c (Or.inl (dg_aload_n (k := 1) rfl dL_law_382)) <| dr_c (Or.inl (dg_aload_n (k := 0) rfl dL_law_383)) <| dr_n
theorem tr_L_24 (L : Nat) (xs : Nat → Int32) (f1 f2 : dm_Sem) : dm_AllR (lw_ok L xs f1 f2) 384 [dm_ild 386 4, dm_no, dm_push 387 (.int 1), dm_ii 388 (fun x y => x + y), dm_sld 389 L xs, dm_ald 390 0, dm_ild 392 4, dm_no, dm_push 393 (.int 2), dm_ii 394 (fun x y => x + y), dm_sld 395 L xs, dm_inv 398 103 2 7, dm_no, dm_no, dm_ald 399 2, dm_ald 400 0] := dr_c (Or.inl (dg_iload dL_law_384)) <| dr_c (Or.inl dg_no) <| dr_c (Or.inl (dg_iconst (by decide) dL_law_386)) <| dr_c (Or.inl (dg_iadd dL_law_387)) <| dr_c (Or.inl (dg_sld dL_law_388)) <| dr_c (Or.inl (dg_aload_n (k := 0) rfl dL_law_389)) <| dr_c (Or.inl (dg_iload dL_law_390)) <| dr_c (Or.inl dg_no) <| dr_c (Or.inl (dg_iconst (by decide) dL_law_392)) <| dr_c (Or.inl (dg_iadd dL_law_393)) <| dr_c (Or.inl (dg_sld dL_law_394)) <| dr_c (Or.inl (dg_inv dL_law_395 mo_103 rfl rfl wd_542 wd_543 wd_544 pd_103)) <| dr_c (Or.inl dg_no) <| dr_c (Or.inl dg_no) <| dr_c (Or.inl (dg_aload_n (k := 2) rfl dL_law_398)) <| dr_c (Or.inl (dg_aload_n (k := 0) rfl dL_law_399)) <| dr_n
theorem tr_L_25 (L : Nat) (xs : Nat → Int32) (f1 f2 : dm_Sem) : dm_AllR (lw_ok L xs f1 f2) 400 [dm_ild 402 4, dm_no, dm_push 403 (.int 1), dm_ii 404 (fun x y => x + y), dm_sld 405 L xs, dm_ald 406 0, dm_ild 408 4, dm_no, dm_push 409 (.int 2), dm_ii 410 (fun x y => x + y), dm_sld 411 L xs, dm_inv 414 172 2 8, dm_no, dm_no, dm_ic_eq 417 1263, dm_no] := dr_c (Or.inl (dg_iload dL_law_400)) <| dr_c (Or.inl dg_no) <| dr_c (Or.inl (dg_iconst (by decide) dL_law_402)) <| dr_c (Or.inl (dg_iadd dL_law_403)) <| dr_c (Or.inl (dg_sld dL_law_404)) <| dr_c (Or.inl (dg_aload_n (k := 0) rfl dL_law_405)) <| dr_c (Or.inl (dg_iload dL_law_406)) <| dr_c (Or.inl dg_no) <| dr_c (Or.inl (dg_iconst (by decide) dL_law_408)) <| dr_c (Or.inl (dg_iadd dL_law_409)) <| dr_c (Or.inl (dg_sld dL_law_410)) <| dr_c (Or.inl (dg_inv dL_law_411 mo_172 rfl rfl wd_1274 wd_1275 wd_1276 pd_172)) <| dr_c (Or.inl dg_no) <| dr_c (Or.inl dg_no) <| dr_c (Or.inl (dg_ic_eq (by decide) dL_law_414)) <| dr_c (Or.inl dg_no) <| dr_n
theorem tr_L_26 (L : Nat) (xs : Nat → Int32) (f1 f2 : dm_Sem) : dm_AllR (lw_ok L xs f1 f2) 416 [dm_no, dm_push 418 (.int 0), dm_ret .boolean, dm_ald 420 1, dm_inv 423 104 0 7, dm_no, dm_no, dm_ald 424 2, dm_inv 427 173 0 8, dm_no, dm_no, dm_ic_eq 430 1263, dm_no, dm_no, dm_push 431 (.int 0), dm_ret .boolean] := dr_c (Or.inl dg_no) <| dr_c (Or.inl (dg_iconst (by decide) dL_law_417)) <| dr_c (Or.inl (dg_ret dL_law_418)) <| dr_c (Or.inl (dg_aload_n (k := 1) rfl dL_law_419)) <| dr_c (Or.inl (dg_inv dL_law_420 mo_104 rfl rfl wd_564 wd_565 wd_566 pd_104)) <| dr_c (Or.inl dg_no) <| dr_c (Or.inl dg_no) <| dr_c (Or.inl (dg_aload_n (k := 2) rfl dL_law_423)) <| dr_c (Or.inl (dg_inv dL_law_424 mo_173 rfl rfl wd_1282 wd_1283 wd_1284 pd_173)) <| dr_c (Or.inl dg_no) <| dr_c (Or.inl dg_no) <| dr_c (Or.inl (dg_ic_eq (by decide) dL_law_427)) <| dr_c (Or.inl dg_no) <| dr_c (Or.inl dg_no) <| dr_c (Or.inl (dg_iconst (by decide) dL_law_430)) <| dr_c (Or.inl (dg_ret dL_law_431)) <| dr_n
theorem tr_L_27 (L : Nat) (xs : Nat → Int32) (f1 f2 : dm_Sem) : dm_AllR (lw_ok L xs f1 f2) 432 [dm_ald 433 1, dm_ald 434 0, dm_ild 436 4, dm_no, dm_push 437 (.int 1), dm_ii 438 (fun x y => x + y), dm_sld 439 L xs, dm_ald 440 0, dm_ild 442 4, dm_no, dm_push 443 (.int 2), dm_ii 444 (fun x y => x + y), dm_sld 445 L xs, dm_inv 448 105 2 7, dm_no, dm_no] := dr_c (Or.inl (dg_aload_n (k := 1) rfl dL_law_432)) <| dr_c (Or.inl (dg_aload_n (k := 0) rfl dL_law_433)) <| dr_c (Or.inl (dg_iload dL_law_434)) <| dr_c (Or.inl dg_no) <| dr_c (Or.inl (dg_iconst (by decide) dL_law_436)) <| dr_c (Or.inl (dg_iadd dL_law_437)) <| dr_c (Or.inl (dg_sld dL_law_438)) <| dr_c (Or.inl (dg_aload_n (k := 0) rfl dL_law_439)) <| dr_c (Or.inl (dg_iload dL_law_440)) <| dr_c (Or.inl dg_no) <| dr_c (Or.inl (dg_iconst (by decide) dL_law_442)) <| dr_c (Or.inl (dg_iadd dL_law_443)) <| dr_c (Or.inl (dg_sld dL_law_444)) <| dr_c (Or.inl (dg_inv dL_law_445 mo_105 rfl rfl wd_575 wd_576 wd_577 pd_105)) <| dr_c (Or.inl dg_no) <| dr_c (Or.inl dg_no) <| dr_n
theorem tr_L_28 (L : Nat) (xs : Nat → Int32) (f1 f2 : dm_Sem) : dm_AllR (lw_ok L xs f1 f2) 448 [dm_ald 449 2, dm_ald 450 0, dm_ild 452 4, dm_no, dm_push 453 (.int 1), dm_ii 454 (fun x y => x + y), dm_sld 455 L xs, dm_ald 456 0, dm_ild 458 4, dm_no, dm_push 459 (.int 2), dm_ii 460 (fun x y => x + y), dm_sld 461 L xs, dm_inv 464 175 2 8, dm_no, dm_no] := dr_c (Or.inl (dg_aload_n (k := 2) rfl dL_law_448)) <| dr_c (Or.inl (dg_aload_n (k := 0) rfl dL_law_449)) <| dr_c (Or.inl (dg_iload dL_law_450)) <| dr_c (Or.inl dg_no) <| dr_c (Or.inl (dg_iconst (by decide) dL_law_452)) <| dr_c (Or.inl (dg_iadd dL_law_453)) <| dr_c (Or.inl (dg_sld dL_law_454)) <| dr_c (Or.inl (dg_aload_n (k := 0) rfl dL_law_455)) <| dr_c (Or.inl (dg_iload dL_law_456)) <| dr_c (Or.inl dg_no) <| dr_c (Or.inl (dg_iconst (by decide) dL_law_458)) <| dr_c (Or.inl (dg_iadd dL_law_459)) <| dr_c (Or.inl (dg_sld dL_law_460)) <| dr_c (Or.inl (dg_inv dL_law_461 mo_175 rfl rfl wd_1286 wd_1287 wd_1288 pd_175)) <| dr_c (Or.inl dg_no) <| dr_c (Or.inl dg_no) <| dr_n
theorem tr_L_29 (L : Nat) (xs : Nat → Int32) (f1 f2 : dm_Sem) : dm_AllR (lw_ok L xs f1 f2) 464 [dm_ic_eq 467 1263, dm_no, dm_no, dm_push 468 (.int 0), dm_ret .boolean, dm_ald 470 1, dm_ald 471 0, dm_ild 473 4, dm_no, dm_push 474 (.int 1), dm_ii 475 (fun x y => x + y), dm_sld 476 L xs, dm_ald 477 0, dm_ild 479 4, dm_no, dm_push 480 (.int 2)] := dr_c (Or.inl (dg_ic_eq (by decide) dL_law_464)) <| dr_c (Or.inl dg_no) <| dr_c (Or.inl dg_no) <| dr_c (Or.inl (dg_iconst (by decide) dL_law_467)) <| dr_c (Or.inl (dg_ret dL_law_468)) <| dr_c (Or.inl (dg_aload_n (k := 1) rfl dL_law_469)) <| dr_c (Or.inl (dg_aload_n (k := 0) rfl dL_law_470)) <| dr_c (Or.inl (dg_iload dL_law_471)) <| dr_c (Or.inl dg_no) <| dr_c (Or.inl (dg_iconst (by decide) dL_law_473)) <| dr_c (Or.inl (dg_iadd dL_law_474)) <| dr_c (Or.inl (dg_sld dL_law_475)) <| dr_c (Or.inl (dg_aload_n (k := 0) rfl dL_law_476)) <| dr_c (Or.inl (dg_iload dL_law_477)) <| dr_c (Or.inl dg_no) <| dr_c (Or.inl (dg_iconst (by decide) dL_law_479)) <| dr_n
theorem tr_L_30 (L : Nat) (xs : Nat → Int32) (f1 f2 : dm_Sem) : dm_AllR (lw_ok L xs f1 f2) 480 [dm_ii 481 (fun x y => x + y), dm_sld 482 L xs, dm_inv 485 106 2 7, dm_no, dm_no, dm_ald 486 2, dm_ald 487 0, dm_ild 489 4, dm_no, dm_push 490 (.int 1), dm_ii 491 (fun x y => x + y), dm_sld 492 L xs, dm_ald 493 0, dm_ild 495 4, dm_no, dm_push 496 (.int 2)] := dr_c (Or.inl (dg_iadd dL_law_480)) <| dr_c (Or.inl (dg_sld dL_law_481)) <| dr_c (Or.inl (dg_inv dL_law_482 mo_106 rfl rfl wd_580 wd_581 wd_582 pd_106)) <| dr_c (Or.inl dg_no) <| dr_c (Or.inl dg_no) <| dr_c (Or.inl (dg_aload_n (k := 2) rfl dL_law_485)) <| dr_c (Or.inl (dg_aload_n (k := 0) rfl dL_law_486)) <| dr_c (Or.inl (dg_iload dL_law_487)) <| dr_c (Or.inl dg_no) <| dr_c (Or.inl (dg_iconst (by decide) dL_law_489)) <| dr_c (Or.inl (dg_iadd dL_law_490)) <| dr_c (Or.inl (dg_sld dL_law_491)) <| dr_c (Or.inl (dg_aload_n (k := 0) rfl dL_law_492)) <| dr_c (Or.inl (dg_iload dL_law_493)) <| dr_c (Or.inl dg_no) <| dr_c (Or.inl (dg_iconst (by decide) dL_law_495)) <| dr_n
theorem tr_L_31 (L : Nat) (xs : Nat → Int32) (f1 f2 : dm_Sem) : dm_AllR (lw_ok L xs f1 f2) 496 [dm_ii 497 (fun x y => x + y), dm_sld 498 L xs, dm_inv 501 176 2 8, dm_no, dm_no, dm_ic_eq 504 1263, dm_no, dm_no, dm_push 505 (.int 0), dm_ret .boolean, dm_ald 507 1, dm_ald 508 0, dm_ild 510 4, dm_no, dm_push 511 (.int 1), dm_ii 512 (fun x y => x + y)] := dr_c (Or.inl (dg_iadd dL_law_496)) <| dr_c (Or.inl (dg_sld dL_law_497)) <| dr_c (Or.inl (dg_inv dL_law_498 mo_176 rfl rfl wd_1290 wd_1291 wd_1292 pd_176)) <| dr_c (Or.inl dg_no) <| dr_c (Or.inl dg_no) <| dr_c (Or.inl (dg_ic_eq (by decide) dL_law_501)) <| dr_c (Or.inl dg_no) <| dr_c (Or.inl dg_no) <| dr_c (Or.inl (dg_iconst (by decide) dL_law_504)) <| dr_c (Or.inl (dg_ret dL_law_505)) <| dr_c (Or.inl (dg_aload_n (k := 1) rfl dL_law_506)) <| dr_c (Or.inl (dg_aload_n (k := 0) rfl dL_law_507)) <| dr_c (Or.inl (dg_iload dL_law_508)) <| dr_c (Or.inl dg_no) <| dr_c (Or.inl (dg_iconst (by decide) dL_law_510)) <| dr_c (Or.inl (dg_iadd dL_law_511)) <| dr_n
theorem tr_L_32 (L : Nat) (xs : Nat → Int32) (f1 f2 : dm_Sem) : dm_AllR (lw_ok L xs f1 f2) 512 [dm_sld 513 L xs, dm_ald 514 0, dm_ild 516 4, dm_no, dm_push 517 (.int 2), dm_ii 518 (fun x y => x + y), dm_sld 519 L xs, dm_inv 522 107 2 7, dm_no, dm_no, dm_ald 523 2, dm_ald 524 0, dm_ild 526 4, dm_no, dm_push 527 (.int 1), dm_ii 528 (fun x y => x + y)] := dr_c (Or.inl (dg_sld dL_law_512)) <| dr_c (Or.inl (dg_aload_n (k := 0) rfl dL_law_513)) <| dr_c (Or.inl (dg_iload dL_law_514)) <| dr_c (Or.inl dg_no) <| dr_c (Or.inl (dg_iconst (by decide) dL_law_516)) <| dr_c (Or.inl (dg_iadd dL_law_517)) <| dr_c (Or.inl (dg_sld dL_law_518)) <| dr_c (Or.inl (dg_inv dL_law_519 mo_107 rfl rfl wd_609 wd_610 wd_611 pd_107)) <| dr_c (Or.inl dg_no) <| dr_c (Or.inl dg_no) <| dr_c (Or.inl (dg_aload_n (k := 2) rfl dL_law_522)) <| dr_c (Or.inl (dg_aload_n (k := 0) rfl dL_law_523)) <| dr_c (Or.inl (dg_iload dL_law_524)) <| dr_c (Or.inl dg_no) <| dr_c (Or.inl (dg_iconst (by decide) dL_law_526)) <| dr_c (Or.inl (dg_iadd dL_law_527)) <| dr_n
theorem tr_L_33 (L : Nat) (xs : Nat → Int32) (f1 f2 : dm_Sem) : dm_AllR (lw_ok L xs f1 f2) 528 [dm_sld 529 L xs, dm_ald 530 0, dm_ild 532 4, dm_no, dm_push 533 (.int 2), dm_ii 534 (fun x y => x + y), dm_sld 535 L xs, dm_inv 538 177 2 8, dm_no, dm_no, dm_ic_eq 541 1263, dm_no, dm_no, dm_push 542 (.int 0), dm_ret .boolean, dm_ald 544 1] := dr_c (Or.inl (dg_sld dL_law_528)) <| dr_c (Or.inl (dg_aload_n (k := 0) rfl dL_law_529)) <| dr_c (Or.inl (dg_iload dL_law_530)) <| dr_c (Or.inl dg_no) <| dr_c (Or.inl (dg_iconst (by decide) dL_law_532)) <| dr_c (Or.inl (dg_iadd dL_law_533)) <| dr_c (Or.inl (dg_sld dL_law_534)) <| dr_c (Or.inl (dg_inv dL_law_535 mo_177 rfl rfl wd_1301 wd_1302 wd_1303 pd_177)) <| dr_c (Or.inl dg_no) <| dr_c (Or.inl dg_no) <| dr_c (Or.inl (dg_ic_eq (by decide) dL_law_538)) <| dr_c (Or.inl dg_no) <| dr_c (Or.inl dg_no) <| dr_c (Or.inl (dg_iconst (by decide) dL_law_541)) <| dr_c (Or.inl (dg_ret dL_law_542)) <| dr_c (Or.inl (dg_aload_n (k := 1) rfl dL_law_543)) <| dr_n
theorem tr_L_34 (L : Nat) (xs : Nat → Int32) (f1 f2 : dm_Sem) : dm_AllR (lw_ok L xs f1 f2) 544 [dm_ald 545 0, dm_ild 547 4, dm_no, dm_push 548 (.int 1), dm_ii 549 (fun x y => x + y), dm_sld 550 L xs, dm_ald 551 0, dm_ild 553 4, dm_no, dm_push 554 (.int 2), dm_ii 555 (fun x y => x + y), dm_sld 556 L xs, dm_i1 557 (fun x => .long x.toInt64), dm_push 559 (.int 32), dm_no, dm_li 560 (fun x y => x <<< (y.toInt64 &&& 63))] := dr_c (Or.inl (dg_aload_n (k := 0) rfl dL_law_544)) <| dr_c (Or.inl (dg_iload dL_law_545)) <| dr_c (Or.inl dg_no) <| dr_c (Or.inl (dg_iconst (by decide) dL_law_547)) <| dr_c (Or.inl (dg_iadd dL_law_548)) <| dr_c (Or.inl (dg_sld dL_law_549)) <| dr_c (Or.inl (dg_aload_n (k := 0) rfl dL_law_550)) <| dr_c (Or.inl (dg_iload dL_law_551)) <| dr_c (Or.inl dg_no) <| dr_c (Or.inl (dg_iconst (by decide) dL_law_553)) <| dr_c (Or.inl (dg_iadd dL_law_554)) <| dr_c (Or.inl (dg_sld dL_law_555)) <| dr_c (Or.inl (dg_i2l dL_law_556)) <| dr_c (Or.inl (dg_bipush (by decide) dL_law_557)) <| dr_c (Or.inl dg_no) <| dr_c (Or.inl (dg_lshl dL_law_559)) <| dr_n
theorem tr_L_35 (L : Nat) (xs : Nat → Int32) (f1 f2 : dm_Sem) : dm_AllR (lw_ok L xs f1 f2) 560 [dm_ald 561 0, dm_ild 563 4, dm_no, dm_push 564 (.int 3), dm_ii 565 (fun x y => x + y), dm_sld 566 L xs, dm_i1 567 (fun x => .long x.toInt64), dm_push 570 (.long 4294967295), dm_no, dm_no, dm_ll 571 (fun x y => x &&& y), dm_ll 572 (fun x y => x ||| y), dm_ald 573 0, dm_ild 575 4, dm_no, dm_push 576 (.int 4)] := dr_c (Or.inl (dg_aload_n (k := 0) rfl dL_law_560)) <| dr_c (Or.inl (dg_iload dL_law_561)) <| dr_c (Or.inl dg_no) <| dr_c (Or.inl (dg_iconst (by decide) dL_law_563)) <| dr_c (Or.inl (dg_iadd dL_law_564)) <| dr_c (Or.inl (dg_sld dL_law_565)) <| dr_c (Or.inl (dg_i2l dL_law_566)) <| dr_c (Or.inl (dg_ldc2 wd_1429 dL_law_567)) <| dr_c (Or.inl dg_no) <| dr_c (Or.inl dg_no) <| dr_c (Or.inl (dg_land dL_law_570)) <| dr_c (Or.inl (dg_lor dL_law_571)) <| dr_c (Or.inl (dg_aload_n (k := 0) rfl dL_law_572)) <| dr_c (Or.inl (dg_iload dL_law_573)) <| dr_c (Or.inl dg_no) <| dr_c (Or.inl (dg_iconst (by decide) dL_law_575)) <| dr_n
theorem tr_L_36 (L : Nat) (xs : Nat → Int32) (f1 f2 : dm_Sem) : dm_AllR (lw_ok L xs f1 f2) 576 [dm_ii 577 (fun x y => x + y), dm_sld 578 L xs, dm_ald 579 3, f1, dm_no, dm_no, dm_ist 584 5, dm_no, dm_ald 585 2, dm_ald 586 0, dm_ild 588 4, dm_no, dm_push 589 (.int 1), dm_ii 590 (fun x y => x + y), dm_sld 591 L xs, dm_ald 592 0] := dr_c (Or.inl (dg_iadd dL_law_576)) <| dr_c (Or.inl (dg_sld dL_law_577)) <| dr_c (Or.inl (dg_aload_n (k := 3) rfl dL_law_578)) <| dr_c (Or.inr (Or.inl ⟨rfl, rfl⟩)) <| dr_c (Or.inl dg_no) <| dr_c (Or.inl dg_no) <| dr_c (Or.inl (dg_istore (by decide) dL_law_582)) <| dr_c (Or.inl dg_no) <| dr_c (Or.inl (dg_aload_n (k := 2) rfl dL_law_584)) <| dr_c (Or.inl (dg_aload_n (k := 0) rfl dL_law_585)) <| dr_c (Or.inl (dg_iload dL_law_586)) <| dr_c (Or.inl dg_no) <| dr_c (Or.inl (dg_iconst (by decide) dL_law_588)) <| dr_c (Or.inl (dg_iadd dL_law_589)) <| dr_c (Or.inl (dg_sld dL_law_590)) <| dr_c (Or.inl (dg_aload_n (k := 0) rfl dL_law_591)) <| dr_n
theorem tr_L_37 (L : Nat) (xs : Nat → Int32) (f1 f2 : dm_Sem) : dm_AllR (lw_ok L xs f1 f2) 592 [dm_ild 594 4, dm_no, dm_push 595 (.int 2), dm_ii 596 (fun x y => x + y), dm_sld 597 L xs, dm_i1 598 (fun x => .long x.toInt64), dm_push 600 (.int 32), dm_no, dm_li 601 (fun x y => x <<< (y.toInt64 &&& 63)), dm_ald 602 0, dm_ild 604 4, dm_no, dm_push 605 (.int 3), dm_ii 606 (fun x y => x + y), dm_sld 607 L xs, dm_i1 608 (fun x => .long x.toInt64)] := dr_c (Or.inl (dg_iload dL_law_592)) <| dr_c (Or.inl dg_no) <| dr_c (Or.inl (dg_iconst (by decide) dL_law_594)) <| dr_c (Or.inl (dg_iadd dL_law_595)) <| dr_c (Or.inl (dg_sld dL_law_596)) <| dr_c (Or.inl (dg_i2l dL_law_597)) <| dr_c (Or.inl (dg_bipush (by decide) dL_law_598)) <| dr_c (Or.inl dg_no) <| dr_c (Or.inl (dg_lshl dL_law_600)) <| dr_c (Or.inl (dg_aload_n (k := 0) rfl dL_law_601)) <| dr_c (Or.inl (dg_iload dL_law_602)) <| dr_c (Or.inl dg_no) <| dr_c (Or.inl (dg_iconst (by decide) dL_law_604)) <| dr_c (Or.inl (dg_iadd dL_law_605)) <| dr_c (Or.inl (dg_sld dL_law_606)) <| dr_c (Or.inl (dg_i2l dL_law_607)) <| dr_n
theorem tr_L_38 (L : Nat) (xs : Nat → Int32) (f1 f2 : dm_Sem) : dm_AllR (lw_ok L xs f1 f2) 608 [dm_push 611 (.long 4294967295), dm_no, dm_no, dm_ll 612 (fun x y => x &&& y), dm_ll 613 (fun x y => x ||| y), dm_ald 614 0, dm_ild 616 4, dm_no, dm_push 617 (.int 4), dm_ii 618 (fun x y => x + y), dm_sld 619 L xs, dm_inv 622 180 3 8, dm_no, dm_no, dm_ist 624 6, dm_no] := dr_c (Or.inl (dg_ldc2 wd_1429 dL_law_608)) <| dr_c (Or.inl dg_no) <| dr_c (Or.inl dg_no) <| dr_c (Or.inl (dg_land dL_law_611)) <| dr_c (Or.inl (dg_lor dL_law_612)) <| dr_c (Or.inl (dg_aload_n (k := 0) rfl dL_law_613)) <| dr_c (Or.inl (dg_iload dL_law_614)) <| dr_c (Or.inl dg_no) <| dr_c (Or.inl (dg_iconst (by decide) dL_law_616)) <| dr_c (Or.inl (dg_iadd dL_law_617)) <| dr_c (Or.inl (dg_sld dL_law_618)) <| dr_c (Or.inl (dg_inv dL_law_619 mo_180 rfl rfl wd_1305 wd_1306 wd_1307 pd_180)) <| dr_c (Or.inl dg_no) <| dr_c (Or.inl dg_no) <| dr_c (Or.inl (dg_istore (by decide) dL_law_622)) <| dr_c (Or.inl dg_no) <| dr_n
theorem tr_L_39 (L : Nat) (xs : Nat → Int32) (f1 f2 : dm_Sem) : dm_AllR (lw_ok L xs f1 f2) 624 [dm_ald 625 2, dm_inv 628 135 0 8, dm_no, dm_no, dm_ild 630 5, dm_no, dm_ic_eq 633 635, dm_no, dm_no, dm_push 634 (.int 0), dm_ret .boolean, dm_ild 637 5, dm_no, dm_if_ne 640 652, dm_no, dm_no] := dr_c (Or.inl (dg_aload_n (k := 2) rfl dL_law_624)) <| dr_c (Or.inl (dg_inv dL_law_625 mo_135 rfl rfl wd_1156 wd_1157 wd_1158 pd_135)) <| dr_c (Or.inl dg_no) <| dr_c (Or.inl dg_no) <| dr_c (Or.inl (dg_iload dL_law_628)) <| dr_c (Or.inl dg_no) <| dr_c (Or.inl (dg_ic_eq (by decide) dL_law_630)) <| dr_c (Or.inl dg_no) <| dr_c (Or.inl dg_no) <| dr_c (Or.inl (dg_iconst (by decide) dL_law_633)) <| dr_c (Or.inl (dg_ret dL_law_634)) <| dr_c (Or.inl (dg_iload dL_law_635)) <| dr_c (Or.inl dg_no) <| dr_c (Or.inl (dg_if_ne (by decide) dL_law_637)) <| dr_c (Or.inl dg_no) <| dr_c (Or.inl dg_no) <| dr_n
theorem tr_L_40 (L : Nat) (xs : Nat → Int32) (f1 f2 : dm_Sem) : dm_AllR (lw_ok L xs f1 f2) 640 [dm_ald 641 3, dm_push 642 (.int 0), dm_lald 643, dm_ild 645 6, dm_no, dm_i1 646 (fun x => .long x.toInt64), dm_lc 647, dm_if_eq 650 652, dm_no, dm_no, dm_push 651 (.int 0), dm_ret .boolean, dm_goto 1263, dm_no, dm_no, dm_ald 656 1] := dr_c (Or.inl (dg_aload_n (k := 3) rfl dL_law_640)) <| dr_c (Or.inl (dg_iconst (by decide) dL_law_641)) <| dr_c (Or.inl (dg_lald dL_law_642)) <| dr_c (Or.inl (dg_iload dL_law_643)) <| dr_c (Or.inl dg_no) <| dr_c (Or.inl (dg_i2l dL_law_645)) <| dr_c (Or.inl (dg_lcmp dL_law_646)) <| dr_c (Or.inl (dg_if_eq (by decide) dL_law_647)) <| dr_c (Or.inl dg_no) <| dr_c (Or.inl dg_no) <| dr_c (Or.inl (dg_iconst (by decide) dL_law_650)) <| dr_c (Or.inl (dg_ret dL_law_651)) <| dr_c (Or.inl (dg_goto (by decide) dL_law_652)) <| dr_c (Or.inl dg_no) <| dr_c (Or.inl dg_no) <| dr_c (Or.inl (dg_aload_n (k := 1) rfl dL_law_655)) <| dr_n
theorem tr_L_41 (L : Nat) (xs : Nat → Int32) (f1 f2 : dm_Sem) : dm_AllR (lw_ok L xs f1 f2) 656 [dm_ald 657 0, dm_ild 659 4, dm_no, dm_push 660 (.int 1), dm_ii 661 (fun x y => x + y), dm_sld 662 L xs, dm_ald 663 0, dm_ild 665 4, dm_no, dm_push 666 (.int 2), dm_ii 667 (fun x y => x + y), dm_sld 668 L xs, dm_i1 669 (fun x => .long x.toInt64), dm_push 671 (.int 32), dm_no, dm_li 672 (fun x y => x <<< (y.toInt64 &&& 63))] := dr_c (Or.inl (dg_aload_n (k := 0) rfl dL_law_656)) <| dr_c (Or.inl (dg_iload dL_law_657)) <| dr_c (Or.inl dg_no) <| dr_c (Or.inl (dg_iconst (by decide) dL_law_659)) <| dr_c (Or.inl (dg_iadd dL_law_660)) <| dr_c (Or.inl (dg_sld dL_law_661)) <| dr_c (Or.inl (dg_aload_n (k := 0) rfl dL_law_662)) <| dr_c (Or.inl (dg_iload dL_law_663)) <| dr_c (Or.inl dg_no) <| dr_c (Or.inl (dg_iconst (by decide) dL_law_665)) <| dr_c (Or.inl (dg_iadd dL_law_666)) <| dr_c (Or.inl (dg_sld dL_law_667)) <| dr_c (Or.inl (dg_i2l dL_law_668)) <| dr_c (Or.inl (dg_bipush (by decide) dL_law_669)) <| dr_c (Or.inl dg_no) <| dr_c (Or.inl (dg_lshl dL_law_671)) <| dr_n
theorem tr_L_42 (L : Nat) (xs : Nat → Int32) (f1 f2 : dm_Sem) : dm_AllR (lw_ok L xs f1 f2) 672 [dm_ald 673 0, dm_ild 675 4, dm_no, dm_push 676 (.int 3), dm_ii 677 (fun x y => x + y), dm_sld 678 L xs, dm_i1 679 (fun x => .long x.toInt64), dm_push 682 (.long 4294967295), dm_no, dm_no, dm_ll 683 (fun x y => x &&& y), dm_ll 684 (fun x y => x ||| y), dm_ald 685 0, dm_ild 687 4, dm_no, dm_push 688 (.int 4)] := dr_c (Or.inl (dg_aload_n (k := 0) rfl dL_law_672)) <| dr_c (Or.inl (dg_iload dL_law_673)) <| dr_c (Or.inl dg_no) <| dr_c (Or.inl (dg_iconst (by decide) dL_law_675)) <| dr_c (Or.inl (dg_iadd dL_law_676)) <| dr_c (Or.inl (dg_sld dL_law_677)) <| dr_c (Or.inl (dg_i2l dL_law_678)) <| dr_c (Or.inl (dg_ldc2 wd_1429 dL_law_679)) <| dr_c (Or.inl dg_no) <| dr_c (Or.inl dg_no) <| dr_c (Or.inl (dg_land dL_law_682)) <| dr_c (Or.inl (dg_lor dL_law_683)) <| dr_c (Or.inl (dg_aload_n (k := 0) rfl dL_law_684)) <| dr_c (Or.inl (dg_iload dL_law_685)) <| dr_c (Or.inl dg_no) <| dr_c (Or.inl (dg_iconst (by decide) dL_law_687)) <| dr_n
theorem tr_L_43 (L : Nat) (xs : Nat → Int32) (f1 f2 : dm_Sem) : dm_AllR (lw_ok L xs f1 f2) 688 [dm_ii 689 (fun x y => x + y), dm_sld 690 L xs, dm_ald 691 3, f2, dm_no, dm_no, dm_ist 696 5, dm_no, dm_ald 697 2, dm_ald 698 0, dm_ild 700 4, dm_no, dm_push 701 (.int 1), dm_ii 702 (fun x y => x + y), dm_sld 703 L xs, dm_ald 704 0] := dr_c (Or.inl (dg_iadd dL_law_688)) <| dr_c (Or.inl (dg_sld dL_law_689)) <| dr_c (Or.inl (dg_aload_n (k := 3) rfl dL_law_690)) <| dr_c (Or.inr (Or.inr ⟨rfl, rfl⟩)) <| dr_c (Or.inl dg_no) <| dr_c (Or.inl dg_no) <| dr_c (Or.inl (dg_istore (by decide) dL_law_694)) <| dr_c (Or.inl dg_no) <| dr_c (Or.inl (dg_aload_n (k := 2) rfl dL_law_696)) <| dr_c (Or.inl (dg_aload_n (k := 0) rfl dL_law_697)) <| dr_c (Or.inl (dg_iload dL_law_698)) <| dr_c (Or.inl dg_no) <| dr_c (Or.inl (dg_iconst (by decide) dL_law_700)) <| dr_c (Or.inl (dg_iadd dL_law_701)) <| dr_c (Or.inl (dg_sld dL_law_702)) <| dr_c (Or.inl (dg_aload_n (k := 0) rfl dL_law_703)) <| dr_n
theorem tr_L_44 (L : Nat) (xs : Nat → Int32) (f1 f2 : dm_Sem) : dm_AllR (lw_ok L xs f1 f2) 704 [dm_ild 706 4, dm_no, dm_push 707 (.int 2), dm_ii 708 (fun x y => x + y), dm_sld 709 L xs, dm_i1 710 (fun x => .long x.toInt64), dm_push 712 (.int 32), dm_no, dm_li 713 (fun x y => x <<< (y.toInt64 &&& 63)), dm_ald 714 0, dm_ild 716 4, dm_no, dm_push 717 (.int 3), dm_ii 718 (fun x y => x + y), dm_sld 719 L xs, dm_i1 720 (fun x => .long x.toInt64)] := dr_c (Or.inl (dg_iload dL_law_704)) <| dr_c (Or.inl dg_no) <| dr_c (Or.inl (dg_iconst (by decide) dL_law_706)) <| dr_c (Or.inl (dg_iadd dL_law_707)) <| dr_c (Or.inl (dg_sld dL_law_708)) <| dr_c (Or.inl (dg_i2l dL_law_709)) <| dr_c (Or.inl (dg_bipush (by decide) dL_law_710)) <| dr_c (Or.inl dg_no) <| dr_c (Or.inl (dg_lshl dL_law_712)) <| dr_c (Or.inl (dg_aload_n (k := 0) rfl dL_law_713)) <| dr_c (Or.inl (dg_iload dL_law_714)) <| dr_c (Or.inl dg_no) <| dr_c (Or.inl (dg_iconst (by decide) dL_law_716)) <| dr_c (Or.inl (dg_iadd dL_law_717)) <| dr_c (Or.inl (dg_sld dL_law_718)) <| dr_c (Or.inl (dg_i2l dL_law_719)) <| dr_n
theorem tr_L_45 (L : Nat) (xs : Nat → Int32) (f1 f2 : dm_Sem) : dm_AllR (lw_ok L xs f1 f2) 720 [dm_push 723 (.long 4294967295), dm_no, dm_no, dm_ll 724 (fun x y => x &&& y), dm_ll 725 (fun x y => x ||| y), dm_ald 726 0, dm_ild 728 4, dm_no, dm_push 729 (.int 4), dm_ii 730 (fun x y => x + y), dm_sld 731 L xs, dm_inv 734 181 3 8, dm_no, dm_no, dm_ist 736 6, dm_no] := dr_c (Or.inl (dg_ldc2 wd_1429 dL_law_720)) <| dr_c (Or.inl dg_no) <| dr_c (Or.inl dg_no) <| dr_c (Or.inl (dg_land dL_law_723)) <| dr_c (Or.inl (dg_lor dL_law_724)) <| dr_c (Or.inl (dg_aload_n (k := 0) rfl dL_law_725)) <| dr_c (Or.inl (dg_iload dL_law_726)) <| dr_c (Or.inl dg_no) <| dr_c (Or.inl (dg_iconst (by decide) dL_law_728)) <| dr_c (Or.inl (dg_iadd dL_law_729)) <| dr_c (Or.inl (dg_sld dL_law_730)) <| dr_c (Or.inl (dg_inv dL_law_731 mo_181 rfl rfl wd_1316 wd_1317 wd_1318 pd_181)) <| dr_c (Or.inl dg_no) <| dr_c (Or.inl dg_no) <| dr_c (Or.inl (dg_istore (by decide) dL_law_734)) <| dr_c (Or.inl dg_no) <| dr_n
theorem tr_L_46 (L : Nat) (xs : Nat → Int32) (f1 f2 : dm_Sem) : dm_AllR (lw_ok L xs f1 f2) 736 [dm_ald 737 2, dm_inv 740 135 0 8, dm_no, dm_no, dm_ild 742 5, dm_no, dm_ic_eq 745 747, dm_no, dm_no, dm_push 746 (.int 0), dm_ret .boolean, dm_ild 749 5, dm_no, dm_if_ne 752 771, dm_no, dm_no] := dr_c (Or.inl (dg_aload_n (k := 2) rfl dL_law_736)) <| dr_c (Or.inl (dg_inv dL_law_737 mo_135 rfl rfl wd_1156 wd_1157 wd_1158 pd_135)) <| dr_c (Or.inl dg_no) <| dr_c (Or.inl dg_no) <| dr_c (Or.inl (dg_iload dL_law_740)) <| dr_c (Or.inl dg_no) <| dr_c (Or.inl (dg_ic_eq (by decide) dL_law_742)) <| dr_c (Or.inl dg_no) <| dr_c (Or.inl dg_no) <| dr_c (Or.inl (dg_iconst (by decide) dL_law_745)) <| dr_c (Or.inl (dg_ret dL_law_746)) <| dr_c (Or.inl (dg_iload dL_law_747)) <| dr_c (Or.inl dg_no) <| dr_c (Or.inl (dg_if_ne (by decide) dL_law_749)) <| dr_c (Or.inl dg_no) <| dr_c (Or.inl dg_no) <| dr_n
theorem tr_L_47 (L : Nat) (xs : Nat → Int32) (f1 f2 : dm_Sem) : dm_AllR (lw_ok L xs f1 f2) 752 [dm_ald 753 3, dm_push 754 (.int 0), dm_lald 755, dm_ild 757 6, dm_no, dm_if_eq 760 764, dm_no, dm_no, dm_push 761 (.long 1), dm_goto 765, dm_no, dm_no, dm_push 765 (.long 0), dm_lc 766, dm_if_eq 769 771, dm_no] := dr_c (Or.inl (dg_aload_n (k := 3) rfl dL_law_752)) <| dr_c (Or.inl (dg_iconst (by decide) dL_law_753)) <| dr_c (Or.inl (dg_lald dL_law_754)) <| dr_c (Or.inl (dg_iload dL_law_755)) <| dr_c (Or.inl dg_no) <| dr_c (Or.inl (dg_if_eq (by decide) dL_law_757)) <| dr_c (Or.inl dg_no) <| dr_c (Or.inl dg_no) <| dr_c (Or.inl (dg_lconst (by decide) dL_law_760)) <| dr_c (Or.inl (dg_goto (by decide) dL_law_761)) <| dr_c (Or.inl dg_no) <| dr_c (Or.inl dg_no) <| dr_c (Or.inl (dg_lconst (by decide) dL_law_764)) <| dr_c (Or.inl (dg_lcmp dL_law_765)) <| dr_c (Or.inl (dg_if_eq (by decide) dL_law_766)) <| dr_c (Or.inl dg_no) <| dr_n
theorem tr_L_48 (L : Nat) (xs : Nat → Int32) (f1 f2 : dm_Sem) : dm_AllR (lw_ok L xs f1 f2) 768 [dm_no, dm_push 770 (.int 0), dm_ret .boolean, dm_goto 1263, dm_no, dm_no, dm_ald 775 1, dm_ald 776 0, dm_ild 778 4, dm_no, dm_push 779 (.int 1), dm_ii 780 (fun x y => x + y), dm_sld 781 L xs, dm_ald 782 0, dm_ild 784 4, dm_no] := dr_c (Or.inl dg_no) <| dr_c (Or.inl (dg_iconst (by decide) dL_law_769)) <| dr_c (Or.inl (dg_ret dL_law_770)) <| dr_c (Or.inl (dg_goto (by decide) dL_law_771)) <| dr_c (Or.inl dg_no) <| dr_c (Or.inl dg_no) <| dr_c (Or.inl (dg_aload_n (k := 1) rfl dL_law_774)) <| dr_c (Or.inl (dg_aload_n (k := 0) rfl dL_law_775)) <| dr_c (Or.inl (dg_iload dL_law_776)) <| dr_c (Or.inl dg_no) <| dr_c (Or.inl (dg_iconst (by decide) dL_law_778)) <| dr_c (Or.inl (dg_iadd dL_law_779)) <| dr_c (Or.inl (dg_sld dL_law_780)) <| dr_c (Or.inl (dg_aload_n (k := 0) rfl dL_law_781)) <| dr_c (Or.inl (dg_iload dL_law_782)) <| dr_c (Or.inl dg_no) <| dr_n
theorem tr_L_49 (L : Nat) (xs : Nat → Int32) (f1 f2 : dm_Sem) : dm_AllR (lw_ok L xs f1 f2) 784 [dm_push 785 (.int 2), dm_ii 786 (fun x y => x + y), dm_sld 787 L xs, dm_inv 790 110 2 7, dm_no, dm_no, dm_ald 791 2, dm_ald 792 0, dm_ild 794 4, dm_no, dm_push 795 (.int 1), dm_ii 796 (fun x y => x + y), dm_sld 797 L xs, dm_ald 798 0, dm_ild 800 4, dm_no] := dr_c (Or.inl (dg_iconst (by decide) dL_law_784)) <| dr_c (Or.inl (dg_iadd dL_law_785)) <| dr_c (Or.inl (dg_sld dL_law_786)) <| dr_c (Or.inl (dg_inv dL_law_787 mo_110 rfl rfl wd_620 wd_621 wd_622 pd_110)) <| dr_c (Or.inl dg_no) <| dr_c (Or.inl dg_no) <| dr_c (Or.inl (dg_aload_n (k := 2) rfl dL_law_790)) <| dr_c (Or.inl (dg_aload_n (k := 0) rfl dL_law_791)) <| dr_c (Or.inl (dg_iload dL_law_792)) <| dr_c (Or.inl dg_no) <| dr_c (Or.inl (dg_iconst (by decide) dL_law_794)) <| dr_c (Or.inl (dg_iadd dL_law_795)) <| dr_c (Or.inl (dg_sld dL_law_796)) <| dr_c (Or.inl (dg_aload_n (k := 0) rfl dL_law_797)) <| dr_c (Or.inl (dg_iload dL_law_798)) <| dr_c (Or.inl dg_no) <| dr_n
theorem tr_L_50 (L : Nat) (xs : Nat → Int32) (f1 f2 : dm_Sem) : dm_AllR (lw_ok L xs f1 f2) 800 [dm_push 801 (.int 2), dm_ii 802 (fun x y => x + y), dm_sld 803 L xs, dm_inv 806 182 2 8, dm_no, dm_no, dm_ic_eq 809 1263, dm_no, dm_no, dm_push 810 (.int 0), dm_ret .boolean, dm_ald 812 1, dm_ald 813 0, dm_ild 815 4, dm_no, dm_push 816 (.int 1)] := dr_c (Or.inl (dg_iconst (by decide) dL_law_800)) <| dr_c (Or.inl (dg_iadd dL_law_801)) <| dr_c (Or.inl (dg_sld dL_law_802)) <| dr_c (Or.inl (dg_inv dL_law_803 mo_182 rfl rfl wd_1320 wd_1321 wd_1322 pd_182)) <| dr_c (Or.inl dg_no) <| dr_c (Or.inl dg_no) <| dr_c (Or.inl (dg_ic_eq (by decide) dL_law_806)) <| dr_c (Or.inl dg_no) <| dr_c (Or.inl dg_no) <| dr_c (Or.inl (dg_iconst (by decide) dL_law_809)) <| dr_c (Or.inl (dg_ret dL_law_810)) <| dr_c (Or.inl (dg_aload_n (k := 1) rfl dL_law_811)) <| dr_c (Or.inl (dg_aload_n (k := 0) rfl dL_law_812)) <| dr_c (Or.inl (dg_iload dL_law_813)) <| dr_c (Or.inl dg_no) <| dr_c (Or.inl (dg_iconst (by decide) dL_law_815)) <| dr_n
theorem tr_L_51 (L : Nat) (xs : Nat → Int32) (f1 f2 : dm_Sem) : dm_AllR (lw_ok L xs f1 f2) 816 [dm_ii 817 (fun x y => x + y), dm_sld 818 L xs, dm_ald 819 0, dm_ild 821 4, dm_no, dm_push 822 (.int 2), dm_ii 823 (fun x y => x + y), dm_sld 824 L xs, dm_ald 825 0, dm_ild 827 4, dm_no, dm_push 828 (.int 3), dm_ii 829 (fun x y => x + y), dm_sld 830 L xs, dm_inv 833 111 3 7, dm_no] := dr_c (Or.inl (dg_iadd dL_law_816)) <| dr_c (Or.inl (dg_sld dL_law_817)) <| dr_c (Or.inl (dg_aload_n (k := 0) rfl dL_law_818)) <| dr_c (Or.inl (dg_iload dL_law_819)) <| dr_c (Or.inl dg_no) <| dr_c (Or.inl (dg_iconst (by decide) dL_law_821)) <| dr_c (Or.inl (dg_iadd dL_law_822)) <| dr_c (Or.inl (dg_sld dL_law_823)) <| dr_c (Or.inl (dg_aload_n (k := 0) rfl dL_law_824)) <| dr_c (Or.inl (dg_iload dL_law_825)) <| dr_c (Or.inl dg_no) <| dr_c (Or.inl (dg_iconst (by decide) dL_law_827)) <| dr_c (Or.inl (dg_iadd dL_law_828)) <| dr_c (Or.inl (dg_sld dL_law_829)) <| dr_c (Or.inl (dg_inv dL_law_830 mo_111 rfl rfl wd_663 wd_664 wd_665 pd_111)) <| dr_c (Or.inl dg_no) <| dr_n
theorem tr_L_52 (L : Nat) (xs : Nat → Int32) (f1 f2 : dm_Sem) : dm_AllR (lw_ok L xs f1 f2) 832 [dm_no, dm_ald 834 2, dm_ald 835 0, dm_ild 837 4, dm_no, dm_push 838 (.int 1), dm_ii 839 (fun x y => x + y), dm_sld 840 L xs, dm_ald 841 0, dm_ild 843 4, dm_no, dm_push 844 (.int 2), dm_ii 845 (fun x y => x + y), dm_sld 846 L xs, dm_ald 847 0, dm_ild 849 4] := dr_c (Or.inl dg_no) <| dr_c (Or.inl (dg_aload_n (k := 2) rfl dL_law_833)) <| dr_c (Or.inl (dg_aload_n (k := 0) rfl dL_law_834)) <| dr_c (Or.inl (dg_iload dL_law_835)) <| dr_c (Or.inl dg_no) <| dr_c (Or.inl (dg_iconst (by decide) dL_law_837)) <| dr_c (Or.inl (dg_iadd dL_law_838)) <| dr_c (Or.inl (dg_sld dL_law_839)) <| dr_c (Or.inl (dg_aload_n (k := 0) rfl dL_law_840)) <| dr_c (Or.inl (dg_iload dL_law_841)) <| dr_c (Or.inl dg_no) <| dr_c (Or.inl (dg_iconst (by decide) dL_law_843)) <| dr_c (Or.inl (dg_iadd dL_law_844)) <| dr_c (Or.inl (dg_sld dL_law_845)) <| dr_c (Or.inl (dg_aload_n (k := 0) rfl dL_law_846)) <| dr_c (Or.inl (dg_iload dL_law_847)) <| dr_n
theorem tr_L_53 (L : Nat) (xs : Nat → Int32) (f1 f2 : dm_Sem) : dm_AllR (lw_ok L xs f1 f2) 848 [dm_no, dm_push 850 (.int 3), dm_ii 851 (fun x y => x + y), dm_sld 852 L xs, dm_inv 855 185 3 8, dm_no, dm_no, dm_ic_eq 858 1263, dm_no, dm_no, dm_push 859 (.int 0), dm_ret .boolean, dm_ald 861 1, dm_inv 864 112 0 7, dm_no, dm_no] := dr_c (Or.inl dg_no) <| dr_c (Or.inl (dg_iconst (by decide) dL_law_849)) <| dr_c (Or.inl (dg_iadd dL_law_850)) <| dr_c (Or.inl (dg_sld dL_law_851)) <| dr_c (Or.inl (dg_inv dL_law_852 mo_185 rfl rfl wd_1349 wd_1350 wd_1351 pd_185)) <| dr_c (Or.inl dg_no) <| dr_c (Or.inl dg_no) <| dr_c (Or.inl (dg_ic_eq (by decide) dL_law_855)) <| dr_c (Or.inl dg_no) <| dr_c (Or.inl dg_no) <| dr_c (Or.inl (dg_iconst (by decide) dL_law_858)) <| dr_c (Or.inl (dg_ret dL_law_859)) <| dr_c (Or.inl (dg_aload_n (k := 1) rfl dL_law_860)) <| dr_c (Or.inl (dg_inv dL_law_861 mo_112 rfl rfl wd_676 wd_677 wd_678 pd_112)) <| dr_c (Or.inl dg_no) <| dr_c (Or.inl dg_no) <| dr_n
theorem tr_L_54 (L : Nat) (xs : Nat → Int32) (f1 f2 : dm_Sem) : dm_AllR (lw_ok L xs f1 f2) 864 [dm_ald 865 2, dm_inv 868 186 0 8, dm_no, dm_no, dm_lc 869, dm_if_eq 872 1263, dm_no, dm_no, dm_push 873 (.int 0), dm_ret .boolean, dm_ald 875 1, dm_inv 878 113 0 7, dm_no, dm_no, dm_ald 879 2, dm_inv 882 187 0 8] := dr_c (Or.inl (dg_aload_n (k := 2) rfl dL_law_864)) <| dr_c (Or.inl (dg_inv dL_law_865 mo_186 rfl rfl wd_1357 wd_1358 wd_1359 pd_186)) <| dr_c (Or.inl dg_no) <| dr_c (Or.inl dg_no) <| dr_c (Or.inl (dg_lcmp dL_law_868)) <| dr_c (Or.inl (dg_if_eq (by decide) dL_law_869)) <| dr_c (Or.inl dg_no) <| dr_c (Or.inl dg_no) <| dr_c (Or.inl (dg_iconst (by decide) dL_law_872)) <| dr_c (Or.inl (dg_ret dL_law_873)) <| dr_c (Or.inl (dg_aload_n (k := 1) rfl dL_law_874)) <| dr_c (Or.inl (dg_inv dL_law_875 mo_113 rfl rfl wd_680 wd_681 wd_682 pd_113)) <| dr_c (Or.inl dg_no) <| dr_c (Or.inl dg_no) <| dr_c (Or.inl (dg_aload_n (k := 2) rfl dL_law_878)) <| dr_c (Or.inl (dg_inv dL_law_879 mo_187 rfl rfl wd_1361 wd_1362 wd_1363 pd_187)) <| dr_n
theorem tr_L_55 (L : Nat) (xs : Nat → Int32) (f1 f2 : dm_Sem) : dm_AllR (lw_ok L xs f1 f2) 880 [dm_no, dm_no, dm_ic_eq 885 1263, dm_no, dm_no, dm_push 886 (.int 0), dm_ret .boolean, dm_ald 888 1, dm_ald 889 0, dm_ild 891 4, dm_no, dm_push 892 (.int 1), dm_ii 893 (fun x y => x + y), dm_sld 894 L xs, dm_ald 895 0, dm_ild 897 4] := dr_c (Or.inl dg_no) <| dr_c (Or.inl dg_no) <| dr_c (Or.inl (dg_ic_eq (by decide) dL_law_882)) <| dr_c (Or.inl dg_no) <| dr_c (Or.inl dg_no) <| dr_c (Or.inl (dg_iconst (by decide) dL_law_885)) <| dr_c (Or.inl (dg_ret dL_law_886)) <| dr_c (Or.inl (dg_aload_n (k := 1) rfl dL_law_887)) <| dr_c (Or.inl (dg_aload_n (k := 0) rfl dL_law_888)) <| dr_c (Or.inl (dg_iload dL_law_889)) <| dr_c (Or.inl dg_no) <| dr_c (Or.inl (dg_iconst (by decide) dL_law_891)) <| dr_c (Or.inl (dg_iadd dL_law_892)) <| dr_c (Or.inl (dg_sld dL_law_893)) <| dr_c (Or.inl (dg_aload_n (k := 0) rfl dL_law_894)) <| dr_c (Or.inl (dg_iload dL_law_895)) <| dr_n
theorem tr_L_56 (L : Nat) (xs : Nat → Int32) (f1 f2 : dm_Sem) : dm_AllR (lw_ok L xs f1 f2) 896 [dm_no, dm_push 898 (.int 2), dm_ii 899 (fun x y => x + y), dm_sld 900 L xs, dm_ald 901 0, dm_ild 903 4, dm_no, dm_push 904 (.int 3), dm_ii 905 (fun x y => x + y), dm_sld 906 L xs, dm_i1 907 (fun x => .long x.toInt64), dm_push 909 (.int 32), dm_no, dm_li 910 (fun x y => x <<< (y.toInt64 &&& 63)), dm_ald 911 0, dm_ild 913 4] := dr_c (Or.inl dg_no) <| dr_c (Or.inl (dg_iconst (by decide) dL_law_897)) <| dr_c (Or.inl (dg_iadd dL_law_898)) <| dr_c (Or.inl (dg_sld dL_law_899)) <| dr_c (Or.inl (dg_aload_n (k := 0) rfl dL_law_900)) <| dr_c (Or.inl (dg_iload dL_law_901)) <| dr_c (Or.inl dg_no) <| dr_c (Or.inl (dg_iconst (by decide) dL_law_903)) <| dr_c (Or.inl (dg_iadd dL_law_904)) <| dr_c (Or.inl (dg_sld dL_law_905)) <| dr_c (Or.inl (dg_i2l dL_law_906)) <| dr_c (Or.inl (dg_bipush (by decide) dL_law_907)) <| dr_c (Or.inl dg_no) <| dr_c (Or.inl (dg_lshl dL_law_909)) <| dr_c (Or.inl (dg_aload_n (k := 0) rfl dL_law_910)) <| dr_c (Or.inl (dg_iload dL_law_911)) <| dr_n
theorem tr_L_57 (L : Nat) (xs : Nat → Int32) (f1 f2 : dm_Sem) : dm_AllR (lw_ok L xs f1 f2) 912 [dm_no, dm_push 914 (.int 4), dm_ii 915 (fun x y => x + y), dm_sld 916 L xs, dm_i1 917 (fun x => .long x.toInt64), dm_push 920 (.long 4294967295), dm_no, dm_no, dm_ll 921 (fun x y => x &&& y), dm_ll 922 (fun x y => x ||| y), dm_ald 923 0, dm_ild 925 4, dm_no, dm_push 926 (.int 5), dm_ii 927 (fun x y => x + y), dm_sld 928 L xs] := dr_c (Or.inl dg_no) <| dr_c (Or.inl (dg_iconst (by decide) dL_law_913)) <| dr_c (Or.inl (dg_iadd dL_law_914)) <| dr_c (Or.inl (dg_sld dL_law_915)) <| dr_c (Or.inl (dg_i2l dL_law_916)) <| dr_c (Or.inl (dg_ldc2 wd_1429 dL_law_917)) <| dr_c (Or.inl dg_no) <| dr_c (Or.inl dg_no) <| dr_c (Or.inl (dg_land dL_law_920)) <| dr_c (Or.inl (dg_lor dL_law_921)) <| dr_c (Or.inl (dg_aload_n (k := 0) rfl dL_law_922)) <| dr_c (Or.inl (dg_iload dL_law_923)) <| dr_c (Or.inl dg_no) <| dr_c (Or.inl (dg_iconst (by decide) dL_law_925)) <| dr_c (Or.inl (dg_iadd dL_law_926)) <| dr_c (Or.inl (dg_sld dL_law_927)) <| dr_n
theorem tr_L_58 (L : Nat) (xs : Nat → Int32) (f1 f2 : dm_Sem) : dm_AllR (lw_ok L xs f1 f2) 928 [dm_ald 929 0, dm_ild 931 4, dm_no, dm_push 933 (.int 6), dm_no, dm_ii 934 (fun x y => x + y), dm_sld 935 L xs, dm_i1 936 (fun x => .long x.toInt64), dm_push 938 (.int 32), dm_no, dm_li 939 (fun x y => x <<< (y.toInt64 &&& 63)), dm_ald 940 0, dm_ild 942 4, dm_no, dm_push 944 (.int 7), dm_no] := dr_c (Or.inl (dg_aload_n (k := 0) rfl dL_law_928)) <| dr_c (Or.inl (dg_iload dL_law_929)) <| dr_c (Or.inl dg_no) <| dr_c (Or.inl (dg_bipush (by decide) dL_law_931)) <| dr_c (Or.inl dg_no) <| dr_c (Or.inl (dg_iadd dL_law_933)) <| dr_c (Or.inl (dg_sld dL_law_934)) <| dr_c (Or.inl (dg_i2l dL_law_935)) <| dr_c (Or.inl (dg_bipush (by decide) dL_law_936)) <| dr_c (Or.inl dg_no) <| dr_c (Or.inl (dg_lshl dL_law_938)) <| dr_c (Or.inl (dg_aload_n (k := 0) rfl dL_law_939)) <| dr_c (Or.inl (dg_iload dL_law_940)) <| dr_c (Or.inl dg_no) <| dr_c (Or.inl (dg_bipush (by decide) dL_law_942)) <| dr_c (Or.inl dg_no) <| dr_n
theorem tr_L_59 (L : Nat) (xs : Nat → Int32) (f1 f2 : dm_Sem) : dm_AllR (lw_ok L xs f1 f2) 944 [dm_ii 945 (fun x y => x + y), dm_sld 946 L xs, dm_i1 947 (fun x => .long x.toInt64), dm_push 950 (.long 4294967295), dm_no, dm_no, dm_ll 951 (fun x y => x &&& y), dm_ll 952 (fun x y => x ||| y), dm_ald 953 0, dm_ild 955 4, dm_no, dm_push 957 (.int 8), dm_no, dm_ii 958 (fun x y => x + y), dm_sld 959 L xs, dm_inv 962 114 6 7] := dr_c (Or.inl (dg_iadd dL_law_944)) <| dr_c (Or.inl (dg_sld dL_law_945)) <| dr_c (Or.inl (dg_i2l dL_law_946)) <| dr_c (Or.inl (dg_ldc2 wd_1429 dL_law_947)) <| dr_c (Or.inl dg_no) <| dr_c (Or.inl dg_no) <| dr_c (Or.inl (dg_land dL_law_950)) <| dr_c (Or.inl (dg_lor dL_law_951)) <| dr_c (Or.inl (dg_aload_n (k := 0) rfl dL_law_952)) <| dr_c (Or.inl (dg_iload dL_law_953)) <| dr_c (Or.inl dg_no) <| dr_c (Or.inl (dg_bipush (by decide) dL_law_955)) <| dr_c (Or.inl dg_no) <| dr_c (Or.inl (dg_iadd dL_law_957)) <| dr_c (Or.inl (dg_sld dL_law_958)) <| dr_c (Or.inl (dg_inv dL_law_959 mo_114 rfl rfl wd_684 wd_685 wd_686 pd_114)) <| dr_n
theorem tr_L_60 (L : Nat) (xs : Nat → Int32) (f1 f2 : dm_Sem) : dm_AllR (lw_ok L xs f1 f2) 960 [dm_no, dm_no, dm_ald 963 2, dm_ald 964 0, dm_ild 966 4, dm_no, dm_push 967 (.int 1), dm_ii 968 (fun x y => x + y), dm_sld 969 L xs, dm_ald 970 0, dm_ild 972 4, dm_no, dm_push 973 (.int 2), dm_ii 974 (fun x y => x + y), dm_sld 975 L xs, dm_ald 976 0] := dr_c (Or.inl dg_no) <| dr_c (Or.inl dg_no) <| dr_c (Or.inl (dg_aload_n (k := 2) rfl dL_law_962)) <| dr_c (Or.inl (dg_aload_n (k := 0) rfl dL_law_963)) <| dr_c (Or.inl (dg_iload dL_law_964)) <| dr_c (Or.inl dg_no) <| dr_c (Or.inl (dg_iconst (by decide) dL_law_966)) <| dr_c (Or.inl (dg_iadd dL_law_967)) <| dr_c (Or.inl (dg_sld dL_law_968)) <| dr_c (Or.inl (dg_aload_n (k := 0) rfl dL_law_969)) <| dr_c (Or.inl (dg_iload dL_law_970)) <| dr_c (Or.inl dg_no) <| dr_c (Or.inl (dg_iconst (by decide) dL_law_972)) <| dr_c (Or.inl (dg_iadd dL_law_973)) <| dr_c (Or.inl (dg_sld dL_law_974)) <| dr_c (Or.inl (dg_aload_n (k := 0) rfl dL_law_975)) <| dr_n
theorem tr_L_61 (L : Nat) (xs : Nat → Int32) (f1 f2 : dm_Sem) : dm_AllR (lw_ok L xs f1 f2) 976 [dm_ild 978 4, dm_no, dm_push 979 (.int 3), dm_ii 980 (fun x y => x + y), dm_sld 981 L xs, dm_i1 982 (fun x => .long x.toInt64), dm_push 984 (.int 32), dm_no, dm_li 985 (fun x y => x <<< (y.toInt64 &&& 63)), dm_ald 986 0, dm_ild 988 4, dm_no, dm_push 989 (.int 4), dm_ii 990 (fun x y => x + y), dm_sld 991 L xs, dm_i1 992 (fun x => .long x.toInt64)] := dr_c (Or.inl (dg_iload dL_law_976)) <| dr_c (Or.inl dg_no) <| dr_c (Or.inl (dg_iconst (by decide) dL_law_978)) <| dr_c (Or.inl (dg_iadd dL_law_979)) <| dr_c (Or.inl (dg_sld dL_law_980)) <| dr_c (Or.inl (dg_i2l dL_law_981)) <| dr_c (Or.inl (dg_bipush (by decide) dL_law_982)) <| dr_c (Or.inl dg_no) <| dr_c (Or.inl (dg_lshl dL_law_984)) <| dr_c (Or.inl (dg_aload_n (k := 0) rfl dL_law_985)) <| dr_c (Or.inl (dg_iload dL_law_986)) <| dr_c (Or.inl dg_no) <| dr_c (Or.inl (dg_iconst (by decide) dL_law_988)) <| dr_c (Or.inl (dg_iadd dL_law_989)) <| dr_c (Or.inl (dg_sld dL_law_990)) <| dr_c (Or.inl (dg_i2l dL_law_991)) <| dr_n
theorem tr_L_62 (L : Nat) (xs : Nat → Int32) (f1 f2 : dm_Sem) : dm_AllR (lw_ok L xs f1 f2) 992 [dm_push 995 (.long 4294967295), dm_no, dm_no, dm_ll 996 (fun x y => x &&& y), dm_ll 997 (fun x y => x ||| y), dm_ald 998 0, dm_ild 1000 4, dm_no, dm_push 1001 (.int 5), dm_ii 1002 (fun x y => x + y), dm_sld 1003 L xs, dm_ald 1004 0, dm_ild 1006 4, dm_no, dm_push 1008 (.int 6), dm_no] := dr_c (Or.inl (dg_ldc2 wd_1429 dL_law_992)) <| dr_c (Or.inl dg_no) <| dr_c (Or.inl dg_no) <| dr_c (Or.inl (dg_land dL_law_995)) <| dr_c (Or.inl (dg_lor dL_law_996)) <| dr_c (Or.inl (dg_aload_n (k := 0) rfl dL_law_997)) <| dr_c (Or.inl (dg_iload dL_law_998)) <| dr_c (Or.inl dg_no) <| dr_c (Or.inl (dg_iconst (by decide) dL_law_1000)) <| dr_c (Or.inl (dg_iadd dL_law_1001)) <| dr_c (Or.inl (dg_sld dL_law_1002)) <| dr_c (Or.inl (dg_aload_n (k := 0) rfl dL_law_1003)) <| dr_c (Or.inl (dg_iload dL_law_1004)) <| dr_c (Or.inl dg_no) <| dr_c (Or.inl (dg_bipush (by decide) dL_law_1006)) <| dr_c (Or.inl dg_no) <| dr_n
theorem tr_L_63 (L : Nat) (xs : Nat → Int32) (f1 f2 : dm_Sem) : dm_AllR (lw_ok L xs f1 f2) 1008 [dm_ii 1009 (fun x y => x + y), dm_sld 1010 L xs, dm_i1 1011 (fun x => .long x.toInt64), dm_push 1013 (.int 32), dm_no, dm_li 1014 (fun x y => x <<< (y.toInt64 &&& 63)), dm_ald 1015 0, dm_ild 1017 4, dm_no, dm_push 1019 (.int 7), dm_no, dm_ii 1020 (fun x y => x + y), dm_sld 1021 L xs, dm_i1 1022 (fun x => .long x.toInt64), dm_push 1025 (.long 4294967295), dm_no] := dr_c (Or.inl (dg_iadd dL_law_1008)) <| dr_c (Or.inl (dg_sld dL_law_1009)) <| dr_c (Or.inl (dg_i2l dL_law_1010)) <| dr_c (Or.inl (dg_bipush (by decide) dL_law_1011)) <| dr_c (Or.inl dg_no) <| dr_c (Or.inl (dg_lshl dL_law_1013)) <| dr_c (Or.inl (dg_aload_n (k := 0) rfl dL_law_1014)) <| dr_c (Or.inl (dg_iload dL_law_1015)) <| dr_c (Or.inl dg_no) <| dr_c (Or.inl (dg_bipush (by decide) dL_law_1017)) <| dr_c (Or.inl dg_no) <| dr_c (Or.inl (dg_iadd dL_law_1019)) <| dr_c (Or.inl (dg_sld dL_law_1020)) <| dr_c (Or.inl (dg_i2l dL_law_1021)) <| dr_c (Or.inl (dg_ldc2 wd_1429 dL_law_1022)) <| dr_c (Or.inl dg_no) <| dr_n
theorem tr_L_64 (L : Nat) (xs : Nat → Int32) (f1 f2 : dm_Sem) : dm_AllR (lw_ok L xs f1 f2) 1024 [dm_no, dm_ll 1026 (fun x y => x &&& y), dm_ll 1027 (fun x y => x ||| y), dm_ald 1028 0, dm_ild 1030 4, dm_no, dm_push 1032 (.int 8), dm_no, dm_ii 1033 (fun x y => x + y), dm_sld 1034 L xs, dm_inv 1037 188 6 8, dm_no, dm_no, dm_ic_eq 1040 1263, dm_no, dm_no] := dr_c (Or.inl dg_no) <| dr_c (Or.inl (dg_land dL_law_1025)) <| dr_c (Or.inl (dg_lor dL_law_1026)) <| dr_c (Or.inl (dg_aload_n (k := 0) rfl dL_law_1027)) <| dr_c (Or.inl (dg_iload dL_law_1028)) <| dr_c (Or.inl dg_no) <| dr_c (Or.inl (dg_bipush (by decide) dL_law_1030)) <| dr_c (Or.inl dg_no) <| dr_c (Or.inl (dg_iadd dL_law_1032)) <| dr_c (Or.inl (dg_sld dL_law_1033)) <| dr_c (Or.inl (dg_inv dL_law_1034 mo_188 rfl rfl wd_1365 wd_1366 wd_1367 pd_188)) <| dr_c (Or.inl dg_no) <| dr_c (Or.inl dg_no) <| dr_c (Or.inl (dg_ic_eq (by decide) dL_law_1037)) <| dr_c (Or.inl dg_no) <| dr_c (Or.inl dg_no) <| dr_n
theorem tr_L_65 (L : Nat) (xs : Nat → Int32) (f1 f2 : dm_Sem) : dm_AllR (lw_ok L xs f1 f2) 1040 [dm_push 1041 (.int 0), dm_ret .boolean, dm_ald 1043 1, dm_ald 1044 0, dm_ild 1046 4, dm_no, dm_push 1047 (.int 1), dm_ii 1048 (fun x y => x + y), dm_sld 1049 L xs, dm_inv 1052 115 1 7, dm_no, dm_no, dm_ald 1053 2, dm_ald 1054 0, dm_ild 1056 4, dm_no] := dr_c (Or.inl (dg_iconst (by decide) dL_law_1040)) <| dr_c (Or.inl (dg_ret dL_law_1041)) <| dr_c (Or.inl (dg_aload_n (k := 1) rfl dL_law_1042)) <| dr_c (Or.inl (dg_aload_n (k := 0) rfl dL_law_1043)) <| dr_c (Or.inl (dg_iload dL_law_1044)) <| dr_c (Or.inl dg_no) <| dr_c (Or.inl (dg_iconst (by decide) dL_law_1046)) <| dr_c (Or.inl (dg_iadd dL_law_1047)) <| dr_c (Or.inl (dg_sld dL_law_1048)) <| dr_c (Or.inl (dg_inv dL_law_1049 mo_115 rfl rfl wd_699 wd_700 wd_701 pd_115)) <| dr_c (Or.inl dg_no) <| dr_c (Or.inl dg_no) <| dr_c (Or.inl (dg_aload_n (k := 2) rfl dL_law_1052)) <| dr_c (Or.inl (dg_aload_n (k := 0) rfl dL_law_1053)) <| dr_c (Or.inl (dg_iload dL_law_1054)) <| dr_c (Or.inl dg_no) <| dr_n
theorem tr_L_66 (L : Nat) (xs : Nat → Int32) (f1 f2 : dm_Sem) : dm_AllR (lw_ok L xs f1 f2) 1056 [dm_push 1057 (.int 1), dm_ii 1058 (fun x y => x + y), dm_sld 1059 L xs, dm_inv 1062 194 1 8, dm_no, dm_no, dm_ic_eq 1065 1263, dm_no, dm_no, dm_push 1066 (.int 0), dm_ret .boolean, dm_ald 1068 1, dm_ald 1069 0, dm_ild 1071 4, dm_no, dm_push 1072 (.int 1)] := dr_c (Or.inl (dg_iconst (by decide) dL_law_1056)) <| dr_c (Or.inl (dg_iadd dL_law_1057)) <| dr_c (Or.inl (dg_sld dL_law_1058)) <| dr_c (Or.inl (dg_inv dL_law_1059 mo_194 rfl rfl wd_1369 wd_1370 wd_1371 pd_194)) <| dr_c (Or.inl dg_no) <| dr_c (Or.inl dg_no) <| dr_c (Or.inl (dg_ic_eq (by decide) dL_law_1062)) <| dr_c (Or.inl dg_no) <| dr_c (Or.inl dg_no) <| dr_c (Or.inl (dg_iconst (by decide) dL_law_1065)) <| dr_c (Or.inl (dg_ret dL_law_1066)) <| dr_c (Or.inl (dg_aload_n (k := 1) rfl dL_law_1067)) <| dr_c (Or.inl (dg_aload_n (k := 0) rfl dL_law_1068)) <| dr_c (Or.inl (dg_iload dL_law_1069)) <| dr_c (Or.inl dg_no) <| dr_c (Or.inl (dg_iconst (by decide) dL_law_1071)) <| dr_n
theorem tr_L_67 (L : Nat) (xs : Nat → Int32) (f1 f2 : dm_Sem) : dm_AllR (lw_ok L xs f1 f2) 1072 [dm_ii 1073 (fun x y => x + y), dm_sld 1074 L xs, dm_inv 1077 116 1 7, dm_no, dm_no, dm_ald 1078 2, dm_ald 1079 0, dm_ild 1081 4, dm_no, dm_push 1082 (.int 1), dm_ii 1083 (fun x y => x + y), dm_sld 1084 L xs, dm_inv 1087 195 1 8, dm_no, dm_no, dm_ic_eq 1090 1263] := dr_c (Or.inl (dg_iadd dL_law_1072)) <| dr_c (Or.inl (dg_sld dL_law_1073)) <| dr_c (Or.inl (dg_inv dL_law_1074 mo_116 rfl rfl wd_712 wd_713 wd_714 pd_116)) <| dr_c (Or.inl dg_no) <| dr_c (Or.inl dg_no) <| dr_c (Or.inl (dg_aload_n (k := 2) rfl dL_law_1077)) <| dr_c (Or.inl (dg_aload_n (k := 0) rfl dL_law_1078)) <| dr_c (Or.inl (dg_iload dL_law_1079)) <| dr_c (Or.inl dg_no) <| dr_c (Or.inl (dg_iconst (by decide) dL_law_1081)) <| dr_c (Or.inl (dg_iadd dL_law_1082)) <| dr_c (Or.inl (dg_sld dL_law_1083)) <| dr_c (Or.inl (dg_inv dL_law_1084 mo_195 rfl rfl wd_1373 wd_1374 wd_1375 pd_195)) <| dr_c (Or.inl dg_no) <| dr_c (Or.inl dg_no) <| dr_c (Or.inl (dg_ic_eq (by decide) dL_law_1087)) <| dr_n
theorem tr_L_68 (L : Nat) (xs : Nat → Int32) (f1 f2 : dm_Sem) : dm_AllR (lw_ok L xs f1 f2) 1088 [dm_no, dm_no, dm_push 1091 (.int 0), dm_ret .boolean, dm_ald 1093 1, dm_ald 1094 0, dm_ild 1096 4, dm_no, dm_push 1097 (.int 1), dm_ii 1098 (fun x y => x + y), dm_sld 1099 L xs, dm_i1 1100 (fun x => .long x.toInt64), dm_push 1102 (.int 32), dm_no, dm_li 1103 (fun x y => x <<< (y.toInt64 &&& 63)), dm_ald 1104 0] := dr_c (Or.inl dg_no) <| dr_c (Or.inl dg_no) <| dr_c (Or.inl (dg_iconst (by decide) dL_law_1090)) <| dr_c (Or.inl (dg_ret dL_law_1091)) <| dr_c (Or.inl (dg_aload_n (k := 1) rfl dL_law_1092)) <| dr_c (Or.inl (dg_aload_n (k := 0) rfl dL_law_1093)) <| dr_c (Or.inl (dg_iload dL_law_1094)) <| dr_c (Or.inl dg_no) <| dr_c (Or.inl (dg_iconst (by decide) dL_law_1096)) <| dr_c (Or.inl (dg_iadd dL_law_1097)) <| dr_c (Or.inl (dg_sld dL_law_1098)) <| dr_c (Or.inl (dg_i2l dL_law_1099)) <| dr_c (Or.inl (dg_bipush (by decide) dL_law_1100)) <| dr_c (Or.inl dg_no) <| dr_c (Or.inl (dg_lshl dL_law_1102)) <| dr_c (Or.inl (dg_aload_n (k := 0) rfl dL_law_1103)) <| dr_n
theorem tr_L_69 (L : Nat) (xs : Nat → Int32) (f1 f2 : dm_Sem) : dm_AllR (lw_ok L xs f1 f2) 1104 [dm_ild 1106 4, dm_no, dm_push 1107 (.int 2), dm_ii 1108 (fun x y => x + y), dm_sld 1109 L xs, dm_i1 1110 (fun x => .long x.toInt64), dm_push 1113 (.long 4294967295), dm_no, dm_no, dm_ll 1114 (fun x y => x &&& y), dm_ll 1115 (fun x y => x ||| y), dm_ald 1116 0, dm_ild 1118 4, dm_no, dm_push 1119 (.int 3), dm_ii 1120 (fun x y => x + y)] := dr_c (Or.inl (dg_iload dL_law_1104)) <| dr_c (Or.inl dg_no) <| dr_c (Or.inl (dg_iconst (by decide) dL_law_1106)) <| dr_c (Or.inl (dg_iadd dL_law_1107)) <| dr_c (Or.inl (dg_sld dL_law_1108)) <| dr_c (Or.inl (dg_i2l dL_law_1109)) <| dr_c (Or.inl (dg_ldc2 wd_1429 dL_law_1110)) <| dr_c (Or.inl dg_no) <| dr_c (Or.inl dg_no) <| dr_c (Or.inl (dg_land dL_law_1113)) <| dr_c (Or.inl (dg_lor dL_law_1114)) <| dr_c (Or.inl (dg_aload_n (k := 0) rfl dL_law_1115)) <| dr_c (Or.inl (dg_iload dL_law_1116)) <| dr_c (Or.inl dg_no) <| dr_c (Or.inl (dg_iconst (by decide) dL_law_1118)) <| dr_c (Or.inl (dg_iadd dL_law_1119)) <| dr_n
theorem tr_L_70 (L : Nat) (xs : Nat → Int32) (f1 f2 : dm_Sem) : dm_AllR (lw_ok L xs f1 f2) 1120 [dm_sld 1121 L xs, dm_inv 1124 117 2 7, dm_no, dm_no, dm_ald 1125 2, dm_ald 1126 0, dm_ild 1128 4, dm_no, dm_push 1129 (.int 1), dm_ii 1130 (fun x y => x + y), dm_sld 1131 L xs, dm_i1 1132 (fun x => .long x.toInt64), dm_push 1134 (.int 32), dm_no, dm_li 1135 (fun x y => x <<< (y.toInt64 &&& 63)), dm_ald 1136 0] := dr_c (Or.inl (dg_sld dL_law_1120)) <| dr_c (Or.inl (dg_inv dL_law_1121 mo_117 rfl rfl wd_721 wd_722 wd_723 pd_117)) <| dr_c (Or.inl dg_no) <| dr_c (Or.inl dg_no) <| dr_c (Or.inl (dg_aload_n (k := 2) rfl dL_law_1124)) <| dr_c (Or.inl (dg_aload_n (k := 0) rfl dL_law_1125)) <| dr_c (Or.inl (dg_iload dL_law_1126)) <| dr_c (Or.inl dg_no) <| dr_c (Or.inl (dg_iconst (by decide) dL_law_1128)) <| dr_c (Or.inl (dg_iadd dL_law_1129)) <| dr_c (Or.inl (dg_sld dL_law_1130)) <| dr_c (Or.inl (dg_i2l dL_law_1131)) <| dr_c (Or.inl (dg_bipush (by decide) dL_law_1132)) <| dr_c (Or.inl dg_no) <| dr_c (Or.inl (dg_lshl dL_law_1134)) <| dr_c (Or.inl (dg_aload_n (k := 0) rfl dL_law_1135)) <| dr_n
theorem tr_L_71 (L : Nat) (xs : Nat → Int32) (f1 f2 : dm_Sem) : dm_AllR (lw_ok L xs f1 f2) 1136 [dm_ild 1138 4, dm_no, dm_push 1139 (.int 2), dm_ii 1140 (fun x y => x + y), dm_sld 1141 L xs, dm_i1 1142 (fun x => .long x.toInt64), dm_push 1145 (.long 4294967295), dm_no, dm_no, dm_ll 1146 (fun x y => x &&& y), dm_ll 1147 (fun x y => x ||| y), dm_ald 1148 0, dm_ild 1150 4, dm_no, dm_push 1151 (.int 3), dm_ii 1152 (fun x y => x + y)] := dr_c (Or.inl (dg_iload dL_law_1136)) <| dr_c (Or.inl dg_no) <| dr_c (Or.inl (dg_iconst (by decide) dL_law_1138)) <| dr_c (Or.inl (dg_iadd dL_law_1139)) <| dr_c (Or.inl (dg_sld dL_law_1140)) <| dr_c (Or.inl (dg_i2l dL_law_1141)) <| dr_c (Or.inl (dg_ldc2 wd_1429 dL_law_1142)) <| dr_c (Or.inl dg_no) <| dr_c (Or.inl dg_no) <| dr_c (Or.inl (dg_land dL_law_1145)) <| dr_c (Or.inl (dg_lor dL_law_1146)) <| dr_c (Or.inl (dg_aload_n (k := 0) rfl dL_law_1147)) <| dr_c (Or.inl (dg_iload dL_law_1148)) <| dr_c (Or.inl dg_no) <| dr_c (Or.inl (dg_iconst (by decide) dL_law_1150)) <| dr_c (Or.inl (dg_iadd dL_law_1151)) <| dr_n
theorem tr_L_72 (L : Nat) (xs : Nat → Int32) (f1 f2 : dm_Sem) : dm_AllR (lw_ok L xs f1 f2) 1152 [dm_sld 1153 L xs, dm_inv 1156 196 2 8, dm_no, dm_no, dm_ic_eq 1159 1263, dm_no, dm_no, dm_push 1160 (.int 0), dm_ret .boolean, dm_ald 1162 1, dm_ald 1163 0, dm_ild 1165 4, dm_no, dm_push 1166 (.int 1), dm_ii 1167 (fun x y => x + y), dm_sld 1168 L xs] := dr_c (Or.inl (dg_sld dL_law_1152)) <| dr_c (Or.inl (dg_inv dL_law_1153 mo_196 rfl rfl wd_1377 wd_1378 wd_1379 pd_196)) <| dr_c (Or.inl dg_no) <| dr_c (Or.inl dg_no) <| dr_c (Or.inl (dg_ic_eq (by decide) dL_law_1156)) <| dr_c (Or.inl dg_no) <| dr_c (Or.inl dg_no) <| dr_c (Or.inl (dg_iconst (by decide) dL_law_1159)) <| dr_c (Or.inl (dg_ret dL_law_1160)) <| dr_c (Or.inl (dg_aload_n (k := 1) rfl dL_law_1161)) <| dr_c (Or.inl (dg_aload_n (k := 0) rfl dL_law_1162)) <| dr_c (Or.inl (dg_iload dL_law_1163)) <| dr_c (Or.inl dg_no) <| dr_c (Or.inl (dg_iconst (by decide) dL_law_1165)) <| dr_c (Or.inl (dg_iadd dL_law_1166)) <| dr_c (Or.inl (dg_sld dL_law_1167)) <| dr_n
theorem tr_L_73 (L : Nat) (xs : Nat → Int32) (f1 f2 : dm_Sem) : dm_AllR (lw_ok L xs f1 f2) 1168 [dm_inv 1171 118 1 7, dm_no, dm_no, dm_ald 1172 2, dm_ald 1173 0, dm_ild 1175 4, dm_no, dm_push 1176 (.int 1), dm_ii 1177 (fun x y => x + y), dm_sld 1178 L xs, dm_inv 1181 197 1 8, dm_no, dm_no, dm_ic_eq 1184 1263, dm_no, dm_no] := dr_c (Or.inl (dg_inv dL_law_1168 mo_118 rfl rfl wd_726 wd_727 wd_728 pd_118)) <| dr_c (Or.inl dg_no) <| dr_c (Or.inl dg_no) <| dr_c (Or.inl (dg_aload_n (k := 2) rfl dL_law_1171)) <| dr_c (Or.inl (dg_aload_n (k := 0) rfl dL_law_1172)) <| dr_c (Or.inl (dg_iload dL_law_1173)) <| dr_c (Or.inl dg_no) <| dr_c (Or.inl (dg_iconst (by decide) dL_law_1175)) <| dr_c (Or.inl (dg_iadd dL_law_1176)) <| dr_c (Or.inl (dg_sld dL_law_1177)) <| dr_c (Or.inl (dg_inv dL_law_1178 mo_197 rfl rfl wd_1381 wd_1382 wd_1383 pd_197)) <| dr_c (Or.inl dg_no) <| dr_c (Or.inl dg_no) <| dr_c (Or.inl (dg_ic_eq (by decide) dL_law_1181)) <| dr_c (Or.inl dg_no) <| dr_c (Or.inl dg_no) <| dr_n
theorem tr_L_74 (L : Nat) (xs : Nat → Int32) (f1 f2 : dm_Sem) : dm_AllR (lw_ok L xs f1 f2) 1184 [dm_push 1185 (.int 0), dm_ret .boolean, dm_ald 1187 1, dm_inv 1190 119 0 7, dm_no, dm_no, dm_ald 1191 2, dm_inv 1194 204 0 8, dm_no, dm_no, dm_ic_eq 1197 1263, dm_no, dm_no, dm_push 1198 (.int 0), dm_ret .boolean, dm_ald 1200 1] := dr_c (Or.inl (dg_iconst (by decide) dL_law_1184)) <| dr_c (Or.inl (dg_ret dL_law_1185)) <| dr_c (Or.inl (dg_aload_n (k := 1) rfl dL_law_1186)) <| dr_c (Or.inl (dg_inv dL_law_1187 mo_119 rfl rfl wd_730 wd_731 wd_732 pd_119)) <| dr_c (Or.inl dg_no) <| dr_c (Or.inl dg_no) <| dr_c (Or.inl (dg_aload_n (k := 2) rfl dL_law_1190)) <| dr_c (Or.inl (dg_inv dL_law_1191 mo_204 rfl rfl wd_1385 wd_1386 wd_1387 pd_204)) <| dr_c (Or.inl dg_no) <| dr_c (Or.inl dg_no) <| dr_c (Or.inl (dg_ic_eq (by decide) dL_law_1194)) <| dr_c (Or.inl dg_no) <| dr_c (Or.inl dg_no) <| dr_c (Or.inl (dg_iconst (by decide) dL_law_1197)) <| dr_c (Or.inl (dg_ret dL_law_1198)) <| dr_c (Or.inl (dg_aload_n (k := 1) rfl dL_law_1199)) <| dr_n
theorem tr_L_75 (L : Nat) (xs : Nat → Int32) (f1 f2 : dm_Sem) : dm_AllR (lw_ok L xs f1 f2) 1200 [dm_inv 1203 120 0 7, dm_no, dm_no, dm_ald 1204 2, dm_inv 1207 205 0 8, dm_no, dm_no, dm_ic_eq 1210 1263, dm_no, dm_no, dm_push 1211 (.int 0), dm_ret .boolean, dm_ald 1213 1, dm_inv 1216 121 0 7, dm_no, dm_no] := dr_c (Or.inl (dg_inv dL_law_1200 mo_120 rfl rfl wd_781 wd_782 wd_783 pd_120)) <| dr_c (Or.inl dg_no) <| dr_c (Or.inl dg_no) <| dr_c (Or.inl (dg_aload_n (k := 2) rfl dL_law_1203)) <| dr_c (Or.inl (dg_inv dL_law_1204 mo_205 rfl rfl wd_1413 wd_1414 wd_1415 pd_205)) <| dr_c (Or.inl dg_no) <| dr_c (Or.inl dg_no) <| dr_c (Or.inl (dg_ic_eq (by decide) dL_law_1207)) <| dr_c (Or.inl dg_no) <| dr_c (Or.inl dg_no) <| dr_c (Or.inl (dg_iconst (by decide) dL_law_1210)) <| dr_c (Or.inl (dg_ret dL_law_1211)) <| dr_c (Or.inl (dg_aload_n (k := 1) rfl dL_law_1212)) <| dr_c (Or.inl (dg_inv dL_law_1213 mo_121 rfl rfl wd_785 wd_786 wd_787 pd_121)) <| dr_c (Or.inl dg_no) <| dr_c (Or.inl dg_no) <| dr_n
theorem tr_L_76 (L : Nat) (xs : Nat → Int32) (f1 f2 : dm_Sem) : dm_AllR (lw_ok L xs f1 f2) 1216 [dm_ald 1217 2, dm_inv 1220 206 0 8, dm_no, dm_no, dm_ic_eq 1223 1263, dm_no, dm_no, dm_push 1224 (.int 0), dm_ret .boolean, dm_ald 1226 1, dm_inv 1229 122 0 7, dm_no, dm_no, dm_ald 1230 2, dm_inv 1233 207 0 8, dm_no] := dr_c (Or.inl (dg_aload_n (k := 2) rfl dL_law_1216)) <| dr_c (Or.inl (dg_inv dL_law_1217 mo_206 rfl rfl wd_1417 wd_1418 wd_1419 pd_206)) <| dr_c (Or.inl dg_no) <| dr_c (Or.inl dg_no) <| dr_c (Or.inl (dg_ic_eq (by decide) dL_law_1220)) <| dr_c (Or.inl dg_no) <| dr_c (Or.inl dg_no) <| dr_c (Or.inl (dg_iconst (by decide) dL_law_1223)) <| dr_c (Or.inl (dg_ret dL_law_1224)) <| dr_c (Or.inl (dg_aload_n (k := 1) rfl dL_law_1225)) <| dr_c (Or.inl (dg_inv dL_law_1226 mo_122 rfl rfl wd_799 wd_800 wd_801 pd_122)) <| dr_c (Or.inl dg_no) <| dr_c (Or.inl dg_no) <| dr_c (Or.inl (dg_aload_n (k := 2) rfl dL_law_1229)) <| dr_c (Or.inl (dg_inv dL_law_1230 mo_207 rfl rfl wd_1421 wd_1422 wd_1423 pd_207)) <| dr_c (Or.inl dg_no) <| dr_n
theorem tr_L_77 (L : Nat) (xs : Nat → Int32) (f1 f2 : dm_Sem) : dm_AllR (lw_ok L xs f1 f2) 1232 [dm_no, dm_ic_eq 1236 1263, dm_no, dm_no, dm_push 1237 (.int 0), dm_ret .boolean, dm_ald 1239 1, dm_ald 1240 0, dm_ild 1242 4, dm_no, dm_push 1243 (.int 1), dm_ii 1244 (fun x y => x + y), dm_sld 1245 L xs, dm_inv 1248 123 1 7, dm_no, dm_no] := dr_c (Or.inl dg_no) <| dr_c (Or.inl (dg_ic_eq (by decide) dL_law_1233)) <| dr_c (Or.inl dg_no) <| dr_c (Or.inl dg_no) <| dr_c (Or.inl (dg_iconst (by decide) dL_law_1236)) <| dr_c (Or.inl (dg_ret dL_law_1237)) <| dr_c (Or.inl (dg_aload_n (k := 1) rfl dL_law_1238)) <| dr_c (Or.inl (dg_aload_n (k := 0) rfl dL_law_1239)) <| dr_c (Or.inl (dg_iload dL_law_1240)) <| dr_c (Or.inl dg_no) <| dr_c (Or.inl (dg_iconst (by decide) dL_law_1242)) <| dr_c (Or.inl (dg_iadd dL_law_1243)) <| dr_c (Or.inl (dg_sld dL_law_1244)) <| dr_c (Or.inl (dg_inv dL_law_1245 mo_123 rfl rfl wd_803 wd_804 wd_805 pd_123)) <| dr_c (Or.inl dg_no) <| dr_c (Or.inl dg_no) <| dr_n
theorem tr_L_78 (L : Nat) (xs : Nat → Int32) (f1 f2 : dm_Sem) : dm_AllR (lw_ok L xs f1 f2) 1248 [dm_ald 1249 2, dm_ald 1250 0, dm_ild 1252 4, dm_no, dm_push 1253 (.int 1), dm_ii 1254 (fun x y => x + y), dm_sld 1255 L xs, dm_inv 1258 208 1 8, dm_no, dm_no, dm_ic_eq 1261 1263, dm_no, dm_no, dm_push 1262 (.int 0), dm_ret .boolean, dm_iinc 1266 4 9] := dr_c (Or.inl (dg_aload_n (k := 2) rfl dL_law_1248)) <| dr_c (Or.inl (dg_aload_n (k := 0) rfl dL_law_1249)) <| dr_c (Or.inl (dg_iload dL_law_1250)) <| dr_c (Or.inl dg_no) <| dr_c (Or.inl (dg_iconst (by decide) dL_law_1252)) <| dr_c (Or.inl (dg_iadd dL_law_1253)) <| dr_c (Or.inl (dg_sld dL_law_1254)) <| dr_c (Or.inl (dg_inv dL_law_1255 mo_208 rfl rfl wd_1425 wd_1426 wd_1427 pd_208)) <| dr_c (Or.inl dg_no) <| dr_c (Or.inl dg_no) <| dr_c (Or.inl (dg_ic_eq (by decide) dL_law_1258)) <| dr_c (Or.inl dg_no) <| dr_c (Or.inl dg_no) <| dr_c (Or.inl (dg_iconst (by decide) dL_law_1261)) <| dr_c (Or.inl (dg_ret dL_law_1262)) <| dr_c (Or.inl (dg_iinc (by decide) (by decide) dL_law_1263)) <| dr_n
theorem tr_L_79 (L : Nat) (xs : Nat → Int32) (f1 f2 : dm_Sem) : dm_AllR (lw_ok L xs f1 f2) 1264 [dm_no, dm_no, dm_goto 23, dm_no, dm_no, dm_push 1270 (.int 1), dm_ret .boolean] := dr_c (Or.inl dg_no) <| dr_c (Or.inl dg_no) <| dr_c (Or.inl (dg_goto (by decide) dL_law_1266)) <| dr_c (Or.inl dg_no) <| dr_c (Or.inl dg_no) <| dr_c (Or.inl (dg_iconst (by decide) dL_law_1269)) <| dr_c (Or.inl (dg_ret dL_law_1270)) <| dr_n
theorem tk_L (L : Nat) (xs : Nat → Int32) (f1 f2 : dm_Sem) : dm_AllC (lw_ok L xs f1 f2) 0 (cdL L xs f1 f2) := dc_c (by simp) (tr_L_0 L xs f1 f2) <| dc_c (by simp) (tr_L_1 L xs f1 f2) <| dc_c (by simp) (tr_L_2 L xs f1 f2) <| dc_c (by simp) (tr_L_3 L xs f1 f2) <| dc_c (by simp) (tr_L_4 L xs f1 f2) <| dc_c (by simp) (tr_L_5 L xs f1 f2) <| dc_c (by simp) (tr_L_6 L xs f1 f2) <| dc_c (by simp) (tr_L_7 L xs f1 f2) <| dc_c (by simp) (tr_L_8 L xs f1 f2) <| dc_c (by simp) (tr_L_9 L xs f1 f2) <| dc_c (by simp) (tr_L_10 L xs f1 f2) <| dc_c (by simp) (tr_L_11 L xs f1 f2) <| dc_c (by simp) (tr_L_12 L xs f1 f2) <| dc_c (by simp) (tr_L_13 L xs f1 f2) <| dc_c (by simp) (tr_L_14 L xs f1 f2) <| dc_c (by simp) (tr_L_15 L xs f1 f2) <| dc_c (by simp) (tr_L_16 L xs f1 f2) <| dc_c (by simp) (tr_L_17 L xs f1 f2) <| dc_c (by simp) (tr_L_18 L xs f1 f2) <| dc_c (by simp) (tr_L_19 L xs f1 f2) <| dc_c (by simp) (tr_L_20 L xs f1 f2) <| dc_c (by simp) (tr_L_21 L xs f1 f2) <| dc_c (by simp) (tr_L_22 L xs f1 f2) <| dc_c (by simp) (tr_L_23 L xs f1 f2) <| dc_c (by simp) (tr_L_24 L xs f1 f2) <| dc_c (by simp) (tr_L_25 L xs f1 f2) <| dc_c (by simp) (tr_L_26 L xs f1 f2) <| dc_c (by simp) (tr_L_27 L xs f1 f2) <| dc_c (by simp) (tr_L_28 L xs f1 f2) <| dc_c (by simp) (tr_L_29 L xs f1 f2) <| dc_c (by simp) (tr_L_30 L xs f1 f2) <| dc_c (by simp) (tr_L_31 L xs f1 f2) <| dc_c (by simp) (tr_L_32 L xs f1 f2) <| dc_c (by simp) (tr_L_33 L xs f1 f2) <| dc_c (by simp) (tr_L_34 L xs f1 f2) <| dc_c (by simp) (tr_L_35 L xs f1 f2) <| dc_c (by simp) (tr_L_36 L xs f1 f2) <| dc_c (by simp) (tr_L_37 L xs f1 f2) <| dc_c (by simp) (tr_L_38 L xs f1 f2) <| dc_c (by simp) (tr_L_39 L xs f1 f2) <| dc_c (by simp) (tr_L_40 L xs f1 f2) <| dc_c (by simp) (tr_L_41 L xs f1 f2) <| dc_c (by simp) (tr_L_42 L xs f1 f2) <| dc_c (by simp) (tr_L_43 L xs f1 f2) <| dc_c (by simp) (tr_L_44 L xs f1 f2) <| dc_c (by simp) (tr_L_45 L xs f1 f2) <| dc_c (by simp) (tr_L_46 L xs f1 f2) <| dc_c (by simp) (tr_L_47 L xs f1 f2) <| dc_c (by simp) (tr_L_48 L xs f1 f2) <| dc_c (by simp) (tr_L_49 L xs f1 f2) <| dc_c (by simp) (tr_L_50 L xs f1 f2) <| dc_c (by simp) (tr_L_51 L xs f1 f2) <| dc_c (by simp) (tr_L_52 L xs f1 f2) <| dc_c (by simp) (tr_L_53 L xs f1 f2) <| dc_c (by simp) (tr_L_54 L xs f1 f2) <| dc_c (by simp) (tr_L_55 L xs f1 f2) <| dc_c (by simp) (tr_L_56 L xs f1 f2) <| dc_c (by simp) (tr_L_57 L xs f1 f2) <| dc_c (by simp) (tr_L_58 L xs f1 f2) <| dc_c (by simp) (tr_L_59 L xs f1 f2) <| dc_c (by simp) (tr_L_60 L xs f1 f2) <| dc_c (by simp) (tr_L_61 L xs f1 f2) <| dc_c (by simp) (tr_L_62 L xs f1 f2) <| dc_c (by simp) (tr_L_63 L xs f1 f2) <| dc_c (by simp) (tr_L_64 L xs f1 f2) <| dc_c (by simp) (tr_L_65 L xs f1 f2) <| dc_c (by simp) (tr_L_66 L xs f1 f2) <| dc_c (by simp) (tr_L_67 L xs f1 f2) <| dc_c (by simp) (tr_L_68 L xs f1 f2) <| dc_c (by simp) (tr_L_69 L xs f1 f2) <| dc_c (by simp) (tr_L_70 L xs f1 f2) <| dc_c (by simp) (tr_L_71 L xs f1 f2) <| dc_c (by simp) (tr_L_72 L xs f1 f2) <| dc_c (by simp) (tr_L_73 L xs f1 f2) <| dc_c (by simp) (tr_L_74 L xs f1 f2) <| dc_c (by simp) (tr_L_75 L xs f1 f2) <| dc_c (by simp) (tr_L_76 L xs f1 f2) <| dc_c (by simp) (tr_L_77 L xs f1 f2) <| dc_c (by simp) (tr_L_78 L xs f1 f2) <| dc_c (by simp) (tr_L_79 L xs f1 f2) <| dc_n
