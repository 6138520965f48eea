/-! the law's own code as steps (f1, f2: its calls of height and owns) -/
def dm_pop2 (n : Nat) : dm_Sem := fun lv st M => match st with
  | v :: r => if v.category = 2 then some (.inl ((n, lv, r), M)) else none
  | _ => none
theorem dg_pop2 {tb : Nat → dm_Me} {own : String} {cc : ByteArray} {nL : Nat} {ret : Option FieldType} {isI : Bool} {sc : Option (Nat × (Nat → Int32))} {pc : Nat} (hd : decode cc pc = .ok (.pop2, 1)) : dm_Good tb own cc nL ret isI sc pc (dm_pop2 (pc + 1)) := by
  intro lv st M o h
  unfold dm_pop2 at h
  split at h
  · split at h
    · rename_i hc
      cases h
      refine dm_pure (fun p l e R s m args below meth c D ca b zb n0 Q H locs ls cells slots hC hH hl h1 h2 hk => ?_)
      obtain ⟨hx, hb, hml, hown, hts, hr, hlk, hin, hK, hsz, hf, hlo, hsc⟩ := hC
      exact lv_pop2_2 hx hb hd (by rw [dm_cat]; exact hc) (hk ls hl)
    · cases h
  · cases h
theorem wd_80 : Cond.classLink RL 8 RX10 ∈ dm_W := dm_in (List.mem_append_right _ (dt_1 (List.mem_of_getElem? (i := 21) (by decide +kernel)))) (by decide +kernel)
theorem wd_81 : Cond.instantiable RX10 11 ∈ dm_W := dm_in (List.mem_append_right _ (dt_1 (List.mem_of_getElem? (i := 22) (by decide +kernel)))) (by decide +kernel)
theorem wd_82 : Cond.methodLink RL 19 yX10_init ∈ dm_W := dm_in (List.mem_append_right _ (dt_1 (List.mem_of_getElem? (i := 23) (by decide +kernel)))) (by decide +kernel)
theorem wd_83 : Cond.instanceMethod yX10_init ∈ dm_W := dm_in (List.mem_append_right _ (dt_1 (List.mem_of_getElem? (i := 24) (by decide +kernel)))) (by decide +kernel)
theorem wd_344 : Cond.methodLink RL 23 yX10_seed ∈ dm_W := dm_in (List.mem_append_right _ (dt_2 (List.mem_of_getElem? (i := 45) (by decide +kernel)))) (by decide +kernel)
theorem wd_345 : Cond.instanceMethod yX10_seed ∈ dm_W := dm_in (List.mem_append_right _ (dt_2 (List.mem_of_getElem? (i := 46) (by decide +kernel)))) (by decide +kernel)
theorem wd_346 : Cond.selects RX10 yX10_seed yX10_seed ∈ dm_W := dm_in (List.mem_append_right _ (dt_2 (List.mem_of_getElem? (i := 47) (by decide +kernel)))) (by decide +kernel)
theorem wd_348 : Cond.methodLink RL 27 yX10_fork ∈ dm_W := dm_in (List.mem_append_right _ (dt_2 (List.mem_of_getElem? (i := 49) (by decide +kernel)))) (by decide +kernel)
theorem wd_349 : Cond.instanceMethod yX10_fork ∈ dm_W := dm_in (List.mem_append_right _ (dt_2 (List.mem_of_getElem? (i := 50) (by decide +kernel)))) (by decide +kernel)
theorem wd_350 : Cond.selects RX10 yX10_fork yX10_fork ∈ dm_W := dm_in (List.mem_append_right _ (dt_2 (List.mem_of_getElem? (i := 51) (by decide +kernel)))) (by decide +kernel)
theorem wd_453 : Cond.methodLink RL 32 yX10_event ∈ dm_W := dm_in (List.mem_append_right _ (dt_2 (List.mem_of_getElem? (i := 154) (by decide +kernel)))) (by decide +kernel)
theorem wd_454 : Cond.instanceMethod yX10_event ∈ dm_W := dm_in (List.mem_append_right _ (dt_2 (List.mem_of_getElem? (i := 155) (by decide +kernel)))) (by decide +kernel)
theorem wd_455 : Cond.selects RX10 yX10_event yX10_event ∈ dm_W := dm_in (List.mem_append_right _ (dt_2 (List.mem_of_getElem? (i := 156) (by decide +kernel)))) (by decide +kernel)
theorem wd_502 : Cond.methodLink RL 36 yX10_join ∈ dm_W := dm_in (List.mem_append_right _ (dt_2 (List.mem_of_getElem? (i := 203) (by decide +kernel)))) (by decide +kernel)
theorem wd_503 : Cond.instanceMethod yX10_join ∈ dm_W := dm_in (List.mem_append_right _ (dt_2 (List.mem_of_getElem? (i := 204) (by decide +kernel)))) (by decide +kernel)
theorem wd_504 : Cond.selects RX10 yX10_join yX10_join ∈ dm_W := dm_in (List.mem_append_right _ (dt_2 (List.mem_of_getElem? (i := 205) (by decide +kernel)))) (by decide +kernel)
theorem wd_521 : Cond.methodLink RL 41 yX10_peek ∈ dm_W := dm_in (List.mem_append_right _ (dt_2 (List.mem_of_getElem? (i := 222) (by decide +kernel)))) (by decide +kernel)
theorem wd_522 : Cond.instanceMethod yX10_peek ∈ dm_W := dm_in (List.mem_append_right _ (dt_2 (List.mem_of_getElem? (i := 223) (by decide +kernel)))) (by decide +kernel)
theorem wd_523 : Cond.selects RX10 yX10_peek yX10_peek ∈ dm_W := dm_in (List.mem_append_right _ (dt_2 (List.mem_of_getElem? (i := 224) (by decide +kernel)))) (by decide +kernel)
theorem wd_529 : Cond.methodLink RL 45 yX10_send ∈ dm_W := dm_in (List.mem_append_right _ (dt_2 (List.mem_of_getElem? (i := 230) (by decide +kernel)))) (by decide +kernel)
theorem wd_530 : Cond.instanceMethod yX10_send ∈ dm_W := dm_in (List.mem_append_right _ (dt_2 (List.mem_of_getElem? (i := 231) (by decide +kernel)))) (by decide +kernel)
theorem wd_531 : Cond.selects RX10 yX10_send yX10_send ∈ dm_W := dm_in (List.mem_append_right _ (dt_2 (List.mem_of_getElem? (i := 232) (by decide +kernel)))) (by decide +kernel)
theorem wd_533 : Cond.methodLink RL 49 yX10_take ∈ dm_W := dm_in (List.mem_append_right _ (dt_2 (List.mem_of_getElem? (i := 234) (by decide +kernel)))) (by decide +kernel)
theorem wd_534 : Cond.instanceMethod yX10_take ∈ dm_W := dm_in (List.mem_append_right _ (dt_2 (List.mem_of_getElem? (i := 235) (by decide +kernel)))) (by decide +kernel)
theorem wd_535 : Cond.selects RX10 yX10_take yX10_take ∈ dm_W := dm_in (List.mem_append_right _ (dt_2 (List.mem_of_getElem? (i := 236) (by decide +kernel)))) (by decide +kernel)
theorem wd_537 : Cond.methodLink RL 53 yX10_lose ∈ dm_W := dm_in (List.mem_append_right _ (dt_2 (List.mem_of_getElem? (i := 238) (by decide +kernel)))) (by decide +kernel)
theorem wd_538 : Cond.instanceMethod yX10_lose ∈ dm_W := dm_in (List.mem_append_right _ (dt_2 (List.mem_of_getElem? (i := 239) (by decide +kernel)))) (by decide +kernel)
theorem wd_539 : Cond.selects RX10 yX10_lose yX10_lose ∈ dm_W := dm_in (List.mem_append_right _ (dt_3 (List.mem_of_getElem? (i := 0) (by decide +kernel)))) (by decide +kernel)
theorem wd_542 : Cond.methodLink RL 58 yX10_home ∈ dm_W := dm_in (List.mem_append_right _ (dt_3 (List.mem_of_getElem? (i := 3) (by decide +kernel)))) (by decide +kernel)
theorem wd_543 : Cond.instanceMethod yX10_home ∈ dm_W := dm_in (List.mem_append_right _ (dt_3 (List.mem_of_getElem? (i := 4) (by decide +kernel)))) (by decide +kernel)
theorem wd_544 : Cond.selects RX10 yX10_home yX10_home ∈ dm_W := dm_in (List.mem_append_right _ (dt_3 (List.mem_of_getElem? (i := 5) (by decide +kernel)))) (by decide +kernel)
theorem wd_564 : Cond.methodLink RL 62 yX10_undo ∈ dm_W := dm_in (List.mem_append_right _ (dt_3 (List.mem_of_getElem? (i := 25) (by decide +kernel)))) (by decide +kernel)
theorem wd_565 : Cond.instanceMethod yX10_undo ∈ dm_W := dm_in (List.mem_append_right _ (dt_3 (List.mem_of_getElem? (i := 26) (by decide +kernel)))) (by decide +kernel)
theorem wd_566 : Cond.selects RX10 yX10_undo yX10_undo ∈ dm_W := dm_in (List.mem_append_right _ (dt_3 (List.mem_of_getElem? (i := 27) (by decide +kernel)))) (by decide +kernel)
theorem wd_575 : Cond.methodLink RL 67 yX10_relation ∈ dm_W := dm_in (List.mem_append_right _ (dt_3 (List.mem_of_getElem? (i := 36) (by decide +kernel)))) (by decide +kernel)
theorem wd_580 : Cond.methodLink RL 71 yX10_unseen ∈ dm_W := dm_in (List.mem_append_right _ (dt_3 (List.mem_of_getElem? (i := 41) (by decide +kernel)))) (by decide +kernel)
theorem wd_581 : Cond.instanceMethod yX10_unseen ∈ dm_W := dm_in (List.mem_append_right _ (dt_3 (List.mem_of_getElem? (i := 42) (by decide +kernel)))) (by decide +kernel)
theorem wd_582 : Cond.selects RX10 yX10_unseen yX10_unseen ∈ dm_W := dm_in (List.mem_append_right _ (dt_3 (List.mem_of_getElem? (i := 43) (by decide +kernel)))) (by decide +kernel)
theorem wd_609 : Cond.methodLink RL 75 yX10_meets ∈ dm_W := dm_in (List.mem_append_right _ (dt_3 (List.mem_of_getElem? (i := 70) (by decide +kernel)))) (by decide +kernel)
theorem wd_610 : Cond.instanceMethod yX10_meets ∈ dm_W := dm_in (List.mem_append_right _ (dt_3 (List.mem_of_getElem? (i := 71) (by decide +kernel)))) (by decide +kernel)
theorem wd_611 : Cond.selects RX10 yX10_meets yX10_meets ∈ dm_W := dm_in (List.mem_append_right _ (dt_3 (List.mem_of_getElem? (i := 72) (by decide +kernel)))) (by decide +kernel)
theorem wd_620 : Cond.methodLink RL 91 yX10_stamp ∈ dm_W := dm_in (List.mem_append_right _ (dt_3 (List.mem_of_getElem? (i := 81) (by decide +kernel)))) (by decide +kernel)
theorem wd_621 : Cond.instanceMethod yX10_stamp ∈ dm_W := dm_in (List.mem_append_right _ (dt_3 (List.mem_of_getElem? (i := 82) (by decide +kernel)))) (by decide +kernel)
theorem wd_622 : Cond.selects RX10 yX10_stamp yX10_stamp ∈ dm_W := dm_in (List.mem_append_right _ (dt_3 (List.mem_of_getElem? (i := 83) (by decide +kernel)))) (by decide +kernel)
theorem wd_663 : Cond.methodLink RL 95 yX10_witness ∈ dm_W := dm_in (List.mem_append_right _ (dt_3 (List.mem_of_getElem? (i := 124) (by decide +kernel)))) (by decide +kernel)
theorem wd_664 : Cond.instanceMethod yX10_witness ∈ dm_W := dm_in (List.mem_append_right _ (dt_3 (List.mem_of_getElem? (i := 125) (by decide +kernel)))) (by decide +kernel)
theorem wd_665 : Cond.selects RX10 yX10_witness yX10_witness ∈ dm_W := dm_in (List.mem_append_right _ (dt_3 (List.mem_of_getElem? (i := 126) (by decide +kernel)))) (by decide +kernel)
theorem wd_676 : Cond.methodLink RL 100 yX10_place ∈ dm_W := dm_in (List.mem_append_right _ (dt_3 (List.mem_of_getElem? (i := 137) (by decide +kernel)))) (by decide +kernel)
theorem wd_677 : Cond.instanceMethod yX10_place ∈ dm_W := dm_in (List.mem_append_right _ (dt_3 (List.mem_of_getElem? (i := 138) (by decide +kernel)))) (by decide +kernel)
theorem wd_678 : Cond.selects RX10 yX10_place yX10_place ∈ dm_W := dm_in (List.mem_append_right _ (dt_3 (List.mem_of_getElem? (i := 139) (by decide +kernel)))) (by decide +kernel)
theorem wd_680 : Cond.methodLink RL 105 yX10_digits ∈ dm_W := dm_in (List.mem_append_right _ (dt_3 (List.mem_of_getElem? (i := 141) (by decide +kernel)))) (by decide +kernel)
theorem wd_681 : Cond.instanceMethod yX10_digits ∈ dm_W := dm_in (List.mem_append_right _ (dt_3 (List.mem_of_getElem? (i := 142) (by decide +kernel)))) (by decide +kernel)
theorem wd_682 : Cond.selects RX10 yX10_digits yX10_digits ∈ dm_W := dm_in (List.mem_append_right _ (dt_3 (List.mem_of_getElem? (i := 143) (by decide +kernel)))) (by decide +kernel)
theorem wd_684 : Cond.methodLink RL 110 yX10_check ∈ dm_W := dm_in (List.mem_append_right _ (dt_3 (List.mem_of_getElem? (i := 145) (by decide +kernel)))) (by decide +kernel)
theorem wd_685 : Cond.instanceMethod yX10_check ∈ dm_W := dm_in (List.mem_append_right _ (dt_3 (List.mem_of_getElem? (i := 146) (by decide +kernel)))) (by decide +kernel)
theorem wd_686 : Cond.selects RX10 yX10_check yX10_check ∈ dm_W := dm_in (List.mem_append_right _ (dt_3 (List.mem_of_getElem? (i := 147) (by decide +kernel)))) (by decide +kernel)
theorem wd_699 : Cond.methodLink RL 115 yX10_pack ∈ dm_W := dm_in (List.mem_append_right _ (dt_3 (List.mem_of_getElem? (i := 160) (by decide +kernel)))) (by decide +kernel)
theorem wd_700 : Cond.instanceMethod yX10_pack ∈ dm_W := dm_in (List.mem_append_right _ (dt_3 (List.mem_of_getElem? (i := 161) (by decide +kernel)))) (by decide +kernel)
theorem wd_701 : Cond.selects RX10 yX10_pack yX10_pack ∈ dm_W := dm_in (List.mem_append_right _ (dt_3 (List.mem_of_getElem? (i := 162) (by decide +kernel)))) (by decide +kernel)
theorem wd_712 : Cond.methodLink RL 119 yX10_bit ∈ dm_W := dm_in (List.mem_append_right _ (dt_3 (List.mem_of_getElem? (i := 173) (by decide +kernel)))) (by decide +kernel)
theorem wd_713 : Cond.instanceMethod yX10_bit ∈ dm_W := dm_in (List.mem_append_right _ (dt_3 (List.mem_of_getElem? (i := 174) (by decide +kernel)))) (by decide +kernel)
theorem wd_714 : Cond.selects RX10 yX10_bit yX10_bit ∈ dm_W := dm_in (List.mem_append_right _ (dt_3 (List.mem_of_getElem? (i := 175) (by decide +kernel)))) (by decide +kernel)
theorem wd_721 : Cond.methodLink RL 123 yX10_add ∈ dm_W := dm_in (List.mem_append_right _ (dt_3 (List.mem_of_getElem? (i := 182) (by decide +kernel)))) (by decide +kernel)
theorem wd_722 : Cond.instanceMethod yX10_add ∈ dm_W := dm_in (List.mem_append_right _ (dt_3 (List.mem_of_getElem? (i := 183) (by decide +kernel)))) (by decide +kernel)
theorem wd_723 : Cond.selects RX10 yX10_add yX10_add ∈ dm_W := dm_in (List.mem_append_right _ (dt_3 (List.mem_of_getElem? (i := 184) (by decide +kernel)))) (by decide +kernel)
theorem wd_726 : Cond.methodLink RL 128 yX10_end ∈ dm_W := dm_in (List.mem_append_right _ (dt_3 (List.mem_of_getElem? (i := 187) (by decide +kernel)))) (by decide +kernel)
theorem wd_727 : Cond.instanceMethod yX10_end ∈ dm_W := dm_in (List.mem_append_right _ (dt_3 (List.mem_of_getElem? (i := 188) (by decide +kernel)))) (by decide +kernel)
theorem wd_728 : Cond.selects RX10 yX10_end yX10_end ∈ dm_W := dm_in (List.mem_append_right _ (dt_3 (List.mem_of_getElem? (i := 189) (by decide +kernel)))) (by decide +kernel)
theorem wd_730 : Cond.methodLink RL 132 yX10_read ∈ dm_W := dm_in (List.mem_append_right _ (dt_3 (List.mem_of_getElem? (i := 191) (by decide +kernel)))) (by decide +kernel)
theorem wd_731 : Cond.instanceMethod yX10_read ∈ dm_W := dm_in (List.mem_append_right _ (dt_3 (List.mem_of_getElem? (i := 192) (by decide +kernel)))) (by decide +kernel)
theorem wd_732 : Cond.selects RX10 yX10_read yX10_read ∈ dm_W := dm_in (List.mem_append_right _ (dt_3 (List.mem_of_getElem? (i := 193) (by decide +kernel)))) (by decide +kernel)
theorem wd_781 : Cond.methodLink RL 136 yX10_fault ∈ dm_W := dm_in (List.mem_append_right _ (dt_4 (List.mem_of_getElem? (i := 2) (by decide +kernel)))) (by decide +kernel)
theorem wd_782 : Cond.instanceMethod yX10_fault ∈ dm_W := dm_in (List.mem_append_right _ (dt_4 (List.mem_of_getElem? (i := 3) (by decide +kernel)))) (by decide +kernel)
theorem wd_783 : Cond.selects RX10 yX10_fault yX10_fault ∈ dm_W := dm_in (List.mem_append_right _ (dt_4 (List.mem_of_getElem? (i := 4) (by decide +kernel)))) (by decide +kernel)
theorem wd_785 : Cond.methodLink RL 140 yX10_image ∈ dm_W := dm_in (List.mem_append_right _ (dt_4 (List.mem_of_getElem? (i := 6) (by decide +kernel)))) (by decide +kernel)
theorem wd_786 : Cond.instanceMethod yX10_image ∈ dm_W := dm_in (List.mem_append_right _ (dt_4 (List.mem_of_getElem? (i := 7) (by decide +kernel)))) (by decide +kernel)
theorem wd_787 : Cond.selects RX10 yX10_image yX10_image ∈ dm_W := dm_in (List.mem_append_right _ (dt_4 (List.mem_of_getElem? (i := 8) (by decide +kernel)))) (by decide +kernel)
theorem wd_799 : Cond.methodLink RL 144 yX10_back ∈ dm_W := dm_in (List.mem_append_right _ (dt_4 (List.mem_of_getElem? (i := 20) (by decide +kernel)))) (by decide +kernel)
theorem wd_800 : Cond.instanceMethod yX10_back ∈ dm_W := dm_in (List.mem_append_right _ (dt_4 (List.mem_of_getElem? (i := 21) (by decide +kernel)))) (by decide +kernel)
theorem wd_801 : Cond.selects RX10 yX10_back yX10_back ∈ dm_W := dm_in (List.mem_append_right _ (dt_4 (List.mem_of_getElem? (i := 22) (by decide +kernel)))) (by decide +kernel)
theorem wd_803 : Cond.methodLink RL 148 yX10_count ∈ dm_W := dm_in (List.mem_append_right _ (dt_4 (List.mem_of_getElem? (i := 24) (by decide +kernel)))) (by decide +kernel)
theorem wd_804 : Cond.instanceMethod yX10_count ∈ dm_W := dm_in (List.mem_append_right _ (dt_4 (List.mem_of_getElem? (i := 25) (by decide +kernel)))) (by decide +kernel)
theorem wd_805 : Cond.selects RX10 yX10_count yX10_count ∈ dm_W := dm_in (List.mem_append_right _ (dt_4 (List.mem_of_getElem? (i := 26) (by decide +kernel)))) (by decide +kernel)
theorem wd_908 : Cond.classLink RL 20 RX11 ∈ dm_W := dm_in (List.mem_append_right _ (dt_4 (List.mem_of_getElem? (i := 129) (by decide +kernel)))) (by decide +kernel)
theorem wd_909 : Cond.instantiable RX11 68 ∈ dm_W := dm_in (List.mem_append_right _ (dt_4 (List.mem_of_getElem? (i := 130) (by decide +kernel)))) (by decide +kernel)
theorem wd_910 : Cond.methodLink RL 22 yX11_init ∈ dm_W := dm_in (List.mem_append_right _ (dt_4 (List.mem_of_getElem? (i := 131) (by decide +kernel)))) (by decide +kernel)
theorem wd_911 : Cond.instanceMethod yX11_init ∈ dm_W := dm_in (List.mem_append_right _ (dt_4 (List.mem_of_getElem? (i := 132) (by decide +kernel)))) (by decide +kernel)
theorem wd_1156 : Cond.methodLink RL 26 yX11_seed ∈ dm_W := dm_in (List.mem_append_right _ (dt_5 (List.mem_of_getElem? (i := 137) (by decide +kernel)))) (by decide +kernel)
theorem wd_1157 : Cond.methodLink RL 31 yX11_fork ∈ dm_W := dm_in (List.mem_append_right _ (dt_5 (List.mem_of_getElem? (i := 138) (by decide +kernel)))) (by decide +kernel)
theorem wd_1158 : Cond.instanceMethod yX11_fork ∈ dm_W := dm_in (List.mem_append_right _ (dt_5 (List.mem_of_getElem? (i := 139) (by decide +kernel)))) (by decide +kernel)
theorem wd_1159 : Cond.selects RX11 yX11_fork yX11_fork ∈ dm_W := dm_in (List.mem_append_right _ (dt_5 (List.mem_of_getElem? (i := 140) (by decide +kernel)))) (by decide +kernel)
theorem wd_1197 : Cond.methodLink RL 35 yX11_event ∈ dm_W := dm_in (List.mem_append_right _ (dt_5 (List.mem_of_getElem? (i := 178) (by decide +kernel)))) (by decide +kernel)
theorem wd_1198 : Cond.instanceMethod yX11_event ∈ dm_W := dm_in (List.mem_append_right _ (dt_5 (List.mem_of_getElem? (i := 179) (by decide +kernel)))) (by decide +kernel)
theorem wd_1199 : Cond.selects RX11 yX11_event yX11_event ∈ dm_W := dm_in (List.mem_append_right _ (dt_5 (List.mem_of_getElem? (i := 180) (by decide +kernel)))) (by decide +kernel)
theorem wd_1238 : Cond.methodLink RL 40 yX11_join ∈ dm_W := dm_in (List.mem_append_right _ (dt_5 (List.mem_of_getElem? (i := 219) (by decide +kernel)))) (by decide +kernel)
theorem wd_1239 : Cond.instanceMethod yX11_join ∈ dm_W := dm_in (List.mem_append_right _ (dt_5 (List.mem_of_getElem? (i := 220) (by decide +kernel)))) (by decide +kernel)
theorem wd_1240 : Cond.selects RX11 yX11_join yX11_join ∈ dm_W := dm_in (List.mem_append_right _ (dt_5 (List.mem_of_getElem? (i := 221) (by decide +kernel)))) (by decide +kernel)
theorem wd_1254 : Cond.methodLink RL 44 yX11_peek ∈ dm_W := dm_in (List.mem_append_right _ (dt_5 (List.mem_of_getElem? (i := 235) (by decide +kernel)))) (by decide +kernel)
theorem wd_1255 : Cond.instanceMethod yX11_peek ∈ dm_W := dm_in (List.mem_append_right _ (dt_5 (List.mem_of_getElem? (i := 236) (by decide +kernel)))) (by decide +kernel)
theorem wd_1256 : Cond.selects RX11 yX11_peek yX11_peek ∈ dm_W := dm_in (List.mem_append_right _ (dt_5 (List.mem_of_getElem? (i := 237) (by decide +kernel)))) (by decide +kernel)
theorem wd_1258 : Cond.methodLink RL 48 yX11_send ∈ dm_W := dm_in (List.mem_append_right _ (dt_5 (List.mem_of_getElem? (i := 239) (by decide +kernel)))) (by decide +kernel)
theorem wd_1259 : Cond.instanceMethod yX11_send ∈ dm_W := dm_in (List.mem_append_right _ (dt_6 (List.mem_of_getElem? (i := 0) (by decide +kernel)))) (by decide +kernel)
theorem wd_1260 : Cond.selects RX11 yX11_send yX11_send ∈ dm_W := dm_in (List.mem_append_right _ (dt_6 (List.mem_of_getElem? (i := 1) (by decide +kernel)))) (by decide +kernel)
theorem wd_1262 : Cond.methodLink RL 52 yX11_take ∈ dm_W := dm_in (List.mem_append_right _ (dt_6 (List.mem_of_getElem? (i := 3) (by decide +kernel)))) (by decide +kernel)
theorem wd_1263 : Cond.instanceMethod yX11_take ∈ dm_W := dm_in (List.mem_append_right _ (dt_6 (List.mem_of_getElem? (i := 4) (by decide +kernel)))) (by decide +kernel)
theorem wd_1264 : Cond.selects RX11 yX11_take yX11_take ∈ dm_W := dm_in (List.mem_append_right _ (dt_6 (List.mem_of_getElem? (i := 5) (by decide +kernel)))) (by decide +kernel)
theorem wd_1266 : Cond.methodLink RL 57 yX11_lose ∈ dm_W := dm_in (List.mem_append_right _ (dt_6 (List.mem_of_getElem? (i := 7) (by decide +kernel)))) (by decide +kernel)
theorem wd_1267 : Cond.instanceMethod yX11_lose ∈ dm_W := dm_in (List.mem_append_right _ (dt_6 (List.mem_of_getElem? (i := 8) (by decide +kernel)))) (by decide +kernel)
theorem wd_1268 : Cond.selects RX11 yX11_lose yX11_lose ∈ dm_W := dm_in (List.mem_append_right _ (dt_6 (List.mem_of_getElem? (i := 9) (by decide +kernel)))) (by decide +kernel)
theorem wd_1270 : Cond.methodLink RL 61 yX11_home ∈ dm_W := dm_in (List.mem_append_right _ (dt_6 (List.mem_of_getElem? (i := 11) (by decide +kernel)))) (by decide +kernel)
theorem wd_1271 : Cond.instanceMethod yX11_home ∈ dm_W := dm_in (List.mem_append_right _ (dt_6 (List.mem_of_getElem? (i := 12) (by decide +kernel)))) (by decide +kernel)
theorem wd_1272 : Cond.selects RX11 yX11_home yX11_home ∈ dm_W := dm_in (List.mem_append_right _ (dt_6 (List.mem_of_getElem? (i := 13) (by decide +kernel)))) (by decide +kernel)
theorem wd_1278 : Cond.methodLink RL 66 yX11_undo ∈ dm_W := dm_in (List.mem_append_right _ (dt_6 (List.mem_of_getElem? (i := 19) (by decide +kernel)))) (by decide +kernel)
theorem wd_1279 : Cond.instanceMethod yX11_undo ∈ dm_W := dm_in (List.mem_append_right _ (dt_6 (List.mem_of_getElem? (i := 20) (by decide +kernel)))) (by decide +kernel)
theorem wd_1280 : Cond.selects RX11 yX11_undo yX11_undo ∈ dm_W := dm_in (List.mem_append_right _ (dt_6 (List.mem_of_getElem? (i := 21) (by decide +kernel)))) (by decide +kernel)
theorem wd_1282 : Cond.methodLink RL 70 yX11_relation ∈ dm_W := dm_in (List.mem_append_right _ (dt_6 (List.mem_of_getElem? (i := 23) (by decide +kernel)))) (by decide +kernel)
theorem wd_1283 : Cond.instanceMethod yX11_relation ∈ dm_W := dm_in (List.mem_append_right _ (dt_6 (List.mem_of_getElem? (i := 24) (by decide +kernel)))) (by decide +kernel)
theorem wd_1284 : Cond.selects RX11 yX11_relation yX11_relation ∈ dm_W := dm_in (List.mem_append_right _ (dt_6 (List.mem_of_getElem? (i := 25) (by decide +kernel)))) (by decide +kernel)
theorem wd_1286 : Cond.methodLink RL 74 yX11_unseen ∈ dm_W := dm_in (List.mem_append_right _ (dt_6 (List.mem_of_getElem? (i := 27) (by decide +kernel)))) (by decide +kernel)
theorem wd_1297 : Cond.methodLink RL 79 yX11_meets ∈ dm_W := dm_in (List.mem_append_right _ (dt_6 (List.mem_of_getElem? (i := 38) (by decide +kernel)))) (by decide +kernel)
theorem wd_1298 : Cond.instanceMethod yX11_meets ∈ dm_W := dm_in (List.mem_append_right _ (dt_6 (List.mem_of_getElem? (i := 39) (by decide +kernel)))) (by decide +kernel)
theorem wd_1299 : Cond.selects RX11 yX11_meets yX11_meets ∈ dm_W := dm_in (List.mem_append_right _ (dt_6 (List.mem_of_getElem? (i := 40) (by decide +kernel)))) (by decide +kernel)
theorem wd_1301 : Cond.methodLink RL 87 yX11_height ∈ dm_W := dm_in (List.mem_append_right _ (dt_6 (List.mem_of_getElem? (i := 42) (by decide +kernel)))) (by decide +kernel)
theorem wd_1302 : Cond.instanceMethod yX11_height ∈ dm_W := dm_in (List.mem_append_right _ (dt_6 (List.mem_of_getElem? (i := 43) (by decide +kernel)))) (by decide +kernel)
theorem wd_1303 : Cond.selects RX11 yX11_height yX11_height ∈ dm_W := dm_in (List.mem_append_right _ (dt_6 (List.mem_of_getElem? (i := 44) (by decide +kernel)))) (by decide +kernel)
theorem wd_1312 : Cond.methodLink RL 90 yX11_owns_ ∈ dm_W := dm_in (List.mem_append_right _ (dt_6 (List.mem_of_getElem? (i := 53) (by decide +kernel)))) (by decide +kernel)
theorem wd_1313 : Cond.instanceMethod yX11_owns_ ∈ dm_W := dm_in (List.mem_append_right _ (dt_6 (List.mem_of_getElem? (i := 54) (by decide +kernel)))) (by decide +kernel)
theorem wd_1314 : Cond.selects RX11 yX11_owns_ yX11_owns_ ∈ dm_W := dm_in (List.mem_append_right _ (dt_6 (List.mem_of_getElem? (i := 55) (by decide +kernel)))) (by decide +kernel)
theorem wd_1316 : Cond.methodLink RL 94 yX11_stamp ∈ dm_W := dm_in (List.mem_append_right _ (dt_6 (List.mem_of_getElem? (i := 57) (by decide +kernel)))) (by decide +kernel)
theorem wd_1317 : Cond.instanceMethod yX11_stamp ∈ dm_W := dm_in (List.mem_append_right _ (dt_6 (List.mem_of_getElem? (i := 58) (by decide +kernel)))) (by decide +kernel)
theorem wd_1318 : Cond.selects RX11 yX11_stamp yX11_stamp ∈ dm_W := dm_in (List.mem_append_right _ (dt_6 (List.mem_of_getElem? (i := 59) (by decide +kernel)))) (by decide +kernel)
theorem wd_1345 : Cond.methodLink RL 99 yX11_witness ∈ dm_W := dm_in (List.mem_append_right _ (dt_6 (List.mem_of_getElem? (i := 86) (by decide +kernel)))) (by decide +kernel)
theorem wd_1346 : Cond.instanceMethod yX11_witness ∈ dm_W := dm_in (List.mem_append_right _ (dt_6 (List.mem_of_getElem? (i := 87) (by decide +kernel)))) (by decide +kernel)
theorem wd_1347 : Cond.selects RX11 yX11_witness yX11_witness ∈ dm_W := dm_in (List.mem_append_right _ (dt_6 (List.mem_of_getElem? (i := 88) (by decide +kernel)))) (by decide +kernel)
theorem wd_1353 : Cond.methodLink RL 104 yX11_place ∈ dm_W := dm_in (List.mem_append_right _ (dt_6 (List.mem_of_getElem? (i := 94) (by decide +kernel)))) (by decide +kernel)
theorem wd_1354 : Cond.instanceMethod yX11_place ∈ dm_W := dm_in (List.mem_append_right _ (dt_6 (List.mem_of_getElem? (i := 95) (by decide +kernel)))) (by decide +kernel)
theorem wd_1355 : Cond.selects RX11 yX11_place yX11_place ∈ dm_W := dm_in (List.mem_append_right _ (dt_6 (List.mem_of_getElem? (i := 96) (by decide +kernel)))) (by decide +kernel)
theorem wd_1357 : Cond.methodLink RL 109 yX11_digits ∈ dm_W := dm_in (List.mem_append_right _ (dt_6 (List.mem_of_getElem? (i := 98) (by decide +kernel)))) (by decide +kernel)
theorem wd_1358 : Cond.instanceMethod yX11_digits ∈ dm_W := dm_in (List.mem_append_right _ (dt_6 (List.mem_of_getElem? (i := 99) (by decide +kernel)))) (by decide +kernel)
theorem wd_1359 : Cond.selects RX11 yX11_digits yX11_digits ∈ dm_W := dm_in (List.mem_append_right _ (dt_6 (List.mem_of_getElem? (i := 100) (by decide +kernel)))) (by decide +kernel)
theorem wd_1361 : Cond.methodLink RL 114 yX11_check ∈ dm_W := dm_in (List.mem_append_right _ (dt_6 (List.mem_of_getElem? (i := 102) (by decide +kernel)))) (by decide +kernel)
theorem wd_1362 : Cond.instanceMethod yX11_check ∈ dm_W := dm_in (List.mem_append_right _ (dt_6 (List.mem_of_getElem? (i := 103) (by decide +kernel)))) (by decide +kernel)
theorem wd_1363 : Cond.selects RX11 yX11_check yX11_check ∈ dm_W := dm_in (List.mem_append_right _ (dt_6 (List.mem_of_getElem? (i := 104) (by decide +kernel)))) (by decide +kernel)
theorem wd_1365 : Cond.methodLink RL 118 yX11_pack ∈ dm_W := dm_in (List.mem_append_right _ (dt_6 (List.mem_of_getElem? (i := 106) (by decide +kernel)))) (by decide +kernel)
theorem wd_1366 : Cond.instanceMethod yX11_pack ∈ dm_W := dm_in (List.mem_append_right _ (dt_6 (List.mem_of_getElem? (i := 107) (by decide +kernel)))) (by decide +kernel)
theorem wd_1367 : Cond.selects RX11 yX11_pack yX11_pack ∈ dm_W := dm_in (List.mem_append_right _ (dt_6 (List.mem_of_getElem? (i := 108) (by decide +kernel)))) (by decide +kernel)
theorem wd_1369 : Cond.methodLink RL 122 yX11_bit_ ∈ dm_W := dm_in (List.mem_append_right _ (dt_6 (List.mem_of_getElem? (i := 110) (by decide +kernel)))) (by decide +kernel)
theorem wd_1370 : Cond.instanceMethod yX11_bit_ ∈ dm_W := dm_in (List.mem_append_right _ (dt_6 (List.mem_of_getElem? (i := 111) (by decide +kernel)))) (by decide +kernel)
theorem wd_1371 : Cond.selects RX11 yX11_bit_ yX11_bit_ ∈ dm_W := dm_in (List.mem_append_right _ (dt_6 (List.mem_of_getElem? (i := 112) (by decide +kernel)))) (by decide +kernel)
theorem wd_1373 : Cond.methodLink RL 127 yX11_add ∈ dm_W := dm_in (List.mem_append_right _ (dt_6 (List.mem_of_getElem? (i := 114) (by decide +kernel)))) (by decide +kernel)
theorem wd_1374 : Cond.instanceMethod yX11_add ∈ dm_W := dm_in (List.mem_append_right _ (dt_6 (List.mem_of_getElem? (i := 115) (by decide +kernel)))) (by decide +kernel)
theorem wd_1375 : Cond.selects RX11 yX11_add yX11_add ∈ dm_W := dm_in (List.mem_append_right _ (dt_6 (List.mem_of_getElem? (i := 116) (by decide +kernel)))) (by decide +kernel)
theorem wd_1377 : Cond.methodLink RL 131 yX11_end ∈ dm_W := dm_in (List.mem_append_right _ (dt_6 (List.mem_of_getElem? (i := 118) (by decide +kernel)))) (by decide +kernel)
theorem wd_1378 : Cond.instanceMethod yX11_end ∈ dm_W := dm_in (List.mem_append_right _ (dt_6 (List.mem_of_getElem? (i := 119) (by decide +kernel)))) (by decide +kernel)
theorem wd_1379 : Cond.selects RX11 yX11_end yX11_end ∈ dm_W := dm_in (List.mem_append_right _ (dt_6 (List.mem_of_getElem? (i := 120) (by decide +kernel)))) (by decide +kernel)
theorem wd_1381 : Cond.methodLink RL 135 yX11_read ∈ dm_W := dm_in (List.mem_append_right _ (dt_6 (List.mem_of_getElem? (i := 122) (by decide +kernel)))) (by decide +kernel)
theorem wd_1382 : Cond.instanceMethod yX11_read ∈ dm_W := dm_in (List.mem_append_right _ (dt_6 (List.mem_of_getElem? (i := 123) (by decide +kernel)))) (by decide +kernel)
theorem wd_1383 : Cond.selects RX11 yX11_read yX11_read ∈ dm_W := dm_in (List.mem_append_right _ (dt_6 (List.mem_of_getElem? (i := 124) (by decide +kernel)))) (by decide +kernel)
theorem wd_1409 : Cond.methodLink RL 139 yX11_fault ∈ dm_W := dm_in (List.mem_append_right _ (dt_6 (List.mem_of_getElem? (i := 150) (by decide +kernel)))) (by decide +kernel)
theorem wd_1410 : Cond.instanceMethod yX11_fault ∈ dm_W := dm_in (List.mem_append_right _ (dt_6 (List.mem_of_getElem? (i := 151) (by decide +kernel)))) (by decide +kernel)
theorem wd_1411 : Cond.selects RX11 yX11_fault yX11_fault ∈ dm_W := dm_in (List.mem_append_right _ (dt_6 (List.mem_of_getElem? (i := 152) (by decide +kernel)))) (by decide +kernel)
theorem wd_1413 : Cond.methodLink RL 143 yX11_image ∈ dm_W := dm_in (List.mem_append_right _ (dt_6 (List.mem_of_getElem? (i := 154) (by decide +kernel)))) (by decide +kernel)
theorem wd_1414 : Cond.instanceMethod yX11_image ∈ dm_W := dm_in (List.mem_append_right _ (dt_6 (List.mem_of_getElem? (i := 155) (by decide +kernel)))) (by decide +kernel)
theorem wd_1415 : Cond.selects RX11 yX11_image yX11_image ∈ dm_W := dm_in (List.mem_append_right _ (dt_6 (List.mem_of_getElem? (i := 156) (by decide +kernel)))) (by decide +kernel)
theorem wd_1417 : Cond.methodLink RL 147 yX11_back ∈ dm_W := dm_in (List.mem_append_right _ (dt_6 (List.mem_of_getElem? (i := 158) (by decide +kernel)))) (by decide +kernel)
theorem wd_1418 : Cond.instanceMethod yX11_back ∈ dm_W := dm_in (List.mem_append_right _ (dt_6 (List.mem_of_getElem? (i := 159) (by decide +kernel)))) (by decide +kernel)
theorem wd_1419 : Cond.selects RX11 yX11_back yX11_back ∈ dm_W := dm_in (List.mem_append_right _ (dt_6 (List.mem_of_getElem? (i := 160) (by decide +kernel)))) (by decide +kernel)
theorem wd_1421 : Cond.methodLink RL 151 yX11_count ∈ dm_W := dm_in (List.mem_append_right _ (dt_6 (List.mem_of_getElem? (i := 162) (by decide +kernel)))) (by decide +kernel)
theorem wd_1422 : Cond.instanceMethod yX11_count ∈ dm_W := dm_in (List.mem_append_right _ (dt_6 (List.mem_of_getElem? (i := 163) (by decide +kernel)))) (by decide +kernel)
theorem wd_1423 : Cond.selects RX11 yX11_count yX11_count ∈ dm_W := dm_in (List.mem_append_right _ (dt_6 (List.mem_of_getElem? (i := 164) (by decide +kernel)))) (by decide +kernel)
theorem wd_1425 : Cond.constantLong RL 80 (4294967295) ∈ dm_W := dm_in (List.mem_append_right _ (dt_6 (List.mem_of_getElem? (i := 166) (by decide +kernel)))) (by decide +kernel)
theorem dL_law_0 : decode cL_law 0 = .ok (.new 8, 3) := by decide +kernel
theorem dL_law_3 : decode cL_law 3 = .ok (.dup, 1) := by decide +kernel
theorem dL_law_4 : decode cL_law 4 = .ok (.invokespecial 19, 3) := by decide +kernel
theorem dL_law_7 : decode cL_law 7 = .ok (.astore_n 1, 1) := by decide +kernel
theorem dL_law_8 : decode cL_law 8 = .ok (.new 20, 3) := by decide +kernel
theorem dL_law_11 : decode cL_law 11 = .ok (.dup, 1) := by decide +kernel
theorem dL_law_12 : decode cL_law 12 = .ok (.invokespecial 22, 3) := by decide +kernel
theorem dL_law_15 : decode cL_law 15 = .ok (.astore_n 2, 1) := by decide +kernel
theorem dL_law_16 : decode cL_law 16 = .ok (.iconst 1, 1) := by decide +kernel
theorem dL_law_17 : decode cL_law 17 = .ok (.newarray .long, 2) := by decide +kernel
theorem dL_law_19 : decode cL_law 19 = .ok (.astore_n 3, 1) := by decide +kernel
theorem dL_law_20 : decode cL_law 20 = .ok (.iconst 0, 1) := by decide +kernel
theorem dL_law_21 : decode cL_law 21 = .ok (.istore 4, 2) := by decide +kernel
theorem dL_law_23 : decode cL_law 23 = .ok (.iload 4, 2) := by decide +kernel
theorem dL_law_25 : decode cL_law 25 = .ok (.aload_n 0, 1) := by decide +kernel
theorem dL_law_26 : decode cL_law 26 = .ok (.arraylength, 1) := by decide +kernel
theorem dL_law_27 : decode cL_law 27 = .ok (.bipush 9, 2) := by decide +kernel
theorem dL_law_29 : decode cL_law 29 = .ok (.isub, 1) := by decide +kernel
theorem dL_law_30 : decode cL_law 30 = .ok (.if_icmp .gt 1175, 3) := by decide +kernel
theorem dL_law_33 : decode cL_law 33 = .ok (.aload_n 0, 1) := by decide +kernel
theorem dL_law_34 : decode cL_law 34 = .ok (.iload 4, 2) := by decide +kernel
theorem dL_law_36 : decode cL_law 36 = .ok (.iaload, 1) := by decide +kernel
theorem dL_law_37 : decode cL_law 37 = .ok (.bipush 31, 2) := by decide +kernel
theorem dL_law_39 : decode cL_law 39 = .ok (.iand, 1) := by decide +kernel
theorem dL_law_40 : decode cL_law 40 = .ok (.tableswitch 1159 0 28 #[132, 143, 168, 193, 230, 255, 280, 317, 342, 379, 392, 429, 466, 503, 587, 671, 708, 757, 770, 783, 938, 963, 988, 1057, 1082, 1095, 1108, 1121, 1134], 132) := by decide +kernel
theorem dL_law_172 : decode cL_law 172 = .ok (.aload_n 1, 1) := by decide +kernel
theorem dL_law_173 : decode cL_law 173 = .ok (.invokevirtual 23, 3) := by decide +kernel
theorem dL_law_176 : decode cL_law 176 = .ok (.aload_n 2, 1) := by decide +kernel
theorem dL_law_177 : decode cL_law 177 = .ok (.invokevirtual 26, 3) := by decide +kernel
theorem dL_law_180 : decode cL_law 180 = .ok (.goto 1019, 3) := by decide +kernel
theorem dL_law_183 : decode cL_law 183 = .ok (.aload_n 1, 1) := by decide +kernel
theorem dL_law_184 : decode cL_law 184 = .ok (.aload_n 0, 1) := by decide +kernel
theorem dL_law_185 : decode cL_law 185 = .ok (.iload 4, 2) := by decide +kernel
theorem dL_law_187 : decode cL_law 187 = .ok (.iconst 1, 1) := by decide +kernel
theorem dL_law_188 : decode cL_law 188 = .ok (.iadd, 1) := by decide +kernel
theorem dL_law_189 : decode cL_law 189 = .ok (.iaload, 1) := by decide +kernel
theorem dL_law_190 : decode cL_law 190 = .ok (.invokevirtual 27, 3) := by decide +kernel
theorem dL_law_193 : decode cL_law 193 = .ok (.pop, 1) := by decide +kernel
theorem dL_law_194 : decode cL_law 194 = .ok (.aload_n 2, 1) := by decide +kernel
theorem dL_law_195 : decode cL_law 195 = .ok (.aload_n 0, 1) := by decide +kernel
theorem dL_law_196 : decode cL_law 196 = .ok (.iload 4, 2) := by decide +kernel
theorem dL_law_198 : decode cL_law 198 = .ok (.iconst 1, 1) := by decide +kernel
theorem dL_law_199 : decode cL_law 199 = .ok (.iadd, 1) := by decide +kernel
theorem dL_law_200 : decode cL_law 200 = .ok (.iaload, 1) := by decide +kernel
theorem dL_law_201 : decode cL_law 201 = .ok (.invokevirtual 31, 3) := by decide +kernel
theorem dL_law_204 : decode cL_law 204 = .ok (.pop, 1) := by decide +kernel
theorem dL_law_205 : decode cL_law 205 = .ok (.goto 994, 3) := by decide +kernel
theorem dL_law_208 : decode cL_law 208 = .ok (.aload_n 1, 1) := by decide +kernel
theorem dL_law_209 : decode cL_law 209 = .ok (.aload_n 0, 1) := by decide +kernel
theorem dL_law_210 : decode cL_law 210 = .ok (.iload 4, 2) := by decide +kernel
theorem dL_law_212 : decode cL_law 212 = .ok (.iconst 1, 1) := by decide +kernel
theorem dL_law_213 : decode cL_law 213 = .ok (.iadd, 1) := by decide +kernel
theorem dL_law_214 : decode cL_law 214 = .ok (.iaload, 1) := by decide +kernel
theorem dL_law_215 : decode cL_law 215 = .ok (.invokevirtual 32, 3) := by decide +kernel
theorem dL_law_218 : decode cL_law 218 = .ok (.pop, 1) := by decide +kernel
theorem dL_law_219 : decode cL_law 219 = .ok (.aload_n 2, 1) := by decide +kernel
theorem dL_law_220 : decode cL_law 220 = .ok (.aload_n 0, 1) := by decide +kernel
theorem dL_law_221 : decode cL_law 221 = .ok (.iload 4, 2) := by decide +kernel
theorem dL_law_223 : decode cL_law 223 = .ok (.iconst 1, 1) := by decide +kernel
theorem dL_law_224 : decode cL_law 224 = .ok (.iadd, 1) := by decide +kernel
theorem dL_law_225 : decode cL_law 225 = .ok (.iaload, 1) := by decide +kernel
theorem dL_law_226 : decode cL_law 226 = .ok (.invokevirtual 35, 3) := by decide +kernel
theorem dL_law_229 : decode cL_law 229 = .ok (.pop, 1) := by decide +kernel
theorem dL_law_230 : decode cL_law 230 = .ok (.goto 969, 3) := by decide +kernel
theorem dL_law_233 : decode cL_law 233 = .ok (.aload_n 1, 1) := by decide +kernel
theorem dL_law_234 : decode cL_law 234 = .ok (.aload_n 0, 1) := by decide +kernel
theorem dL_law_235 : decode cL_law 235 = .ok (.iload 4, 2) := by decide +kernel
theorem dL_law_237 : decode cL_law 237 = .ok (.iconst 1, 1) := by decide +kernel
theorem dL_law_238 : decode cL_law 238 = .ok (.iadd, 1) := by decide +kernel
theorem dL_law_239 : decode cL_law 239 = .ok (.iaload, 1) := by decide +kernel
theorem dL_law_240 : decode cL_law 240 = .ok (.aload_n 0, 1) := by decide +kernel
theorem dL_law_241 : decode cL_law 241 = .ok (.iload 4, 2) := by decide +kernel
theorem dL_law_243 : decode cL_law 243 = .ok (.iconst 2, 1) := by decide +kernel
theorem dL_law_244 : decode cL_law 244 = .ok (.iadd, 1) := by decide +kernel
theorem dL_law_245 : decode cL_law 245 = .ok (.iaload, 1) := by decide +kernel
theorem dL_law_246 : decode cL_law 246 = .ok (.invokevirtual 36, 3) := by decide +kernel
theorem dL_law_249 : decode cL_law 249 = .ok (.pop, 1) := by decide +kernel
theorem dL_law_250 : decode cL_law 250 = .ok (.aload_n 2, 1) := by decide +kernel
theorem dL_law_251 : decode cL_law 251 = .ok (.aload_n 0, 1) := by decide +kernel
theorem dL_law_252 : decode cL_law 252 = .ok (.iload 4, 2) := by decide +kernel
theorem dL_law_254 : decode cL_law 254 = .ok (.iconst 1, 1) := by decide +kernel
theorem dL_law_255 : decode cL_law 255 = .ok (.iadd, 1) := by decide +kernel
theorem dL_law_256 : decode cL_law 256 = .ok (.iaload, 1) := by decide +kernel
theorem dL_law_257 : decode cL_law 257 = .ok (.aload_n 0, 1) := by decide +kernel
theorem dL_law_258 : decode cL_law 258 = .ok (.iload 4, 2) := by decide +kernel
theorem dL_law_260 : decode cL_law 260 = .ok (.iconst 2, 1) := by decide +kernel
theorem dL_law_261 : decode cL_law 261 = .ok (.iadd, 1) := by decide +kernel
theorem dL_law_262 : decode cL_law 262 = .ok (.iaload, 1) := by decide +kernel
theorem dL_law_263 : decode cL_law 263 = .ok (.invokevirtual 40, 3) := by decide +kernel
theorem dL_law_266 : decode cL_law 266 = .ok (.pop, 1) := by decide +kernel
theorem dL_law_267 : decode cL_law 267 = .ok (.goto 932, 3) := by decide +kernel
theorem dL_law_270 : decode cL_law 270 = .ok (.aload_n 1, 1) := by decide +kernel
theorem dL_law_271 : decode cL_law 271 = .ok (.aload_n 0, 1) := by decide +kernel
theorem dL_law_272 : decode cL_law 272 = .ok (.iload 4, 2) := by decide +kernel
theorem dL_law_274 : decode cL_law 274 = .ok (.iconst 1, 1) := by decide +kernel
theorem dL_law_275 : decode cL_law 275 = .ok (.iadd, 1) := by decide +kernel
theorem dL_law_276 : decode cL_law 276 = .ok (.iaload, 1) := by decide +kernel
theorem dL_law_277 : decode cL_law 277 = .ok (.invokevirtual 41, 3) := by decide +kernel
theorem dL_law_280 : decode cL_law 280 = .ok (.pop, 1) := by decide +kernel
theorem dL_law_281 : decode cL_law 281 = .ok (.aload_n 2, 1) := by decide +kernel
theorem dL_law_282 : decode cL_law 282 = .ok (.aload_n 0, 1) := by decide +kernel
theorem dL_law_283 : decode cL_law 283 = .ok (.iload 4, 2) := by decide +kernel
theorem dL_law_285 : decode cL_law 285 = .ok (.iconst 1, 1) := by decide +kernel
theorem dL_law_286 : decode cL_law 286 = .ok (.iadd, 1) := by decide +kernel
theorem dL_law_287 : decode cL_law 287 = .ok (.iaload, 1) := by decide +kernel
theorem dL_law_288 : decode cL_law 288 = .ok (.invokevirtual 44, 3) := by decide +kernel
theorem dL_law_291 : decode cL_law 291 = .ok (.pop, 1) := by decide +kernel
theorem dL_law_292 : decode cL_law 292 = .ok (.goto 907, 3) := by decide +kernel
theorem dL_law_295 : decode cL_law 295 = .ok (.aload_n 1, 1) := by decide +kernel
theorem dL_law_296 : decode cL_law 296 = .ok (.aload_n 0, 1) := by decide +kernel
theorem dL_law_297 : decode cL_law 297 = .ok (.iload 4, 2) := by decide +kernel
theorem dL_law_299 : decode cL_law 299 = .ok (.iconst 1, 1) := by decide +kernel
theorem dL_law_300 : decode cL_law 300 = .ok (.iadd, 1) := by decide +kernel
theorem dL_law_301 : decode cL_law 301 = .ok (.iaload, 1) := by decide +kernel
theorem dL_law_302 : decode cL_law 302 = .ok (.invokevirtual 45, 3) := by decide +kernel
theorem dL_law_305 : decode cL_law 305 = .ok (.pop, 1) := by decide +kernel
theorem dL_law_306 : decode cL_law 306 = .ok (.aload_n 2, 1) := by decide +kernel
theorem dL_law_307 : decode cL_law 307 = .ok (.aload_n 0, 1) := by decide +kernel
theorem dL_law_308 : decode cL_law 308 = .ok (.iload 4, 2) := by decide +kernel
theorem dL_law_310 : decode cL_law 310 = .ok (.iconst 1, 1) := by decide +kernel
theorem dL_law_311 : decode cL_law 311 = .ok (.iadd, 1) := by decide +kernel
theorem dL_law_312 : decode cL_law 312 = .ok (.iaload, 1) := by decide +kernel
theorem dL_law_313 : decode cL_law 313 = .ok (.invokevirtual 48, 3) := by decide +kernel
theorem dL_law_316 : decode cL_law 316 = .ok (.pop, 1) := by decide +kernel
theorem dL_law_317 : decode cL_law 317 = .ok (.goto 882, 3) := by decide +kernel
theorem dL_law_320 : decode cL_law 320 = .ok (.aload_n 1, 1) := by decide +kernel
theorem dL_law_321 : decode cL_law 321 = .ok (.aload_n 0, 1) := by decide +kernel
theorem dL_law_322 : decode cL_law 322 = .ok (.iload 4, 2) := by decide +kernel
theorem dL_law_324 : decode cL_law 324 = .ok (.iconst 1, 1) := by decide +kernel
theorem dL_law_325 : decode cL_law 325 = .ok (.iadd, 1) := by decide +kernel
theorem dL_law_326 : decode cL_law 326 = .ok (.iaload, 1) := by decide +kernel
theorem dL_law_327 : decode cL_law 327 = .ok (.aload_n 0, 1) := by decide +kernel
theorem dL_law_328 : decode cL_law 328 = .ok (.iload 4, 2) := by decide +kernel
theorem dL_law_330 : decode cL_law 330 = .ok (.iconst 2, 1) := by decide +kernel
theorem dL_law_331 : decode cL_law 331 = .ok (.iadd, 1) := by decide +kernel
theorem dL_law_332 : decode cL_law 332 = .ok (.iaload, 1) := by decide +kernel
theorem dL_law_333 : decode cL_law 333 = .ok (.invokevirtual 49, 3) := by decide +kernel
theorem dL_law_336 : decode cL_law 336 = .ok (.pop, 1) := by decide +kernel
theorem dL_law_337 : decode cL_law 337 = .ok (.aload_n 2, 1) := by decide +kernel
theorem dL_law_338 : decode cL_law 338 = .ok (.aload_n 0, 1) := by decide +kernel
theorem dL_law_339 : decode cL_law 339 = .ok (.iload 4, 2) := by decide +kernel
theorem dL_law_341 : decode cL_law 341 = .ok (.iconst 1, 1) := by decide +kernel
theorem dL_law_342 : decode cL_law 342 = .ok (.iadd, 1) := by decide +kernel
theorem dL_law_343 : decode cL_law 343 = .ok (.iaload, 1) := by decide +kernel
theorem dL_law_344 : decode cL_law 344 = .ok (.aload_n 0, 1) := by decide +kernel
theorem dL_law_345 : decode cL_law 345 = .ok (.iload 4, 2) := by decide +kernel
theorem dL_law_347 : decode cL_law 347 = .ok (.iconst 2, 1) := by decide +kernel
theorem dL_law_348 : decode cL_law 348 = .ok (.iadd, 1) := by decide +kernel
theorem dL_law_349 : decode cL_law 349 = .ok (.iaload, 1) := by decide +kernel
theorem dL_law_350 : decode cL_law 350 = .ok (.invokevirtual 52, 3) := by decide +kernel
theorem dL_law_353 : decode cL_law 353 = .ok (.pop, 1) := by decide +kernel
theorem dL_law_354 : decode cL_law 354 = .ok (.goto 845, 3) := by decide +kernel
theorem dL_law_357 : decode cL_law 357 = .ok (.aload_n 1, 1) := by decide +kernel
theorem dL_law_358 : decode cL_law 358 = .ok (.aload_n 0, 1) := by decide +kernel
theorem dL_law_359 : decode cL_law 359 = .ok (.iload 4, 2) := by decide +kernel
theorem dL_law_361 : decode cL_law 361 = .ok (.iconst 1, 1) := by decide +kernel
theorem dL_law_362 : decode cL_law 362 = .ok (.iadd, 1) := by decide +kernel
theorem dL_law_363 : decode cL_law 363 = .ok (.iaload, 1) := by decide +kernel
theorem dL_law_364 : decode cL_law 364 = .ok (.invokevirtual 53, 3) := by decide +kernel
theorem dL_law_367 : decode cL_law 367 = .ok (.pop, 1) := by decide +kernel
theorem dL_law_368 : decode cL_law 368 = .ok (.aload_n 2, 1) := by decide +kernel
theorem dL_law_369 : decode cL_law 369 = .ok (.aload_n 0, 1) := by decide +kernel
theorem dL_law_370 : decode cL_law 370 = .ok (.iload 4, 2) := by decide +kernel
theorem dL_law_372 : decode cL_law 372 = .ok (.iconst 1, 1) := by decide +kernel
theorem dL_law_373 : decode cL_law 373 = .ok (.iadd, 1) := by decide +kernel
theorem dL_law_374 : decode cL_law 374 = .ok (.iaload, 1) := by decide +kernel
theorem dL_law_375 : decode cL_law 375 = .ok (.invokevirtual 57, 3) := by decide +kernel
theorem dL_law_378 : decode cL_law 378 = .ok (.pop, 1) := by decide +kernel
theorem dL_law_379 : decode cL_law 379 = .ok (.goto 820, 3) := by decide +kernel
theorem dL_law_382 : decode cL_law 382 = .ok (.aload_n 1, 1) := by decide +kernel
theorem dL_law_383 : decode cL_law 383 = .ok (.aload_n 0, 1) := by decide +kernel
theorem dL_law_384 : decode cL_law 384 = .ok (.iload 4, 2) := by decide +kernel
theorem dL_law_386 : decode cL_law 386 = .ok (.iconst 1, 1) := by decide +kernel
theorem dL_law_387 : decode cL_law 387 = .ok (.iadd, 1) := by decide +kernel
theorem dL_law_388 : decode cL_law 388 = .ok (.iaload, 1) := by decide +kernel
theorem dL_law_389 : decode cL_law 389 = .ok (.aload_n 0, 1) := by decide +kernel
theorem dL_law_390 : decode cL_law 390 = .ok (.iload 4, 2) := by decide +kernel
theorem dL_law_392 : decode cL_law 392 = .ok (.iconst 2, 1) := by decide +kernel
theorem dL_law_393 : decode cL_law 393 = .ok (.iadd, 1) := by decide +kernel
theorem dL_law_394 : decode cL_law 394 = .ok (.iaload, 1) := by decide +kernel
theorem dL_law_395 : decode cL_law 395 = .ok (.invokevirtual 58, 3) := by decide +kernel
theorem dL_law_398 : decode cL_law 398 = .ok (.pop, 1) := by decide +kernel
theorem dL_law_399 : decode cL_law 399 = .ok (.aload_n 2, 1) := by decide +kernel
theorem dL_law_400 : decode cL_law 400 = .ok (.aload_n 0, 1) := by decide +kernel
theorem dL_law_401 : decode cL_law 401 = .ok (.iload 4, 2) := by decide +kernel
theorem dL_law_403 : decode cL_law 403 = .ok (.iconst 1, 1) := by decide +kernel
theorem dL_law_404 : decode cL_law 404 = .ok (.iadd, 1) := by decide +kernel
theorem dL_law_405 : decode cL_law 405 = .ok (.iaload, 1) := by decide +kernel
theorem dL_law_406 : decode cL_law 406 = .ok (.aload_n 0, 1) := by decide +kernel
theorem dL_law_407 : decode cL_law 407 = .ok (.iload 4, 2) := by decide +kernel
theorem dL_law_409 : decode cL_law 409 = .ok (.iconst 2, 1) := by decide +kernel
theorem dL_law_410 : decode cL_law 410 = .ok (.iadd, 1) := by decide +kernel
theorem dL_law_411 : decode cL_law 411 = .ok (.iaload, 1) := by decide +kernel
theorem dL_law_412 : decode cL_law 412 = .ok (.invokevirtual 61, 3) := by decide +kernel
theorem dL_law_415 : decode cL_law 415 = .ok (.pop, 1) := by decide +kernel
theorem dL_law_416 : decode cL_law 416 = .ok (.goto 783, 3) := by decide +kernel
theorem dL_law_419 : decode cL_law 419 = .ok (.aload_n 1, 1) := by decide +kernel
theorem dL_law_420 : decode cL_law 420 = .ok (.invokevirtual 62, 3) := by decide +kernel
theorem dL_law_423 : decode cL_law 423 = .ok (.pop, 1) := by decide +kernel
theorem dL_law_424 : decode cL_law 424 = .ok (.aload_n 2, 1) := by decide +kernel
theorem dL_law_425 : decode cL_law 425 = .ok (.invokevirtual 66, 3) := by decide +kernel
theorem dL_law_428 : decode cL_law 428 = .ok (.pop, 1) := by decide +kernel
theorem dL_law_429 : decode cL_law 429 = .ok (.goto 770, 3) := by decide +kernel
theorem dL_law_432 : decode cL_law 432 = .ok (.aload_n 1, 1) := by decide +kernel
theorem dL_law_433 : decode cL_law 433 = .ok (.aload_n 0, 1) := by decide +kernel
theorem dL_law_434 : decode cL_law 434 = .ok (.iload 4, 2) := by decide +kernel
theorem dL_law_436 : decode cL_law 436 = .ok (.iconst 1, 1) := by decide +kernel
theorem dL_law_437 : decode cL_law 437 = .ok (.iadd, 1) := by decide +kernel
theorem dL_law_438 : decode cL_law 438 = .ok (.iaload, 1) := by decide +kernel
theorem dL_law_439 : decode cL_law 439 = .ok (.aload_n 0, 1) := by decide +kernel
theorem dL_law_440 : decode cL_law 440 = .ok (.iload 4, 2) := by decide +kernel
theorem dL_law_442 : decode cL_law 442 = .ok (.iconst 2, 1) := by decide +kernel
theorem dL_law_443 : decode cL_law 443 = .ok (.iadd, 1) := by decide +kernel
theorem dL_law_444 : decode cL_law 444 = .ok (.iaload, 1) := by decide +kernel
theorem dL_law_445 : decode cL_law 445 = .ok (.invokevirtual 67, 3) := by decide +kernel
theorem dL_law_448 : decode cL_law 448 = .ok (.pop, 1) := by decide +kernel
theorem dL_law_449 : decode cL_law 449 = .ok (.aload_n 2, 1) := by decide +kernel
theorem dL_law_450 : decode cL_law 450 = .ok (.aload_n 0, 1) := by decide +kernel
theorem dL_law_451 : decode cL_law 451 = .ok (.iload 4, 2) := by decide +kernel
theorem dL_law_453 : decode cL_law 453 = .ok (.iconst 1, 1) := by decide +kernel
theorem dL_law_454 : decode cL_law 454 = .ok (.iadd, 1) := by decide +kernel
theorem dL_law_455 : decode cL_law 455 = .ok (.iaload, 1) := by decide +kernel
theorem dL_law_456 : decode cL_law 456 = .ok (.aload_n 0, 1) := by decide +kernel
theorem dL_law_457 : decode cL_law 457 = .ok (.iload 4, 2) := by decide +kernel
theorem dL_law_459 : decode cL_law 459 = .ok (.iconst 2, 1) := by decide +kernel
theorem dL_law_460 : decode cL_law 460 = .ok (.iadd, 1) := by decide +kernel
theorem dL_law_461 : decode cL_law 461 = .ok (.iaload, 1) := by decide +kernel
theorem dL_law_462 : decode cL_law 462 = .ok (.invokevirtual 70, 3) := by decide +kernel
theorem dL_law_465 : decode cL_law 465 = .ok (.pop, 1) := by decide +kernel
theorem dL_law_466 : decode cL_law 466 = .ok (.goto 733, 3) := by decide +kernel
theorem dL_law_469 : decode cL_law 469 = .ok (.aload_n 1, 1) := by decide +kernel
theorem dL_law_470 : decode cL_law 470 = .ok (.aload_n 0, 1) := by decide +kernel
theorem dL_law_471 : decode cL_law 471 = .ok (.iload 4, 2) := by decide +kernel
theorem dL_law_473 : decode cL_law 473 = .ok (.iconst 1, 1) := by decide +kernel
theorem dL_law_474 : decode cL_law 474 = .ok (.iadd, 1) := by decide +kernel
theorem dL_law_475 : decode cL_law 475 = .ok (.iaload, 1) := by decide +kernel
theorem dL_law_476 : decode cL_law 476 = .ok (.aload_n 0, 1) := by decide +kernel
theorem dL_law_477 : decode cL_law 477 = .ok (.iload 4, 2) := by decide +kernel
theorem dL_law_479 : decode cL_law 479 = .ok (.iconst 2, 1) := by decide +kernel
theorem dL_law_480 : decode cL_law 480 = .ok (.iadd, 1) := by decide +kernel
theorem dL_law_481 : decode cL_law 481 = .ok (.iaload, 1) := by decide +kernel
theorem dL_law_482 : decode cL_law 482 = .ok (.invokevirtual 71, 3) := by decide +kernel
theorem dL_law_485 : decode cL_law 485 = .ok (.pop, 1) := by decide +kernel
theorem dL_law_486 : decode cL_law 486 = .ok (.aload_n 2, 1) := by decide +kernel
theorem dL_law_487 : decode cL_law 487 = .ok (.aload_n 0, 1) := by decide +kernel
theorem dL_law_488 : decode cL_law 488 = .ok (.iload 4, 2) := by decide +kernel
theorem dL_law_490 : decode cL_law 490 = .ok (.iconst 1, 1) := by decide +kernel
theorem dL_law_491 : decode cL_law 491 = .ok (.iadd, 1) := by decide +kernel
theorem dL_law_492 : decode cL_law 492 = .ok (.iaload, 1) := by decide +kernel
theorem dL_law_493 : decode cL_law 493 = .ok (.aload_n 0, 1) := by decide +kernel
theorem dL_law_494 : decode cL_law 494 = .ok (.iload 4, 2) := by decide +kernel
theorem dL_law_496 : decode cL_law 496 = .ok (.iconst 2, 1) := by decide +kernel
theorem dL_law_497 : decode cL_law 497 = .ok (.iadd, 1) := by decide +kernel
theorem dL_law_498 : decode cL_law 498 = .ok (.iaload, 1) := by decide +kernel
theorem dL_law_499 : decode cL_law 499 = .ok (.invokevirtual 74, 3) := by decide +kernel
theorem dL_law_502 : decode cL_law 502 = .ok (.pop, 1) := by decide +kernel
theorem dL_law_503 : decode cL_law 503 = .ok (.goto 696, 3) := by decide +kernel
theorem dL_law_506 : decode cL_law 506 = .ok (.aload_n 1, 1) := by decide +kernel
theorem dL_law_507 : decode cL_law 507 = .ok (.aload_n 0, 1) := by decide +kernel
theorem dL_law_508 : decode cL_law 508 = .ok (.iload 4, 2) := by decide +kernel
theorem dL_law_510 : decode cL_law 510 = .ok (.iconst 1, 1) := by decide +kernel
theorem dL_law_511 : decode cL_law 511 = .ok (.iadd, 1) := by decide +kernel
theorem dL_law_512 : decode cL_law 512 = .ok (.iaload, 1) := by decide +kernel
theorem dL_law_513 : decode cL_law 513 = .ok (.aload_n 0, 1) := by decide +kernel
theorem dL_law_514 : decode cL_law 514 = .ok (.iload 4, 2) := by decide +kernel
theorem dL_law_516 : decode cL_law 516 = .ok (.iconst 2, 1) := by decide +kernel
theorem dL_law_517 : decode cL_law 517 = .ok (.iadd, 1) := by decide +kernel
theorem dL_law_518 : decode cL_law 518 = .ok (.iaload, 1) := by decide +kernel
theorem dL_law_519 : decode cL_law 519 = .ok (.invokevirtual 75, 3) := by decide +kernel
theorem dL_law_522 : decode cL_law 522 = .ok (.pop, 1) := by decide +kernel
theorem dL_law_523 : decode cL_law 523 = .ok (.aload_n 2, 1) := by decide +kernel
theorem dL_law_524 : decode cL_law 524 = .ok (.aload_n 0, 1) := by decide +kernel
theorem dL_law_525 : decode cL_law 525 = .ok (.iload 4, 2) := by decide +kernel
theorem dL_law_527 : decode cL_law 527 = .ok (.iconst 1, 1) := by decide +kernel
theorem dL_law_528 : decode cL_law 528 = .ok (.iadd, 1) := by decide +kernel
theorem dL_law_529 : decode cL_law 529 = .ok (.iaload, 1) := by decide +kernel
theorem dL_law_530 : decode cL_law 530 = .ok (.aload_n 0, 1) := by decide +kernel
theorem dL_law_531 : decode cL_law 531 = .ok (.iload 4, 2) := by decide +kernel
theorem dL_law_533 : decode cL_law 533 = .ok (.iconst 2, 1) := by decide +kernel
theorem dL_law_534 : decode cL_law 534 = .ok (.iadd, 1) := by decide +kernel
theorem dL_law_535 : decode cL_law 535 = .ok (.iaload, 1) := by decide +kernel
theorem dL_law_536 : decode cL_law 536 = .ok (.invokevirtual 79, 3) := by decide +kernel
theorem dL_law_539 : decode cL_law 539 = .ok (.pop, 1) := by decide +kernel
theorem dL_law_540 : decode cL_law 540 = .ok (.goto 659, 3) := by decide +kernel
theorem dL_law_543 : decode cL_law 543 = .ok (.aload_n 1, 1) := by decide +kernel
theorem dL_law_544 : decode cL_law 544 = .ok (.aload_n 0, 1) := by decide +kernel
theorem dL_law_545 : decode cL_law 545 = .ok (.iload 4, 2) := by decide +kernel
theorem dL_law_547 : decode cL_law 547 = .ok (.iconst 1, 1) := by decide +kernel
theorem dL_law_548 : decode cL_law 548 = .ok (.iadd, 1) := by decide +kernel
theorem dL_law_549 : decode cL_law 549 = .ok (.iaload, 1) := by decide +kernel
theorem dL_law_550 : decode cL_law 550 = .ok (.aload_n 0, 1) := by decide +kernel
theorem dL_law_551 : decode cL_law 551 = .ok (.iload 4, 2) := by decide +kernel
theorem dL_law_553 : decode cL_law 553 = .ok (.iconst 2, 1) := by decide +kernel
theorem dL_law_554 : decode cL_law 554 = .ok (.iadd, 1) := by decide +kernel
theorem dL_law_555 : decode cL_law 555 = .ok (.iaload, 1) := by decide +kernel
theorem dL_law_556 : decode cL_law 556 = .ok (.i2l, 1) := by decide +kernel
theorem dL_law_557 : decode cL_law 557 = .ok (.bipush 32, 2) := by decide +kernel
theorem dL_law_559 : decode cL_law 559 = .ok (.lshl, 1) := by decide +kernel
theorem dL_law_560 : decode cL_law 560 = .ok (.aload_n 0, 1) := by decide +kernel
theorem dL_law_561 : decode cL_law 561 = .ok (.iload 4, 2) := by decide +kernel
theorem dL_law_563 : decode cL_law 563 = .ok (.iconst 3, 1) := by decide +kernel
theorem dL_law_564 : decode cL_law 564 = .ok (.iadd, 1) := by decide +kernel
theorem dL_law_565 : decode cL_law 565 = .ok (.iaload, 1) := by decide +kernel
theorem dL_law_566 : decode cL_law 566 = .ok (.i2l, 1) := by decide +kernel
theorem dL_law_567 : decode cL_law 567 = .ok (.ldc2_w 80, 3) := by decide +kernel
theorem dL_law_570 : decode cL_law 570 = .ok (.land, 1) := by decide +kernel
theorem dL_law_571 : decode cL_law 571 = .ok (.lor, 1) := by decide +kernel
theorem dL_law_572 : decode cL_law 572 = .ok (.aload_n 0, 1) := by decide +kernel
theorem dL_law_573 : decode cL_law 573 = .ok (.iload 4, 2) := by decide +kernel
theorem dL_law_575 : decode cL_law 575 = .ok (.iconst 4, 1) := by decide +kernel
theorem dL_law_576 : decode cL_law 576 = .ok (.iadd, 1) := by decide +kernel
theorem dL_law_577 : decode cL_law 577 = .ok (.iaload, 1) := by decide +kernel
theorem dL_law_578 : decode cL_law 578 = .ok (.aload_n 3, 1) := by decide +kernel
theorem dL_law_579 : decode cL_law 579 = .ok (.invokestatic 82, 3) := by decide +kernel
theorem dL_law_582 : decode cL_law 582 = .ok (.istore 5, 2) := by decide +kernel
theorem dL_law_584 : decode cL_law 584 = .ok (.aload_n 2, 1) := by decide +kernel
theorem dL_law_585 : decode cL_law 585 = .ok (.aload_n 0, 1) := by decide +kernel
theorem dL_law_586 : decode cL_law 586 = .ok (.iload 4, 2) := by decide +kernel
theorem dL_law_588 : decode cL_law 588 = .ok (.iconst 1, 1) := by decide +kernel
theorem dL_law_589 : decode cL_law 589 = .ok (.iadd, 1) := by decide +kernel
theorem dL_law_590 : decode cL_law 590 = .ok (.iaload, 1) := by decide +kernel
theorem dL_law_591 : decode cL_law 591 = .ok (.aload_n 0, 1) := by decide +kernel
theorem dL_law_592 : decode cL_law 592 = .ok (.iload 4, 2) := by decide +kernel
theorem dL_law_594 : decode cL_law 594 = .ok (.iconst 2, 1) := by decide +kernel
theorem dL_law_595 : decode cL_law 595 = .ok (.iadd, 1) := by decide +kernel
theorem dL_law_596 : decode cL_law 596 = .ok (.iaload, 1) := by decide +kernel
theorem dL_law_597 : decode cL_law 597 = .ok (.i2l, 1) := by decide +kernel
theorem dL_law_598 : decode cL_law 598 = .ok (.bipush 32, 2) := by decide +kernel
theorem dL_law_600 : decode cL_law 600 = .ok (.lshl, 1) := by decide +kernel
theorem dL_law_601 : decode cL_law 601 = .ok (.aload_n 0, 1) := by decide +kernel
theorem dL_law_602 : decode cL_law 602 = .ok (.iload 4, 2) := by decide +kernel
theorem dL_law_604 : decode cL_law 604 = .ok (.iconst 3, 1) := by decide +kernel
theorem dL_law_605 : decode cL_law 605 = .ok (.iadd, 1) := by decide +kernel
theorem dL_law_606 : decode cL_law 606 = .ok (.iaload, 1) := by decide +kernel
theorem dL_law_607 : decode cL_law 607 = .ok (.i2l, 1) := by decide +kernel
theorem dL_law_608 : decode cL_law 608 = .ok (.ldc2_w 80, 3) := by decide +kernel
theorem dL_law_611 : decode cL_law 611 = .ok (.land, 1) := by decide +kernel
theorem dL_law_612 : decode cL_law 612 = .ok (.lor, 1) := by decide +kernel
theorem dL_law_613 : decode cL_law 613 = .ok (.aload_n 0, 1) := by decide +kernel
theorem dL_law_614 : decode cL_law 614 = .ok (.iload 4, 2) := by decide +kernel
theorem dL_law_616 : decode cL_law 616 = .ok (.iconst 4, 1) := by decide +kernel
theorem dL_law_617 : decode cL_law 617 = .ok (.iadd, 1) := by decide +kernel
theorem dL_law_618 : decode cL_law 618 = .ok (.iaload, 1) := by decide +kernel
theorem dL_law_619 : decode cL_law 619 = .ok (.invokevirtual 87, 3) := by decide +kernel
theorem dL_law_622 : decode cL_law 622 = .ok (.istore 6, 2) := by decide +kernel
theorem dL_law_624 : decode cL_law 624 = .ok (.goto 575, 3) := by decide +kernel
theorem dL_law_627 : decode cL_law 627 = .ok (.aload_n 1, 1) := by decide +kernel
theorem dL_law_628 : decode cL_law 628 = .ok (.aload_n 0, 1) := by decide +kernel
theorem dL_law_629 : decode cL_law 629 = .ok (.iload 4, 2) := by decide +kernel
theorem dL_law_631 : decode cL_law 631 = .ok (.iconst 1, 1) := by decide +kernel
theorem dL_law_632 : decode cL_law 632 = .ok (.iadd, 1) := by decide +kernel
theorem dL_law_633 : decode cL_law 633 = .ok (.iaload, 1) := by decide +kernel
theorem dL_law_634 : decode cL_law 634 = .ok (.aload_n 0, 1) := by decide +kernel
theorem dL_law_635 : decode cL_law 635 = .ok (.iload 4, 2) := by decide +kernel
theorem dL_law_637 : decode cL_law 637 = .ok (.iconst 2, 1) := by decide +kernel
theorem dL_law_638 : decode cL_law 638 = .ok (.iadd, 1) := by decide +kernel
theorem dL_law_639 : decode cL_law 639 = .ok (.iaload, 1) := by decide +kernel
theorem dL_law_640 : decode cL_law 640 = .ok (.i2l, 1) := by decide +kernel
theorem dL_law_641 : decode cL_law 641 = .ok (.bipush 32, 2) := by decide +kernel
theorem dL_law_643 : decode cL_law 643 = .ok (.lshl, 1) := by decide +kernel
theorem dL_law_644 : decode cL_law 644 = .ok (.aload_n 0, 1) := by decide +kernel
theorem dL_law_645 : decode cL_law 645 = .ok (.iload 4, 2) := by decide +kernel
theorem dL_law_647 : decode cL_law 647 = .ok (.iconst 3, 1) := by decide +kernel
theorem dL_law_648 : decode cL_law 648 = .ok (.iadd, 1) := by decide +kernel
theorem dL_law_649 : decode cL_law 649 = .ok (.iaload, 1) := by decide +kernel
theorem dL_law_650 : decode cL_law 650 = .ok (.i2l, 1) := by decide +kernel
theorem dL_law_651 : decode cL_law 651 = .ok (.ldc2_w 80, 3) := by decide +kernel
theorem dL_law_654 : decode cL_law 654 = .ok (.land, 1) := by decide +kernel
theorem dL_law_655 : decode cL_law 655 = .ok (.lor, 1) := by decide +kernel
theorem dL_law_656 : decode cL_law 656 = .ok (.aload_n 0, 1) := by decide +kernel
theorem dL_law_657 : decode cL_law 657 = .ok (.iload 4, 2) := by decide +kernel
theorem dL_law_659 : decode cL_law 659 = .ok (.iconst 4, 1) := by decide +kernel
theorem dL_law_660 : decode cL_law 660 = .ok (.iadd, 1) := by decide +kernel
theorem dL_law_661 : decode cL_law 661 = .ok (.iaload, 1) := by decide +kernel
theorem dL_law_662 : decode cL_law 662 = .ok (.aload_n 3, 1) := by decide +kernel
theorem dL_law_663 : decode cL_law 663 = .ok (.invokestatic 88, 3) := by decide +kernel
theorem dL_law_666 : decode cL_law 666 = .ok (.istore 5, 2) := by decide +kernel
theorem dL_law_668 : decode cL_law 668 = .ok (.aload_n 2, 1) := by decide +kernel
theorem dL_law_669 : decode cL_law 669 = .ok (.aload_n 0, 1) := by decide +kernel
theorem dL_law_670 : decode cL_law 670 = .ok (.iload 4, 2) := by decide +kernel
theorem dL_law_672 : decode cL_law 672 = .ok (.iconst 1, 1) := by decide +kernel
theorem dL_law_673 : decode cL_law 673 = .ok (.iadd, 1) := by decide +kernel
theorem dL_law_674 : decode cL_law 674 = .ok (.iaload, 1) := by decide +kernel
theorem dL_law_675 : decode cL_law 675 = .ok (.aload_n 0, 1) := by decide +kernel
theorem dL_law_676 : decode cL_law 676 = .ok (.iload 4, 2) := by decide +kernel
theorem dL_law_678 : decode cL_law 678 = .ok (.iconst 2, 1) := by decide +kernel
theorem dL_law_679 : decode cL_law 679 = .ok (.iadd, 1) := by decide +kernel
theorem dL_law_680 : decode cL_law 680 = .ok (.iaload, 1) := by decide +kernel
theorem dL_law_681 : decode cL_law 681 = .ok (.i2l, 1) := by decide +kernel
theorem dL_law_682 : decode cL_law 682 = .ok (.bipush 32, 2) := by decide +kernel
theorem dL_law_684 : decode cL_law 684 = .ok (.lshl, 1) := by decide +kernel
theorem dL_law_685 : decode cL_law 685 = .ok (.aload_n 0, 1) := by decide +kernel
theorem dL_law_686 : decode cL_law 686 = .ok (.iload 4, 2) := by decide +kernel
theorem dL_law_688 : decode cL_law 688 = .ok (.iconst 3, 1) := by decide +kernel
theorem dL_law_689 : decode cL_law 689 = .ok (.iadd, 1) := by decide +kernel
theorem dL_law_690 : decode cL_law 690 = .ok (.iaload, 1) := by decide +kernel
theorem dL_law_691 : decode cL_law 691 = .ok (.i2l, 1) := by decide +kernel
theorem dL_law_692 : decode cL_law 692 = .ok (.ldc2_w 80, 3) := by decide +kernel
theorem dL_law_695 : decode cL_law 695 = .ok (.land, 1) := by decide +kernel
theorem dL_law_696 : decode cL_law 696 = .ok (.lor, 1) := by decide +kernel
theorem dL_law_697 : decode cL_law 697 = .ok (.aload_n 0, 1) := by decide +kernel
theorem dL_law_698 : decode cL_law 698 = .ok (.iload 4, 2) := by decide +kernel
theorem dL_law_700 : decode cL_law 700 = .ok (.iconst 4, 1) := by decide +kernel
theorem dL_law_701 : decode cL_law 701 = .ok (.iadd, 1) := by decide +kernel
theorem dL_law_702 : decode cL_law 702 = .ok (.iaload, 1) := by decide +kernel
theorem dL_law_703 : decode cL_law 703 = .ok (.invokevirtual 90, 3) := by decide +kernel
theorem dL_law_706 : decode cL_law 706 = .ok (.istore 6, 2) := by decide +kernel
theorem dL_law_708 : decode cL_law 708 = .ok (.goto 491, 3) := by decide +kernel
theorem dL_law_711 : decode cL_law 711 = .ok (.aload_n 1, 1) := by decide +kernel
theorem dL_law_712 : decode cL_law 712 = .ok (.aload_n 0, 1) := by decide +kernel
theorem dL_law_713 : decode cL_law 713 = .ok (.iload 4, 2) := by decide +kernel
theorem dL_law_715 : decode cL_law 715 = .ok (.iconst 1, 1) := by decide +kernel
theorem dL_law_716 : decode cL_law 716 = .ok (.iadd, 1) := by decide +kernel
theorem dL_law_717 : decode cL_law 717 = .ok (.iaload, 1) := by decide +kernel
theorem dL_law_718 : decode cL_law 718 = .ok (.aload_n 0, 1) := by decide +kernel
theorem dL_law_719 : decode cL_law 719 = .ok (.iload 4, 2) := by decide +kernel
theorem dL_law_721 : decode cL_law 721 = .ok (.iconst 2, 1) := by decide +kernel
theorem dL_law_722 : decode cL_law 722 = .ok (.iadd, 1) := by decide +kernel
theorem dL_law_723 : decode cL_law 723 = .ok (.iaload, 1) := by decide +kernel
theorem dL_law_724 : decode cL_law 724 = .ok (.invokevirtual 91, 3) := by decide +kernel
theorem dL_law_727 : decode cL_law 727 = .ok (.pop, 1) := by decide +kernel
theorem dL_law_728 : decode cL_law 728 = .ok (.aload_n 2, 1) := by decide +kernel
theorem dL_law_729 : decode cL_law 729 = .ok (.aload_n 0, 1) := by decide +kernel
theorem dL_law_730 : decode cL_law 730 = .ok (.iload 4, 2) := by decide +kernel
theorem dL_law_732 : decode cL_law 732 = .ok (.iconst 1, 1) := by decide +kernel
theorem dL_law_733 : decode cL_law 733 = .ok (.iadd, 1) := by decide +kernel
theorem dL_law_734 : decode cL_law 734 = .ok (.iaload, 1) := by decide +kernel
theorem dL_law_735 : decode cL_law 735 = .ok (.aload_n 0, 1) := by decide +kernel
theorem dL_law_736 : decode cL_law 736 = .ok (.iload 4, 2) := by decide +kernel
theorem dL_law_738 : decode cL_law 738 = .ok (.iconst 2, 1) := by decide +kernel
theorem dL_law_739 : decode cL_law 739 = .ok (.iadd, 1) := by decide +kernel
theorem dL_law_740 : decode cL_law 740 = .ok (.iaload, 1) := by decide +kernel
theorem dL_law_741 : decode cL_law 741 = .ok (.invokevirtual 94, 3) := by decide +kernel
theorem dL_law_744 : decode cL_law 744 = .ok (.pop, 1) := by decide +kernel
theorem dL_law_745 : decode cL_law 745 = .ok (.goto 454, 3) := by decide +kernel
theorem dL_law_748 : decode cL_law 748 = .ok (.aload_n 1, 1) := by decide +kernel
theorem dL_law_749 : decode cL_law 749 = .ok (.aload_n 0, 1) := by decide +kernel
theorem dL_law_750 : decode cL_law 750 = .ok (.iload 4, 2) := by decide +kernel
theorem dL_law_752 : decode cL_law 752 = .ok (.iconst 1, 1) := by decide +kernel
theorem dL_law_753 : decode cL_law 753 = .ok (.iadd, 1) := by decide +kernel
theorem dL_law_754 : decode cL_law 754 = .ok (.iaload, 1) := by decide +kernel
theorem dL_law_755 : decode cL_law 755 = .ok (.aload_n 0, 1) := by decide +kernel
theorem dL_law_756 : decode cL_law 756 = .ok (.iload 4, 2) := by decide +kernel
theorem dL_law_758 : decode cL_law 758 = .ok (.iconst 2, 1) := by decide +kernel
theorem dL_law_759 : decode cL_law 759 = .ok (.iadd, 1) := by decide +kernel
theorem dL_law_760 : decode cL_law 760 = .ok (.iaload, 1) := by decide +kernel
theorem dL_law_761 : decode cL_law 761 = .ok (.aload_n 0, 1) := by decide +kernel
theorem dL_law_762 : decode cL_law 762 = .ok (.iload 4, 2) := by decide +kernel
theorem dL_law_764 : decode cL_law 764 = .ok (.iconst 3, 1) := by decide +kernel
theorem dL_law_765 : decode cL_law 765 = .ok (.iadd, 1) := by decide +kernel
theorem dL_law_766 : decode cL_law 766 = .ok (.iaload, 1) := by decide +kernel
theorem dL_law_767 : decode cL_law 767 = .ok (.invokevirtual 95, 3) := by decide +kernel
theorem dL_law_770 : decode cL_law 770 = .ok (.pop, 1) := by decide +kernel
theorem dL_law_771 : decode cL_law 771 = .ok (.aload_n 2, 1) := by decide +kernel
theorem dL_law_772 : decode cL_law 772 = .ok (.aload_n 0, 1) := by decide +kernel
theorem dL_law_773 : decode cL_law 773 = .ok (.iload 4, 2) := by decide +kernel
theorem dL_law_775 : decode cL_law 775 = .ok (.iconst 1, 1) := by decide +kernel
theorem dL_law_776 : decode cL_law 776 = .ok (.iadd, 1) := by decide +kernel
theorem dL_law_777 : decode cL_law 777 = .ok (.iaload, 1) := by decide +kernel
theorem dL_law_778 : decode cL_law 778 = .ok (.aload_n 0, 1) := by decide +kernel
theorem dL_law_779 : decode cL_law 779 = .ok (.iload 4, 2) := by decide +kernel
theorem dL_law_781 : decode cL_law 781 = .ok (.iconst 2, 1) := by decide +kernel
theorem dL_law_782 : decode cL_law 782 = .ok (.iadd, 1) := by decide +kernel
theorem dL_law_783 : decode cL_law 783 = .ok (.iaload, 1) := by decide +kernel
theorem dL_law_784 : decode cL_law 784 = .ok (.aload_n 0, 1) := by decide +kernel
theorem dL_law_785 : decode cL_law 785 = .ok (.iload 4, 2) := by decide +kernel
theorem dL_law_787 : decode cL_law 787 = .ok (.iconst 3, 1) := by decide +kernel
theorem dL_law_788 : decode cL_law 788 = .ok (.iadd, 1) := by decide +kernel
theorem dL_law_789 : decode cL_law 789 = .ok (.iaload, 1) := by decide +kernel
theorem dL_law_790 : decode cL_law 790 = .ok (.invokevirtual 99, 3) := by decide +kernel
theorem dL_law_793 : decode cL_law 793 = .ok (.pop, 1) := by decide +kernel
theorem dL_law_794 : decode cL_law 794 = .ok (.goto 405, 3) := by decide +kernel
theorem dL_law_797 : decode cL_law 797 = .ok (.aload_n 1, 1) := by decide +kernel
theorem dL_law_798 : decode cL_law 798 = .ok (.invokevirtual 100, 3) := by decide +kernel
theorem dL_law_801 : decode cL_law 801 = .ok (.pop2, 1) := by decide +kernel
theorem dL_law_802 : decode cL_law 802 = .ok (.aload_n 2, 1) := by decide +kernel
theorem dL_law_803 : decode cL_law 803 = .ok (.invokevirtual 104, 3) := by decide +kernel
theorem dL_law_806 : decode cL_law 806 = .ok (.pop2, 1) := by decide +kernel
theorem dL_law_807 : decode cL_law 807 = .ok (.goto 392, 3) := by decide +kernel
theorem dL_law_810 : decode cL_law 810 = .ok (.aload_n 1, 1) := by decide +kernel
theorem dL_law_811 : decode cL_law 811 = .ok (.invokevirtual 105, 3) := by decide +kernel
theorem dL_law_814 : decode cL_law 814 = .ok (.pop, 1) := by decide +kernel
theorem dL_law_815 : decode cL_law 815 = .ok (.aload_n 2, 1) := by decide +kernel
theorem dL_law_816 : decode cL_law 816 = .ok (.invokevirtual 109, 3) := by decide +kernel
theorem dL_law_819 : decode cL_law 819 = .ok (.pop, 1) := by decide +kernel
theorem dL_law_820 : decode cL_law 820 = .ok (.goto 379, 3) := by decide +kernel
theorem dL_law_823 : decode cL_law 823 = .ok (.aload_n 1, 1) := by decide +kernel
theorem dL_law_824 : decode cL_law 824 = .ok (.aload_n 0, 1) := by decide +kernel
theorem dL_law_825 : decode cL_law 825 = .ok (.iload 4, 2) := by decide +kernel
theorem dL_law_827 : decode cL_law 827 = .ok (.iconst 1, 1) := by decide +kernel
theorem dL_law_828 : decode cL_law 828 = .ok (.iadd, 1) := by decide +kernel
theorem dL_law_829 : decode cL_law 829 = .ok (.iaload, 1) := by decide +kernel
theorem dL_law_830 : decode cL_law 830 = .ok (.aload_n 0, 1) := by decide +kernel
theorem dL_law_831 : decode cL_law 831 = .ok (.iload 4, 2) := by decide +kernel
theorem dL_law_833 : decode cL_law 833 = .ok (.iconst 2, 1) := by decide +kernel
theorem dL_law_834 : decode cL_law 834 = .ok (.iadd, 1) := by decide +kernel
theorem dL_law_835 : decode cL_law 835 = .ok (.iaload, 1) := by decide +kernel
theorem dL_law_836 : decode cL_law 836 = .ok (.aload_n 0, 1) := by decide +kernel
theorem dL_law_837 : decode cL_law 837 = .ok (.iload 4, 2) := by decide +kernel
theorem dL_law_839 : decode cL_law 839 = .ok (.iconst 3, 1) := by decide +kernel
theorem dL_law_840 : decode cL_law 840 = .ok (.iadd, 1) := by decide +kernel
theorem dL_law_841 : decode cL_law 841 = .ok (.iaload, 1) := by decide +kernel
theorem dL_law_842 : decode cL_law 842 = .ok (.i2l, 1) := by decide +kernel
theorem dL_law_843 : decode cL_law 843 = .ok (.bipush 32, 2) := by decide +kernel
theorem dL_law_845 : decode cL_law 845 = .ok (.lshl, 1) := by decide +kernel
theorem dL_law_846 : decode cL_law 846 = .ok (.aload_n 0, 1) := by decide +kernel
theorem dL_law_847 : decode cL_law 847 = .ok (.iload 4, 2) := by decide +kernel
theorem dL_law_849 : decode cL_law 849 = .ok (.iconst 4, 1) := by decide +kernel
theorem dL_law_850 : decode cL_law 850 = .ok (.iadd, 1) := by decide +kernel
theorem dL_law_851 : decode cL_law 851 = .ok (.iaload, 1) := by decide +kernel
theorem dL_law_852 : decode cL_law 852 = .ok (.i2l, 1) := by decide +kernel
theorem dL_law_853 : decode cL_law 853 = .ok (.ldc2_w 80, 3) := by decide +kernel
theorem dL_law_856 : decode cL_law 856 = .ok (.land, 1) := by decide +kernel
theorem dL_law_857 : decode cL_law 857 = .ok (.lor, 1) := by decide +kernel
theorem dL_law_858 : decode cL_law 858 = .ok (.aload_n 0, 1) := by decide +kernel
theorem dL_law_859 : decode cL_law 859 = .ok (.iload 4, 2) := by decide +kernel
theorem dL_law_861 : decode cL_law 861 = .ok (.iconst 5, 1) := by decide +kernel
theorem dL_law_862 : decode cL_law 862 = .ok (.iadd, 1) := by decide +kernel
theorem dL_law_863 : decode cL_law 863 = .ok (.iaload, 1) := by decide +kernel
theorem dL_law_864 : decode cL_law 864 = .ok (.aload_n 0, 1) := by decide +kernel
theorem dL_law_865 : decode cL_law 865 = .ok (.iload 4, 2) := by decide +kernel
theorem dL_law_867 : decode cL_law 867 = .ok (.bipush 6, 2) := by decide +kernel
theorem dL_law_869 : decode cL_law 869 = .ok (.iadd, 1) := by decide +kernel
theorem dL_law_870 : decode cL_law 870 = .ok (.iaload, 1) := by decide +kernel
theorem dL_law_871 : decode cL_law 871 = .ok (.i2l, 1) := by decide +kernel
theorem dL_law_872 : decode cL_law 872 = .ok (.bipush 32, 2) := by decide +kernel
theorem dL_law_874 : decode cL_law 874 = .ok (.lshl, 1) := by decide +kernel
theorem dL_law_875 : decode cL_law 875 = .ok (.aload_n 0, 1) := by decide +kernel
theorem dL_law_876 : decode cL_law 876 = .ok (.iload 4, 2) := by decide +kernel
theorem dL_law_878 : decode cL_law 878 = .ok (.bipush 7, 2) := by decide +kernel
theorem dL_law_880 : decode cL_law 880 = .ok (.iadd, 1) := by decide +kernel
theorem dL_law_881 : decode cL_law 881 = .ok (.iaload, 1) := by decide +kernel
theorem dL_law_882 : decode cL_law 882 = .ok (.i2l, 1) := by decide +kernel
theorem dL_law_883 : decode cL_law 883 = .ok (.ldc2_w 80, 3) := by decide +kernel
theorem dL_law_886 : decode cL_law 886 = .ok (.land, 1) := by decide +kernel
theorem dL_law_887 : decode cL_law 887 = .ok (.lor, 1) := by decide +kernel
theorem dL_law_888 : decode cL_law 888 = .ok (.aload_n 0, 1) := by decide +kernel
theorem dL_law_889 : decode cL_law 889 = .ok (.iload 4, 2) := by decide +kernel
theorem dL_law_891 : decode cL_law 891 = .ok (.bipush 8, 2) := by decide +kernel
theorem dL_law_893 : decode cL_law 893 = .ok (.iadd, 1) := by decide +kernel
theorem dL_law_894 : decode cL_law 894 = .ok (.iaload, 1) := by decide +kernel
theorem dL_law_895 : decode cL_law 895 = .ok (.invokevirtual 110, 3) := by decide +kernel
theorem dL_law_898 : decode cL_law 898 = .ok (.aload_n 2, 1) := by decide +kernel
theorem dL_law_899 : decode cL_law 899 = .ok (.aload_n 0, 1) := by decide +kernel
theorem dL_law_900 : decode cL_law 900 = .ok (.iload 4, 2) := by decide +kernel
theorem dL_law_902 : decode cL_law 902 = .ok (.iconst 1, 1) := by decide +kernel
theorem dL_law_903 : decode cL_law 903 = .ok (.iadd, 1) := by decide +kernel
theorem dL_law_904 : decode cL_law 904 = .ok (.iaload, 1) := by decide +kernel
theorem dL_law_905 : decode cL_law 905 = .ok (.aload_n 0, 1) := by decide +kernel
theorem dL_law_906 : decode cL_law 906 = .ok (.iload 4, 2) := by decide +kernel
theorem dL_law_908 : decode cL_law 908 = .ok (.iconst 2, 1) := by decide +kernel
theorem dL_law_909 : decode cL_law 909 = .ok (.iadd, 1) := by decide +kernel
theorem dL_law_910 : decode cL_law 910 = .ok (.iaload, 1) := by decide +kernel
theorem dL_law_911 : decode cL_law 911 = .ok (.aload_n 0, 1) := by decide +kernel
theorem dL_law_912 : decode cL_law 912 = .ok (.iload 4, 2) := by decide +kernel
theorem dL_law_914 : decode cL_law 914 = .ok (.iconst 3, 1) := by decide +kernel
theorem dL_law_915 : decode cL_law 915 = .ok (.iadd, 1) := by decide +kernel
theorem dL_law_916 : decode cL_law 916 = .ok (.iaload, 1) := by decide +kernel
theorem dL_law_917 : decode cL_law 917 = .ok (.i2l, 1) := by decide +kernel
theorem dL_law_918 : decode cL_law 918 = .ok (.bipush 32, 2) := by decide +kernel
theorem dL_law_920 : decode cL_law 920 = .ok (.lshl, 1) := by decide +kernel
theorem dL_law_921 : decode cL_law 921 = .ok (.aload_n 0, 1) := by decide +kernel
theorem dL_law_922 : decode cL_law 922 = .ok (.iload 4, 2) := by decide +kernel
theorem dL_law_924 : decode cL_law 924 = .ok (.iconst 4, 1) := by decide +kernel
theorem dL_law_925 : decode cL_law 925 = .ok (.iadd, 1) := by decide +kernel
theorem dL_law_926 : decode cL_law 926 = .ok (.iaload, 1) := by decide +kernel
theorem dL_law_927 : decode cL_law 927 = .ok (.i2l, 1) := by decide +kernel
theorem dL_law_928 : decode cL_law 928 = .ok (.ldc2_w 80, 3) := by decide +kernel
theorem dL_law_931 : decode cL_law 931 = .ok (.land, 1) := by decide +kernel
theorem dL_law_932 : decode cL_law 932 = .ok (.lor, 1) := by decide +kernel
theorem dL_law_933 : decode cL_law 933 = .ok (.aload_n 0, 1) := by decide +kernel
theorem dL_law_934 : decode cL_law 934 = .ok (.iload 4, 2) := by decide +kernel
theorem dL_law_936 : decode cL_law 936 = .ok (.iconst 5, 1) := by decide +kernel
theorem dL_law_937 : decode cL_law 937 = .ok (.iadd, 1) := by decide +kernel
theorem dL_law_938 : decode cL_law 938 = .ok (.iaload, 1) := by decide +kernel
theorem dL_law_939 : decode cL_law 939 = .ok (.aload_n 0, 1) := by decide +kernel
theorem dL_law_940 : decode cL_law 940 = .ok (.iload 4, 2) := by decide +kernel
theorem dL_law_942 : decode cL_law 942 = .ok (.bipush 6, 2) := by decide +kernel
theorem dL_law_944 : decode cL_law 944 = .ok (.iadd, 1) := by decide +kernel
theorem dL_law_945 : decode cL_law 945 = .ok (.iaload, 1) := by decide +kernel
theorem dL_law_946 : decode cL_law 946 = .ok (.i2l, 1) := by decide +kernel
theorem dL_law_947 : decode cL_law 947 = .ok (.bipush 32, 2) := by decide +kernel
theorem dL_law_949 : decode cL_law 949 = .ok (.lshl, 1) := by decide +kernel
theorem dL_law_950 : decode cL_law 950 = .ok (.aload_n 0, 1) := by decide +kernel
theorem dL_law_951 : decode cL_law 951 = .ok (.iload 4, 2) := by decide +kernel
theorem dL_law_953 : decode cL_law 953 = .ok (.bipush 7, 2) := by decide +kernel
theorem dL_law_955 : decode cL_law 955 = .ok (.iadd, 1) := by decide +kernel
theorem dL_law_956 : decode cL_law 956 = .ok (.iaload, 1) := by decide +kernel
theorem dL_law_957 : decode cL_law 957 = .ok (.i2l, 1) := by decide +kernel
theorem dL_law_958 : decode cL_law 958 = .ok (.ldc2_w 80, 3) := by decide +kernel
theorem dL_law_961 : decode cL_law 961 = .ok (.land, 1) := by decide +kernel
theorem dL_law_962 : decode cL_law 962 = .ok (.lor, 1) := by decide +kernel
theorem dL_law_963 : decode cL_law 963 = .ok (.aload_n 0, 1) := by decide +kernel
theorem dL_law_964 : decode cL_law 964 = .ok (.iload 4, 2) := by decide +kernel
theorem dL_law_966 : decode cL_law 966 = .ok (.bipush 8, 2) := by decide +kernel
theorem dL_law_968 : decode cL_law 968 = .ok (.iadd, 1) := by decide +kernel
theorem dL_law_969 : decode cL_law 969 = .ok (.iaload, 1) := by decide +kernel
theorem dL_law_970 : decode cL_law 970 = .ok (.invokevirtual 114, 3) := by decide +kernel
theorem dL_law_973 : decode cL_law 973 = .ok (.if_icmp .eq 226, 3) := by decide +kernel
theorem dL_law_976 : decode cL_law 976 = .ok (.iconst 0, 1) := by decide +kernel
theorem dL_law_977 : decode cL_law 977 = .ok (.ireturn, 1) := by decide +kernel
theorem dL_law_978 : decode cL_law 978 = .ok (.aload_n 1, 1) := by decide +kernel
theorem dL_law_979 : decode cL_law 979 = .ok (.aload_n 0, 1) := by decide +kernel
theorem dL_law_980 : decode cL_law 980 = .ok (.iload 4, 2) := by decide +kernel
theorem dL_law_982 : decode cL_law 982 = .ok (.iconst 1, 1) := by decide +kernel
theorem dL_law_983 : decode cL_law 983 = .ok (.iadd, 1) := by decide +kernel
theorem dL_law_984 : decode cL_law 984 = .ok (.iaload, 1) := by decide +kernel
theorem dL_law_985 : decode cL_law 985 = .ok (.invokevirtual 115, 3) := by decide +kernel
theorem dL_law_988 : decode cL_law 988 = .ok (.pop, 1) := by decide +kernel
theorem dL_law_989 : decode cL_law 989 = .ok (.aload_n 2, 1) := by decide +kernel
theorem dL_law_990 : decode cL_law 990 = .ok (.aload_n 0, 1) := by decide +kernel
theorem dL_law_991 : decode cL_law 991 = .ok (.iload 4, 2) := by decide +kernel
theorem dL_law_993 : decode cL_law 993 = .ok (.iconst 1, 1) := by decide +kernel
theorem dL_law_994 : decode cL_law 994 = .ok (.iadd, 1) := by decide +kernel
theorem dL_law_995 : decode cL_law 995 = .ok (.iaload, 1) := by decide +kernel
theorem dL_law_996 : decode cL_law 996 = .ok (.invokevirtual 118, 3) := by decide +kernel
theorem dL_law_999 : decode cL_law 999 = .ok (.pop, 1) := by decide +kernel
theorem dL_law_1000 : decode cL_law 1000 = .ok (.goto 199, 3) := by decide +kernel
theorem dL_law_1003 : decode cL_law 1003 = .ok (.aload_n 1, 1) := by decide +kernel
theorem dL_law_1004 : decode cL_law 1004 = .ok (.aload_n 0, 1) := by decide +kernel
theorem dL_law_1005 : decode cL_law 1005 = .ok (.iload 4, 2) := by decide +kernel
theorem dL_law_1007 : decode cL_law 1007 = .ok (.iconst 1, 1) := by decide +kernel
theorem dL_law_1008 : decode cL_law 1008 = .ok (.iadd, 1) := by decide +kernel
theorem dL_law_1009 : decode cL_law 1009 = .ok (.iaload, 1) := by decide +kernel
theorem dL_law_1010 : decode cL_law 1010 = .ok (.invokevirtual 119, 3) := by decide +kernel
theorem dL_law_1013 : decode cL_law 1013 = .ok (.pop, 1) := by decide +kernel
theorem dL_law_1014 : decode cL_law 1014 = .ok (.aload_n 2, 1) := by decide +kernel
theorem dL_law_1015 : decode cL_law 1015 = .ok (.aload_n 0, 1) := by decide +kernel
theorem dL_law_1016 : decode cL_law 1016 = .ok (.iload 4, 2) := by decide +kernel
theorem dL_law_1018 : decode cL_law 1018 = .ok (.iconst 1, 1) := by decide +kernel
theorem dL_law_1019 : decode cL_law 1019 = .ok (.iadd, 1) := by decide +kernel
theorem dL_law_1020 : decode cL_law 1020 = .ok (.iaload, 1) := by decide +kernel
theorem dL_law_1021 : decode cL_law 1021 = .ok (.invokevirtual 122, 3) := by decide +kernel
theorem dL_law_1024 : decode cL_law 1024 = .ok (.pop, 1) := by decide +kernel
theorem dL_law_1025 : decode cL_law 1025 = .ok (.goto 174, 3) := by decide +kernel
theorem dL_law_1028 : decode cL_law 1028 = .ok (.aload_n 1, 1) := by decide +kernel
theorem dL_law_1029 : decode cL_law 1029 = .ok (.aload_n 0, 1) := by decide +kernel
theorem dL_law_1030 : decode cL_law 1030 = .ok (.iload 4, 2) := by decide +kernel
theorem dL_law_1032 : decode cL_law 1032 = .ok (.iconst 1, 1) := by decide +kernel
theorem dL_law_1033 : decode cL_law 1033 = .ok (.iadd, 1) := by decide +kernel
theorem dL_law_1034 : decode cL_law 1034 = .ok (.iaload, 1) := by decide +kernel
theorem dL_law_1035 : decode cL_law 1035 = .ok (.i2l, 1) := by decide +kernel
theorem dL_law_1036 : decode cL_law 1036 = .ok (.bipush 32, 2) := by decide +kernel
theorem dL_law_1038 : decode cL_law 1038 = .ok (.lshl, 1) := by decide +kernel
theorem dL_law_1039 : decode cL_law 1039 = .ok (.aload_n 0, 1) := by decide +kernel
theorem dL_law_1040 : decode cL_law 1040 = .ok (.iload 4, 2) := by decide +kernel
theorem dL_law_1042 : decode cL_law 1042 = .ok (.iconst 2, 1) := by decide +kernel
theorem dL_law_1043 : decode cL_law 1043 = .ok (.iadd, 1) := by decide +kernel
theorem dL_law_1044 : decode cL_law 1044 = .ok (.iaload, 1) := by decide +kernel
theorem dL_law_1045 : decode cL_law 1045 = .ok (.i2l, 1) := by decide +kernel
theorem dL_law_1046 : decode cL_law 1046 = .ok (.ldc2_w 80, 3) := by decide +kernel
theorem dL_law_1049 : decode cL_law 1049 = .ok (.land, 1) := by decide +kernel
theorem dL_law_1050 : decode cL_law 1050 = .ok (.lor, 1) := by decide +kernel
theorem dL_law_1051 : decode cL_law 1051 = .ok (.aload_n 0, 1) := by decide +kernel
theorem dL_law_1052 : decode cL_law 1052 = .ok (.iload 4, 2) := by decide +kernel
theorem dL_law_1054 : decode cL_law 1054 = .ok (.iconst 3, 1) := by decide +kernel
theorem dL_law_1055 : decode cL_law 1055 = .ok (.iadd, 1) := by decide +kernel
theorem dL_law_1056 : decode cL_law 1056 = .ok (.iaload, 1) := by decide +kernel
theorem dL_law_1057 : decode cL_law 1057 = .ok (.invokevirtual 123, 3) := by decide +kernel
theorem dL_law_1060 : decode cL_law 1060 = .ok (.pop, 1) := by decide +kernel
theorem dL_law_1061 : decode cL_law 1061 = .ok (.aload_n 2, 1) := by decide +kernel
theorem dL_law_1062 : decode cL_law 1062 = .ok (.aload_n 0, 1) := by decide +kernel
theorem dL_law_1063 : decode cL_law 1063 = .ok (.iload 4, 2) := by decide +kernel
theorem dL_law_1065 : decode cL_law 1065 = .ok (.iconst 1, 1) := by decide +kernel
theorem dL_law_1066 : decode cL_law 1066 = .ok (.iadd, 1) := by decide +kernel
theorem dL_law_1067 : decode cL_law 1067 = .ok (.iaload, 1) := by decide +kernel
theorem dL_law_1068 : decode cL_law 1068 = .ok (.i2l, 1) := by decide +kernel
theorem dL_law_1069 : decode cL_law 1069 = .ok (.bipush 32, 2) := by decide +kernel
theorem dL_law_1071 : decode cL_law 1071 = .ok (.lshl, 1) := by decide +kernel
theorem dL_law_1072 : decode cL_law 1072 = .ok (.aload_n 0, 1) := by decide +kernel
theorem dL_law_1073 : decode cL_law 1073 = .ok (.iload 4, 2) := by decide +kernel
theorem dL_law_1075 : decode cL_law 1075 = .ok (.iconst 2, 1) := by decide +kernel
theorem dL_law_1076 : decode cL_law 1076 = .ok (.iadd, 1) := by decide +kernel
theorem dL_law_1077 : decode cL_law 1077 = .ok (.iaload, 1) := by decide +kernel
theorem dL_law_1078 : decode cL_law 1078 = .ok (.i2l, 1) := by decide +kernel
theorem dL_law_1079 : decode cL_law 1079 = .ok (.ldc2_w 80, 3) := by decide +kernel
theorem dL_law_1082 : decode cL_law 1082 = .ok (.land, 1) := by decide +kernel
theorem dL_law_1083 : decode cL_law 1083 = .ok (.lor, 1) := by decide +kernel
theorem dL_law_1084 : decode cL_law 1084 = .ok (.aload_n 0, 1) := by decide +kernel
theorem dL_law_1085 : decode cL_law 1085 = .ok (.iload 4, 2) := by decide +kernel
theorem dL_law_1087 : decode cL_law 1087 = .ok (.iconst 3, 1) := by decide +kernel
theorem dL_law_1088 : decode cL_law 1088 = .ok (.iadd, 1) := by decide +kernel
theorem dL_law_1089 : decode cL_law 1089 = .ok (.iaload, 1) := by decide +kernel
theorem dL_law_1090 : decode cL_law 1090 = .ok (.invokevirtual 127, 3) := by decide +kernel
theorem dL_law_1093 : decode cL_law 1093 = .ok (.pop, 1) := by decide +kernel
theorem dL_law_1094 : decode cL_law 1094 = .ok (.goto 105, 3) := by decide +kernel
theorem dL_law_1097 : decode cL_law 1097 = .ok (.aload_n 1, 1) := by decide +kernel
theorem dL_law_1098 : decode cL_law 1098 = .ok (.aload_n 0, 1) := by decide +kernel
theorem dL_law_1099 : decode cL_law 1099 = .ok (.iload 4, 2) := by decide +kernel
theorem dL_law_1101 : decode cL_law 1101 = .ok (.iconst 1, 1) := by decide +kernel
theorem dL_law_1102 : decode cL_law 1102 = .ok (.iadd, 1) := by decide +kernel
theorem dL_law_1103 : decode cL_law 1103 = .ok (.iaload, 1) := by decide +kernel
theorem dL_law_1104 : decode cL_law 1104 = .ok (.invokevirtual 128, 3) := by decide +kernel
theorem dL_law_1107 : decode cL_law 1107 = .ok (.pop, 1) := by decide +kernel
theorem dL_law_1108 : decode cL_law 1108 = .ok (.aload_n 2, 1) := by decide +kernel
theorem dL_law_1109 : decode cL_law 1109 = .ok (.aload_n 0, 1) := by decide +kernel
theorem dL_law_1110 : decode cL_law 1110 = .ok (.iload 4, 2) := by decide +kernel
theorem dL_law_1112 : decode cL_law 1112 = .ok (.iconst 1, 1) := by decide +kernel
theorem dL_law_1113 : decode cL_law 1113 = .ok (.iadd, 1) := by decide +kernel
theorem dL_law_1114 : decode cL_law 1114 = .ok (.iaload, 1) := by decide +kernel
theorem dL_law_1115 : decode cL_law 1115 = .ok (.invokevirtual 131, 3) := by decide +kernel
theorem dL_law_1118 : decode cL_law 1118 = .ok (.pop, 1) := by decide +kernel
theorem dL_law_1119 : decode cL_law 1119 = .ok (.goto 80, 3) := by decide +kernel
theorem dL_law_1122 : decode cL_law 1122 = .ok (.aload_n 1, 1) := by decide +kernel
theorem dL_law_1123 : decode cL_law 1123 = .ok (.invokevirtual 132, 3) := by decide +kernel
theorem dL_law_1126 : decode cL_law 1126 = .ok (.pop, 1) := by decide +kernel
theorem dL_law_1127 : decode cL_law 1127 = .ok (.aload_n 2, 1) := by decide +kernel
theorem dL_law_1128 : decode cL_law 1128 = .ok (.invokevirtual 135, 3) := by decide +kernel
theorem dL_law_1131 : decode cL_law 1131 = .ok (.pop, 1) := by decide +kernel
theorem dL_law_1132 : decode cL_law 1132 = .ok (.goto 67, 3) := by decide +kernel
theorem dL_law_1135 : decode cL_law 1135 = .ok (.aload_n 1, 1) := by decide +kernel
theorem dL_law_1136 : decode cL_law 1136 = .ok (.invokevirtual 136, 3) := by decide +kernel
theorem dL_law_1139 : decode cL_law 1139 = .ok (.pop, 1) := by decide +kernel
theorem dL_law_1140 : decode cL_law 1140 = .ok (.aload_n 2, 1) := by decide +kernel
theorem dL_law_1141 : decode cL_law 1141 = .ok (.invokevirtual 139, 3) := by decide +kernel
theorem dL_law_1144 : decode cL_law 1144 = .ok (.pop, 1) := by decide +kernel
theorem dL_law_1145 : decode cL_law 1145 = .ok (.goto 54, 3) := by decide +kernel
theorem dL_law_1148 : decode cL_law 1148 = .ok (.aload_n 1, 1) := by decide +kernel
theorem dL_law_1149 : decode cL_law 1149 = .ok (.invokevirtual 140, 3) := by decide +kernel
theorem dL_law_1152 : decode cL_law 1152 = .ok (.pop, 1) := by decide +kernel
theorem dL_law_1153 : decode cL_law 1153 = .ok (.aload_n 2, 1) := by decide +kernel
theorem dL_law_1154 : decode cL_law 1154 = .ok (.invokevirtual 143, 3) := by decide +kernel
theorem dL_law_1157 : decode cL_law 1157 = .ok (.pop, 1) := by decide +kernel
theorem dL_law_1158 : decode cL_law 1158 = .ok (.goto 41, 3) := by decide +kernel
theorem dL_law_1161 : decode cL_law 1161 = .ok (.aload_n 1, 1) := by decide +kernel
theorem dL_law_1162 : decode cL_law 1162 = .ok (.invokevirtual 144, 3) := by decide +kernel
theorem dL_law_1165 : decode cL_law 1165 = .ok (.pop, 1) := by decide +kernel
theorem dL_law_1166 : decode cL_law 1166 = .ok (.aload_n 2, 1) := by decide +kernel
theorem dL_law_1167 : decode cL_law 1167 = .ok (.invokevirtual 147, 3) := by decide +kernel
theorem dL_law_1170 : decode cL_law 1170 = .ok (.pop, 1) := by decide +kernel
theorem dL_law_1171 : decode cL_law 1171 = .ok (.goto 28, 3) := by decide +kernel
theorem dL_law_1174 : decode cL_law 1174 = .ok (.aload_n 1, 1) := by decide +kernel
theorem dL_law_1175 : decode cL_law 1175 = .ok (.aload_n 0, 1) := by decide +kernel
theorem dL_law_1176 : decode cL_law 1176 = .ok (.iload 4, 2) := by decide +kernel
theorem dL_law_1178 : decode cL_law 1178 = .ok (.iconst 1, 1) := by decide +kernel
theorem dL_law_1179 : decode cL_law 1179 = .ok (.iadd, 1) := by decide +kernel
theorem dL_law_1180 : decode cL_law 1180 = .ok (.iaload, 1) := by decide +kernel
theorem dL_law_1181 : decode cL_law 1181 = .ok (.invokevirtual 148, 3) := by decide +kernel
theorem dL_law_1184 : decode cL_law 1184 = .ok (.pop, 1) := by decide +kernel
theorem dL_law_1185 : decode cL_law 1185 = .ok (.aload_n 2, 1) := by decide +kernel
theorem dL_law_1186 : decode cL_law 1186 = .ok (.aload_n 0, 1) := by decide +kernel
theorem dL_law_1187 : decode cL_law 1187 = .ok (.iload 4, 2) := by decide +kernel
theorem dL_law_1189 : decode cL_law 1189 = .ok (.iconst 1, 1) := by decide +kernel
theorem dL_law_1190 : decode cL_law 1190 = .ok (.iadd, 1) := by decide +kernel
theorem dL_law_1191 : decode cL_law 1191 = .ok (.iaload, 1) := by decide +kernel
theorem dL_law_1192 : decode cL_law 1192 = .ok (.invokevirtual 151, 3) := by decide +kernel
theorem dL_law_1195 : decode cL_law 1195 = .ok (.pop, 1) := by decide +kernel
theorem dL_law_1196 : decode cL_law 1196 = .ok (.goto 3, 3) := by decide +kernel
theorem dL_law_1199 : decode cL_law 1199 = .ok (.iinc 4 9, 3) := by decide +kernel
theorem dL_law_1202 : decode cL_law 1202 = .ok (.goto (-1179), 3) := by decide +kernel
theorem dL_law_1205 : decode cL_law 1205 = .ok (.iconst 1, 1) := by decide +kernel
theorem dL_law_1206 : decode cL_law 1206 = .ok (.ireturn, 1) := by decide +kernel
def cdL (L : Nat) (xs : Nat → Int32) (f1 f2 : dm_Sem) : dm_Code := [[dm_new 3 7 nf_X10, dm_no, dm_no, dm_dup 4, dm_ini 7 94 0, dm_no, dm_no, dm_ast 8 1, dm_new 11 8 nf_X11, dm_no, dm_no, dm_dup 12, dm_ini 15 134 0, dm_no, dm_no, dm_ast 16 2],
  [dm_push 17 (.int 1), dm_newa 19 .long, dm_no, dm_ast 20 3, dm_push 21 (.int 0), dm_ist 23 4, dm_no, dm_ild 25 4, dm_no, dm_ald 26 0, dm_sln 27 L, dm_push 29 (.int 9), dm_no, dm_ii 30 (fun x y => x - y), dm_ic_gt 33 1205, dm_no],
  [dm_no, dm_ald 34 0, dm_ild 36 4, dm_no, dm_sld 37 L xs, dm_push 39 (.int 31), dm_no, dm_ii 40 (fun x y => x &&& y), dm_tsw 0 28 1199 [172, 183, 208, 233, 270, 295, 320, 357, 382, 419, 432, 469, 506, 543, 627, 711, 748, 797, 810, 823, 978, 1003, 1028, 1097, 1122, 1135, 1148, 1161, 1174], dm_no, dm_no, dm_no, dm_no, dm_no, dm_no, dm_no],
  [dm_no, dm_no, dm_no, dm_no, dm_no, dm_no, dm_no, dm_no, dm_no, dm_no, dm_no, dm_no, dm_no, dm_no, dm_no, dm_no],
  [dm_no, dm_no, dm_no, dm_no, dm_no, dm_no, dm_no, dm_no, dm_no, dm_no, dm_no, dm_no, dm_no, dm_no, dm_no, dm_no],
  [dm_no, dm_no, dm_no, dm_no, dm_no, dm_no, dm_no, dm_no, dm_no, dm_no, dm_no, dm_no, dm_no, dm_no, dm_no, dm_no],
  [dm_no, dm_no, dm_no, dm_no, dm_no, dm_no, dm_no, dm_no, dm_no, dm_no, dm_no, dm_no, dm_no, dm_no, dm_no, dm_no],
  [dm_no, dm_no, dm_no, dm_no, dm_no, dm_no, dm_no, dm_no, dm_no, dm_no, dm_no, dm_no, dm_no, dm_no, dm_no, dm_no],
  [dm_no, dm_no, dm_no, dm_no, dm_no, dm_no, dm_no, dm_no, dm_no, dm_no, dm_no, dm_no, dm_no, dm_no, dm_no, dm_no],
  [dm_no, dm_no, dm_no, dm_no, dm_no, dm_no, dm_no, dm_no, dm_no, dm_no, dm_no, dm_no, dm_no, dm_no, dm_no, dm_no],
  [dm_no, dm_no, dm_no, dm_no, dm_no, dm_no, dm_no, dm_no, dm_no, dm_no, dm_no, dm_no, dm_ald 173 1, dm_inv 176 95 0 7, dm_no, dm_no],
  [dm_ald 177 2, dm_inv 180 135 0 8, dm_no, dm_no, dm_goto 1199, dm_no, dm_no, dm_ald 184 1, dm_ald 185 0, dm_ild 187 4, dm_no, dm_push 188 (.int 1), dm_ii 189 (fun x y => x + y), dm_sld 190 L xs, dm_inv 193 96 1 7, dm_no],
  [dm_no, dm_pop 194, dm_ald 195 2, dm_ald 196 0, dm_ild 198 4, dm_no, dm_push 199 (.int 1), dm_ii 200 (fun x y => x + y), dm_sld 201 L xs, dm_inv 204 157 1 8, dm_no, dm_no, dm_pop 205, dm_goto 1199, dm_no, dm_no],
  [dm_ald 209 1, dm_ald 210 0, dm_ild 212 4, dm_no, dm_push 213 (.int 1), dm_ii 214 (fun x y => x + y), dm_sld 215 L xs, dm_inv 218 97 1 7, dm_no, dm_no, dm_pop 219, dm_ald 220 2, dm_ald 221 0, dm_ild 223 4, dm_no, dm_push 224 (.int 1)],
  [dm_ii 225 (fun x y => x + y), dm_sld 226 L xs, dm_inv 229 162 1 8, dm_no, dm_no, dm_pop 230, dm_goto 1199, dm_no, dm_no, dm_ald 234 1, dm_ald 235 0, dm_ild 237 4, dm_no, dm_push 238 (.int 1), dm_ii 239 (fun x y => x + y), dm_sld 240 L xs],
  [dm_ald 241 0, dm_ild 243 4, dm_no, dm_push 244 (.int 2), dm_ii 245 (fun x y => x + y), dm_sld 246 L xs, dm_inv 249 98 2 7, dm_no, dm_no, dm_pop 250, dm_ald 251 2, dm_ald 252 0, dm_ild 254 4, dm_no, dm_push 255 (.int 1), dm_ii 256 (fun x y => x + y)],
  [dm_sld 257 L xs, dm_ald 258 0, dm_ild 260 4, dm_no, dm_push 261 (.int 2), dm_ii 262 (fun x y => x + y), dm_sld 263 L xs, dm_inv 266 166 2 8, dm_no, dm_no, dm_pop 267, dm_goto 1199, dm_no, dm_no, dm_ald 271 1, dm_ald 272 0],
  [dm_ild 274 4, dm_no, dm_push 275 (.int 1), dm_ii 276 (fun x y => x + y), dm_sld 277 L xs, dm_inv 280 99 1 7, dm_no, dm_no, dm_pop 281, dm_ald 282 2, dm_ald 283 0, dm_ild 285 4, dm_no, dm_push 286 (.int 1), dm_ii 287 (fun x y => x + y), dm_sld 288 L xs],
  [dm_inv 291 167 1 8, dm_no, dm_no, dm_pop 292, dm_goto 1199, dm_no, dm_no, dm_ald 296 1, dm_ald 297 0, dm_ild 299 4, dm_no, dm_push 300 (.int 1), dm_ii 301 (fun x y => x + y), dm_sld 302 L xs, dm_inv 305 100 1 7, dm_no],
  [dm_no, dm_pop 306, dm_ald 307 2, dm_ald 308 0, dm_ild 310 4, dm_no, dm_push 311 (.int 1), dm_ii 312 (fun x y => x + y), dm_sld 313 L xs, dm_inv 316 168 1 8, dm_no, dm_no, dm_pop 317, dm_goto 1199, dm_no, dm_no],
  [dm_ald 321 1, dm_ald 322 0, dm_ild 324 4, dm_no, dm_push 325 (.int 1), dm_ii 326 (fun x y => x + y), dm_sld 327 L xs, dm_ald 328 0, dm_ild 330 4, dm_no, dm_push 331 (.int 2), dm_ii 332 (fun x y => x + y), dm_sld 333 L xs, dm_inv 336 101 2 7, dm_no, dm_no],
  [dm_pop 337, dm_ald 338 2, dm_ald 339 0, dm_ild 341 4, dm_no, dm_push 342 (.int 1), dm_ii 343 (fun x y => x + y), dm_sld 344 L xs, dm_ald 345 0, dm_ild 347 4, dm_no, dm_push 348 (.int 2), dm_ii 349 (fun x y => x + y), dm_sld 350 L xs, dm_inv 353 169 2 8, dm_no],
  [dm_no, dm_pop 354, dm_goto 1199, dm_no, dm_no, dm_ald 358 1, dm_ald 359 0, dm_ild 361 4, dm_no, dm_push 362 (.int 1), dm_ii 363 (fun x y => x + y), dm_sld 364 L xs, dm_inv 367 102 1 7, dm_no, dm_no, dm_pop 368],
  [dm_ald 369 2, dm_ald 370 0, dm_ild 372 4, dm_no, dm_push 373 (.int 1), dm_ii 374 (fun x y => x + y), dm_sld 375 L xs, dm_inv 378 170 1 8, dm_no, dm_no, dm_pop 379, dm_goto 1199, dm_no, dm_no, dm_ald 383 1, dm_ald 384 0],
  [dm_ild 386 4, dm_no, dm_push 387 (.int 1), dm_ii 388 (fun x y => x + y), dm_sld 389 L xs, dm_ald 390 0, dm_ild 392 4, dm_no, dm_push 393 (.int 2), dm_ii 394 (fun x y => x + y), dm_sld 395 L xs, dm_inv 398 103 2 7, dm_no, dm_no, dm_pop 399, dm_ald 400 2],
  [dm_ald 401 0, dm_ild 403 4, dm_no, dm_push 404 (.int 1), dm_ii 405 (fun x y => x + y), dm_sld 406 L xs, dm_ald 407 0, dm_ild 409 4, dm_no, dm_push 410 (.int 2), dm_ii 411 (fun x y => x + y), dm_sld 412 L xs, dm_inv 415 171 2 8, dm_no, dm_no, dm_pop 416],
  [dm_goto 1199, dm_no, dm_no, dm_ald 420 1, dm_inv 423 104 0 7, dm_no, dm_no, dm_pop 424, dm_ald 425 2, dm_inv 428 172 0 8, dm_no, dm_no, dm_pop 429, dm_goto 1199, dm_no, dm_no],
  [dm_ald 433 1, dm_ald 434 0, dm_ild 436 4, dm_no, dm_push 437 (.int 1), dm_ii 438 (fun x y => x + y), dm_sld 439 L xs, dm_ald 440 0, dm_ild 442 4, dm_no, dm_push 443 (.int 2), dm_ii 444 (fun x y => x + y), dm_sld 445 L xs, dm_inv 448 105 2 7, dm_no, dm_no],
  [dm_pop 449, dm_ald 450 2, dm_ald 451 0, dm_ild 453 4, dm_no, dm_push 454 (.int 1), dm_ii 455 (fun x y => x + y), dm_sld 456 L xs, dm_ald 457 0, dm_ild 459 4, dm_no, dm_push 460 (.int 2), dm_ii 461 (fun x y => x + y), dm_sld 462 L xs, dm_inv 465 174 2 8, dm_no],
  [dm_no, dm_pop 466, dm_goto 1199, dm_no, dm_no, dm_ald 470 1, dm_ald 471 0, dm_ild 473 4, dm_no, dm_push 474 (.int 1), dm_ii 475 (fun x y => x + y), dm_sld 476 L xs, dm_ald 477 0, dm_ild 479 4, dm_no, dm_push 480 (.int 2)],
  [dm_ii 481 (fun x y => x + y), dm_sld 482 L xs, dm_inv 485 106 2 7, dm_no, dm_no, dm_pop 486, dm_ald 487 2, dm_ald 488 0, dm_ild 490 4, dm_no, dm_push 491 (.int 1), dm_ii 492 (fun x y => x + y), dm_sld 493 L xs, dm_ald 494 0, dm_ild 496 4, dm_no],
  [dm_push 497 (.int 2), dm_ii 498 (fun x y => x + y), dm_sld 499 L xs, dm_inv 502 175 2 8, dm_no, dm_no, dm_pop 503, dm_goto 1199, dm_no, dm_no, dm_ald 507 1, dm_ald 508 0, dm_ild 510 4, dm_no, dm_push 511 (.int 1), dm_ii 512 (fun x y => x + y)],
  [dm_sld 513 L xs, dm_ald 514 0, dm_ild 516 4, dm_no, dm_push 517 (.int 2), dm_ii 518 (fun x y => x + y), dm_sld 519 L xs, dm_inv 522 107 2 7, dm_no, dm_no, dm_pop 523, dm_ald 524 2, dm_ald 525 0, dm_ild 527 4, dm_no, dm_push 528 (.int 1)],
  [dm_ii 529 (fun x y => x + y), dm_sld 530 L xs, dm_ald 531 0, dm_ild 533 4, dm_no, dm_push 534 (.int 2), dm_ii 535 (fun x y => x + y), dm_sld 536 L xs, dm_inv 539 176 2 8, dm_no, dm_no, dm_pop 540, dm_goto 1199, dm_no, dm_no, dm_ald 544 1],
  [dm_ald 545 0, dm_ild 547 4, dm_no, dm_push 548 (.int 1), dm_ii 549 (fun x y => x + y), dm_sld 550 L xs, dm_ald 551 0, dm_ild 553 4, dm_no, dm_push 554 (.int 2), dm_ii 555 (fun x y => x + y), dm_sld 556 L xs, dm_i1 557 (fun x => .long x.toInt64), dm_push 559 (.int 32), dm_no, dm_li 560 (fun x y => x <<< (y.toInt64 &&& 63))],
  [dm_ald 561 0, dm_ild 563 4, dm_no, dm_push 564 (.int 3), dm_ii 565 (fun x y => x + y), dm_sld 566 L xs, dm_i1 567 (fun x => .long x.toInt64), dm_push 570 (.long 4294967295), dm_no, dm_no, dm_ll 571 (fun x y => x &&& y), dm_ll 572 (fun x y => x ||| y), dm_ald 573 0, dm_ild 575 4, dm_no, dm_push 576 (.int 4)],
  [dm_ii 577 (fun x y => x + y), dm_sld 578 L xs, dm_ald 579 3, f1, dm_no, dm_no, dm_ist 584 5, dm_no, dm_ald 585 2, dm_ald 586 0, dm_ild 588 4, dm_no, dm_push 589 (.int 1), dm_ii 590 (fun x y => x + y), dm_sld 591 L xs, dm_ald 592 0],
  [dm_ild 594 4, dm_no, dm_push 595 (.int 2), dm_ii 596 (fun x y => x + y), dm_sld 597 L xs, dm_i1 598 (fun x => .long x.toInt64), dm_push 600 (.int 32), dm_no, dm_li 601 (fun x y => x <<< (y.toInt64 &&& 63)), dm_ald 602 0, dm_ild 604 4, dm_no, dm_push 605 (.int 3), dm_ii 606 (fun x y => x + y), dm_sld 607 L xs, dm_i1 608 (fun x => .long x.toInt64)],
  [dm_push 611 (.long 4294967295), dm_no, dm_no, dm_ll 612 (fun x y => x &&& y), dm_ll 613 (fun x y => x ||| y), dm_ald 614 0, dm_ild 616 4, dm_no, dm_push 617 (.int 4), dm_ii 618 (fun x y => x + y), dm_sld 619 L xs, dm_inv 622 179 3 8, dm_no, dm_no, dm_ist 624 6, dm_no],
  [dm_goto 1199, dm_no, dm_no, dm_ald 628 1, dm_ald 629 0, dm_ild 631 4, dm_no, dm_push 632 (.int 1), dm_ii 633 (fun x y => x + y), dm_sld 634 L xs, dm_ald 635 0, dm_ild 637 4, dm_no, dm_push 638 (.int 2), dm_ii 639 (fun x y => x + y), dm_sld 640 L xs],
  [dm_i1 641 (fun x => .long x.toInt64), dm_push 643 (.int 32), dm_no, dm_li 644 (fun x y => x <<< (y.toInt64 &&& 63)), dm_ald 645 0, dm_ild 647 4, dm_no, dm_push 648 (.int 3), dm_ii 649 (fun x y => x + y), dm_sld 650 L xs, dm_i1 651 (fun x => .long x.toInt64), dm_push 654 (.long 4294967295), dm_no, dm_no, dm_ll 655 (fun x y => x &&& y), dm_ll 656 (fun x y => x ||| y)],
  [dm_ald 657 0, dm_ild 659 4, dm_no, dm_push 660 (.int 4), dm_ii 661 (fun x y => x + y), dm_sld 662 L xs, dm_ald 663 3, f2, dm_no, dm_no, dm_ist 668 5, dm_no, dm_ald 669 2, dm_ald 670 0, dm_ild 672 4, dm_no],
  [dm_push 673 (.int 1), dm_ii 674 (fun x y => x + y), dm_sld 675 L xs, dm_ald 676 0, dm_ild 678 4, dm_no, dm_push 679 (.int 2), dm_ii 680 (fun x y => x + y), dm_sld 681 L xs, dm_i1 682 (fun x => .long x.toInt64), dm_push 684 (.int 32), dm_no, dm_li 685 (fun x y => x <<< (y.toInt64 &&& 63)), dm_ald 686 0, dm_ild 688 4, dm_no],
  [dm_push 689 (.int 3), dm_ii 690 (fun x y => x + y), dm_sld 691 L xs, dm_i1 692 (fun x => .long x.toInt64), dm_push 695 (.long 4294967295), dm_no, dm_no, dm_ll 696 (fun x y => x &&& y), dm_ll 697 (fun x y => x ||| y), dm_ald 698 0, dm_ild 700 4, dm_no, dm_push 701 (.int 4), dm_ii 702 (fun x y => x + y), dm_sld 703 L xs, dm_inv 706 180 3 8],
  [dm_no, dm_no, dm_ist 708 6, dm_no, dm_goto 1199, dm_no, dm_no, dm_ald 712 1, dm_ald 713 0, dm_ild 715 4, dm_no, dm_push 716 (.int 1), dm_ii 717 (fun x y => x + y), dm_sld 718 L xs, dm_ald 719 0, dm_ild 721 4],
  [dm_no, dm_push 722 (.int 2), dm_ii 723 (fun x y => x + y), dm_sld 724 L xs, dm_inv 727 110 2 7, dm_no, dm_no, dm_pop 728, dm_ald 729 2, dm_ald 730 0, dm_ild 732 4, dm_no, dm_push 733 (.int 1), dm_ii 734 (fun x y => x + y), dm_sld 735 L xs, dm_ald 736 0],
  [dm_ild 738 4, dm_no, dm_push 739 (.int 2), dm_ii 740 (fun x y => x + y), dm_sld 741 L xs, dm_inv 744 181 2 8, dm_no, dm_no, dm_pop 745, dm_goto 1199, dm_no, dm_no, dm_ald 749 1, dm_ald 750 0, dm_ild 752 4, dm_no],
  [dm_push 753 (.int 1), dm_ii 754 (fun x y => x + y), dm_sld 755 L xs, dm_ald 756 0, dm_ild 758 4, dm_no, dm_push 759 (.int 2), dm_ii 760 (fun x y => x + y), dm_sld 761 L xs, dm_ald 762 0, dm_ild 764 4, dm_no, dm_push 765 (.int 3), dm_ii 766 (fun x y => x + y), dm_sld 767 L xs, dm_inv 770 111 3 7],
  [dm_no, dm_no, dm_pop 771, dm_ald 772 2, dm_ald 773 0, dm_ild 775 4, dm_no, dm_push 776 (.int 1), dm_ii 777 (fun x y => x + y), dm_sld 778 L xs, dm_ald 779 0, dm_ild 781 4, dm_no, dm_push 782 (.int 2), dm_ii 783 (fun x y => x + y), dm_sld 784 L xs],
  [dm_ald 785 0, dm_ild 787 4, dm_no, dm_push 788 (.int 3), dm_ii 789 (fun x y => x + y), dm_sld 790 L xs, dm_inv 793 184 3 8, dm_no, dm_no, dm_pop 794, dm_goto 1199, dm_no, dm_no, dm_ald 798 1, dm_inv 801 112 0 7, dm_no],
  [dm_no, dm_pop2 802, dm_ald 803 2, dm_inv 806 185 0 8, dm_no, dm_no, dm_pop2 807, dm_goto 1199, dm_no, dm_no, dm_ald 811 1, dm_inv 814 113 0 7, dm_no, dm_no, dm_pop 815, dm_ald 816 2],
  [dm_inv 819 186 0 8, dm_no, dm_no, dm_pop 820, dm_goto 1199, dm_no, dm_no, dm_ald 824 1, dm_ald 825 0, dm_ild 827 4, dm_no, dm_push 828 (.int 1), dm_ii 829 (fun x y => x + y), dm_sld 830 L xs, dm_ald 831 0, dm_ild 833 4],
  [dm_no, dm_push 834 (.int 2), dm_ii 835 (fun x y => x + y), dm_sld 836 L xs, dm_ald 837 0, dm_ild 839 4, dm_no, dm_push 840 (.int 3), dm_ii 841 (fun x y => x + y), dm_sld 842 L xs, dm_i1 843 (fun x => .long x.toInt64), dm_push 845 (.int 32), dm_no, dm_li 846 (fun x y => x <<< (y.toInt64 &&& 63)), dm_ald 847 0, dm_ild 849 4],
  [dm_no, dm_push 850 (.int 4), dm_ii 851 (fun x y => x + y), dm_sld 852 L xs, dm_i1 853 (fun x => .long x.toInt64), dm_push 856 (.long 4294967295), dm_no, dm_no, dm_ll 857 (fun x y => x &&& y), dm_ll 858 (fun x y => x ||| y), dm_ald 859 0, dm_ild 861 4, dm_no, dm_push 862 (.int 5), dm_ii 863 (fun x y => x + y), dm_sld 864 L xs],
  [dm_ald 865 0, dm_ild 867 4, dm_no, dm_push 869 (.int 6), dm_no, dm_ii 870 (fun x y => x + y), dm_sld 871 L xs, dm_i1 872 (fun x => .long x.toInt64), dm_push 874 (.int 32), dm_no, dm_li 875 (fun x y => x <<< (y.toInt64 &&& 63)), dm_ald 876 0, dm_ild 878 4, dm_no, dm_push 880 (.int 7), dm_no],
  [dm_ii 881 (fun x y => x + y), dm_sld 882 L xs, dm_i1 883 (fun x => .long x.toInt64), dm_push 886 (.long 4294967295), dm_no, dm_no, dm_ll 887 (fun x y => x &&& y), dm_ll 888 (fun x y => x ||| y), dm_ald 889 0, dm_ild 891 4, dm_no, dm_push 893 (.int 8), dm_no, dm_ii 894 (fun x y => x + y), dm_sld 895 L xs, dm_inv 898 114 6 7],
  [dm_no, dm_no, dm_ald 899 2, dm_ald 900 0, dm_ild 902 4, dm_no, dm_push 903 (.int 1), dm_ii 904 (fun x y => x + y), dm_sld 905 L xs, dm_ald 906 0, dm_ild 908 4, dm_no, dm_push 909 (.int 2), dm_ii 910 (fun x y => x + y), dm_sld 911 L xs, dm_ald 912 0],
  [dm_ild 914 4, dm_no, dm_push 915 (.int 3), dm_ii 916 (fun x y => x + y), dm_sld 917 L xs, dm_i1 918 (fun x => .long x.toInt64), dm_push 920 (.int 32), dm_no, dm_li 921 (fun x y => x <<< (y.toInt64 &&& 63)), dm_ald 922 0, dm_ild 924 4, dm_no, dm_push 925 (.int 4), dm_ii 926 (fun x y => x + y), dm_sld 927 L xs, dm_i1 928 (fun x => .long x.toInt64)],
  [dm_push 931 (.long 4294967295), dm_no, dm_no, dm_ll 932 (fun x y => x &&& y), dm_ll 933 (fun x y => x ||| y), dm_ald 934 0, dm_ild 936 4, dm_no, dm_push 937 (.int 5), dm_ii 938 (fun x y => x + y), dm_sld 939 L xs, dm_ald 940 0, dm_ild 942 4, dm_no, dm_push 944 (.int 6), dm_no],
  [dm_ii 945 (fun x y => x + y), dm_sld 946 L xs, dm_i1 947 (fun x => .long x.toInt64), dm_push 949 (.int 32), dm_no, dm_li 950 (fun x y => x <<< (y.toInt64 &&& 63)), dm_ald 951 0, dm_ild 953 4, dm_no, dm_push 955 (.int 7), dm_no, dm_ii 956 (fun x y => x + y), dm_sld 957 L xs, dm_i1 958 (fun x => .long x.toInt64), dm_push 961 (.long 4294967295), dm_no],
  [dm_no, dm_ll 962 (fun x y => x &&& y), dm_ll 963 (fun x y => x ||| y), dm_ald 964 0, dm_ild 966 4, dm_no, dm_push 968 (.int 8), dm_no, dm_ii 969 (fun x y => x + y), dm_sld 970 L xs, dm_inv 973 187 6 8, dm_no, dm_no, dm_ic_eq 976 1199, dm_no, dm_no],
  [dm_push 977 (.int 0), dm_ret .boolean, dm_ald 979 1, dm_ald 980 0, dm_ild 982 4, dm_no, dm_push 983 (.int 1), dm_ii 984 (fun x y => x + y), dm_sld 985 L xs, dm_inv 988 115 1 7, dm_no, dm_no, dm_pop 989, dm_ald 990 2, dm_ald 991 0, dm_ild 993 4],
  [dm_no, dm_push 994 (.int 1), dm_ii 995 (fun x y => x + y), dm_sld 996 L xs, dm_inv 999 193 1 8, dm_no, dm_no, dm_pop 1000, dm_goto 1199, dm_no, dm_no, dm_ald 1004 1, dm_ald 1005 0, dm_ild 1007 4, dm_no, dm_push 1008 (.int 1)],
  [dm_ii 1009 (fun x y => x + y), dm_sld 1010 L xs, dm_inv 1013 116 1 7, dm_no, dm_no, dm_pop 1014, dm_ald 1015 2, dm_ald 1016 0, dm_ild 1018 4, dm_no, dm_push 1019 (.int 1), dm_ii 1020 (fun x y => x + y), dm_sld 1021 L xs, dm_inv 1024 194 1 8, dm_no, dm_no],
  [dm_pop 1025, dm_goto 1199, dm_no, dm_no, dm_ald 1029 1, dm_ald 1030 0, dm_ild 1032 4, dm_no, dm_push 1033 (.int 1), dm_ii 1034 (fun x y => x + y), dm_sld 1035 L xs, dm_i1 1036 (fun x => .long x.toInt64), dm_push 1038 (.int 32), dm_no, dm_li 1039 (fun x y => x <<< (y.toInt64 &&& 63)), dm_ald 1040 0],
  [dm_ild 1042 4, dm_no, dm_push 1043 (.int 2), dm_ii 1044 (fun x y => x + y), dm_sld 1045 L xs, dm_i1 1046 (fun x => .long x.toInt64), dm_push 1049 (.long 4294967295), dm_no, dm_no, dm_ll 1050 (fun x y => x &&& y), dm_ll 1051 (fun x y => x ||| y), dm_ald 1052 0, dm_ild 1054 4, dm_no, dm_push 1055 (.int 3), dm_ii 1056 (fun x y => x + y)],
  [dm_sld 1057 L xs, dm_inv 1060 117 2 7, dm_no, dm_no, dm_pop 1061, dm_ald 1062 2, dm_ald 1063 0, dm_ild 1065 4, dm_no, dm_push 1066 (.int 1), dm_ii 1067 (fun x y => x + y), dm_sld 1068 L xs, dm_i1 1069 (fun x => .long x.toInt64), dm_push 1071 (.int 32), dm_no, dm_li 1072 (fun x y => x <<< (y.toInt64 &&& 63))],
  [dm_ald 1073 0, dm_ild 1075 4, dm_no, dm_push 1076 (.int 2), dm_ii 1077 (fun x y => x + y), dm_sld 1078 L xs, dm_i1 1079 (fun x => .long x.toInt64), dm_push 1082 (.long 4294967295), dm_no, dm_no, dm_ll 1083 (fun x y => x &&& y), dm_ll 1084 (fun x y => x ||| y), dm_ald 1085 0, dm_ild 1087 4, dm_no, dm_push 1088 (.int 3)],
  [dm_ii 1089 (fun x y => x + y), dm_sld 1090 L xs, dm_inv 1093 195 2 8, dm_no, dm_no, dm_pop 1094, dm_goto 1199, dm_no, dm_no, dm_ald 1098 1, dm_ald 1099 0, dm_ild 1101 4, dm_no, dm_push 1102 (.int 1), dm_ii 1103 (fun x y => x + y), dm_sld 1104 L xs],
  [dm_inv 1107 118 1 7, dm_no, dm_no, dm_pop 1108, dm_ald 1109 2, dm_ald 1110 0, dm_ild 1112 4, dm_no, dm_push 1113 (.int 1), dm_ii 1114 (fun x y => x + y), dm_sld 1115 L xs, dm_inv 1118 196 1 8, dm_no, dm_no, dm_pop 1119, dm_goto 1199],
  [dm_no, dm_no, dm_ald 1123 1, dm_inv 1126 119 0 7, dm_no, dm_no, dm_pop 1127, dm_ald 1128 2, dm_inv 1131 203 0 8, dm_no, dm_no, dm_pop 1132, dm_goto 1199, dm_no, dm_no, dm_ald 1136 1],
  [dm_inv 1139 120 0 7, dm_no, dm_no, dm_pop 1140, dm_ald 1141 2, dm_inv 1144 204 0 8, dm_no, dm_no, dm_pop 1145, dm_goto 1199, dm_no, dm_no, dm_ald 1149 1, dm_inv 1152 121 0 7, dm_no, dm_no],
  [dm_pop 1153, dm_ald 1154 2, dm_inv 1157 205 0 8, dm_no, dm_no, dm_pop 1158, dm_goto 1199, dm_no, dm_no, dm_ald 1162 1, dm_inv 1165 122 0 7, dm_no, dm_no, dm_pop 1166, dm_ald 1167 2, dm_inv 1170 206 0 8],
  [dm_no, dm_no, dm_pop 1171, dm_goto 1199, dm_no, dm_no, dm_ald 1175 1, dm_ald 1176 0, dm_ild 1178 4, dm_no, dm_push 1179 (.int 1), dm_ii 1180 (fun x y => x + y), dm_sld 1181 L xs, dm_inv 1184 123 1 7, dm_no, dm_no],
  [dm_pop 1185, dm_ald 1186 2, dm_ald 1187 0, dm_ild 1189 4, dm_no, dm_push 1190 (.int 1), dm_ii 1191 (fun x y => x + y), dm_sld 1192 L xs, dm_inv 1195 207 1 8, dm_no, dm_no, dm_pop 1196, dm_goto 1199, dm_no, dm_no, dm_iinc 1202 4 9],
  [dm_no, dm_no, dm_goto 23, dm_no, dm_no, dm_push 1206 (.int 1), dm_ret .boolean]]
/-- a step of the law: the JVM's, or one of the two calls -/
def lw_ok (L : Nat) (xs : Nat → Int32) (f1 f2 : dm_Sem) (pc : Nat) (f : dm_Sem) : Prop := dm_Good dm_tb RL cL_law 7 (some .boolean) false (some (L, xs)) pc f ∨ (pc = 579 ∧ f = f1) ∨ (pc = 663 ∧ f = f2)
theorem tr_L_0 (L : Nat) (xs : Nat → Int32) (f1 f2 : dm_Sem) : dm_AllR (lw_ok L xs f1 f2) 0 [dm_new 3 7 nf_X10, dm_no, dm_no, dm_dup 4, dm_ini 7 94 0, dm_no, dm_no, dm_ast 8 1, dm_new 11 8 nf_X11, dm_no, dm_no, dm_dup 12, dm_ini 15 134 0, dm_no, dm_no, dm_ast 16 2] := dr_c (Or.inl (dg_new (T := TX10) (C := RX10) (N := 11) (ty := tyX10) dL_law_0 rfl iw_X10 tyX10_ok wd_80 wd_81 wd_60 rfl nv_X10 nz_X10)) <| dr_c (Or.inl dg_no) <| dr_c (Or.inl dg_no) <| dr_c (Or.inl (dg_dup dL_law_3)) <| dr_c (Or.inl (dg_ini dL_law_4 mo_94 rfl rfl wd_82 wd_83 pd_94)) <| dr_c (Or.inl dg_no) <| dr_c (Or.inl dg_no) <| dr_c (Or.inl (dg_astore_n (k := 1) rfl (by decide) dL_law_7)) <| dr_c (Or.inl (dg_new (T := TX11) (C := RX11) (N := 68) (ty := tyX11) dL_law_8 rfl iw_X11 tyX11_ok wd_908 wd_909 wd_71 rfl nv_X11 nz_X11)) <| dr_c (Or.inl dg_no) <| dr_c (Or.inl dg_no) <| dr_c (Or.inl (dg_dup dL_law_11)) <| dr_c (Or.inl (dg_ini dL_law_12 mo_134 rfl rfl wd_910 wd_911 pd_134)) <| dr_c (Or.inl dg_no) <| dr_c (Or.inl dg_no) <| dr_c (Or.inl (dg_astore_n (k := 2) rfl (by decide) dL_law_15)) <| dr_n
theorem tr_L_1 (L : Nat) (xs : Nat → Int32) (f1 f2 : dm_Sem) : dm_AllR (lw_ok L xs f1 f2) 16 [dm_push 17 (.int 1), dm_newa 19 .long, dm_no, dm_ast 20 3, dm_push 21 (.int 0), dm_ist 23 4, dm_no, dm_ild 25 4, dm_no, dm_ald 26 0, dm_sln 27 L, dm_push 29 (.int 9), dm_no, dm_ii 30 (fun x y => x - y), dm_ic_gt 33 1205, dm_no] := dr_c (Or.inl (dg_iconst (by decide) dL_law_16)) <| dr_c (Or.inl (dg_newa dL_law_17 rfl rfl wd_1153)) <| dr_c (Or.inl dg_no) <| dr_c (Or.inl (dg_astore_n (k := 3) rfl (by decide) dL_law_19)) <| dr_c (Or.inl (dg_iconst (by decide) dL_law_20)) <| dr_c (Or.inl (dg_istore (by decide) dL_law_21)) <| dr_c (Or.inl dg_no) <| dr_c (Or.inl (dg_iload dL_law_23)) <| dr_c (Or.inl dg_no) <| dr_c (Or.inl (dg_aload_n (k := 0) rfl dL_law_25)) <| dr_c (Or.inl (dg_sln dL_law_26)) <| dr_c (Or.inl (dg_bipush (by decide) dL_law_27)) <| dr_c (Or.inl dg_no) <| dr_c (Or.inl (dg_isub dL_law_29)) <| dr_c (Or.inl (dg_ic_gt (by decide) dL_law_30)) <| dr_c (Or.inl dg_no) <| dr_n
theorem tr_L_2 (L : Nat) (xs : Nat → Int32) (f1 f2 : dm_Sem) : dm_AllR (lw_ok L xs f1 f2) 32 [dm_no, dm_ald 34 0, dm_ild 36 4, dm_no, dm_sld 37 L xs, dm_push 39 (.int 31), dm_no, dm_ii 40 (fun x y => x &&& y), dm_tsw 0 28 1199 [172, 183, 208, 233, 270, 295, 320, 357, 382, 419, 432, 469, 506, 543, 627, 711, 748, 797, 810, 823, 978, 1003, 1028, 1097, 1122, 1135, 1148, 1161, 1174], dm_no, dm_no, dm_no, dm_no, dm_no, dm_no, dm_no] := dr_c (Or.inl dg_no) <| dr_c (Or.inl (dg_aload_n (k := 0) rfl dL_law_33)) <| dr_c (Or.inl (dg_iload dL_law_34)) <| dr_c (Or.inl dg_no) <| dr_c (Or.inl (dg_sld dL_law_36)) <| dr_c (Or.inl (dg_bipush (by decide) dL_law_37)) <| dr_c (Or.inl dg_no) <| dr_c (Or.inl (dg_iand dL_law_39)) <| dr_c (Or.inl (dg_tsw dL_law_40 (by decide) (by decide))) <| dr_c (Or.inl dg_no) <| dr_c (Or.inl dg_no) <| dr_c (Or.inl dg_no) <| dr_c (Or.inl dg_no) <| dr_c (Or.inl dg_no) <| dr_c (Or.inl dg_no) <| dr_c (Or.inl dg_no) <| dr_n
theorem tr_L_3 (L : Nat) (xs : Nat → Int32) (f1 f2 : dm_Sem) : dm_AllR (lw_ok L xs f1 f2) 48 [dm_no, dm_no, dm_no, dm_no, dm_no, dm_no, dm_no, dm_no, dm_no, dm_no, dm_no, dm_no, dm_no, dm_no, dm_no, dm_no] := dr_c (Or.inl dg_no) <| dr_c (Or.inl dg_no) <| dr_c (Or.inl dg_no) <| dr_c (Or.inl dg_no) <| dr_c (Or.inl dg_no) <| dr_c (Or.inl dg_no) <| dr_c (Or.inl dg_no) <| dr_c (Or.inl dg_no) <| dr_c (Or.inl dg_no) <| dr_c (Or.inl dg_no) <| dr_c (Or.inl dg_no) <| dr_c (Or.inl dg_no) <| dr_c (Or.inl dg_no) <| dr_c (Or.inl dg_no) <| dr_c (Or.inl dg_no) <| dr_c (Or.inl dg_no) <| dr_n
theorem tr_L_4 (L : Nat) (xs : Nat → Int32) (f1 f2 : dm_Sem) : dm_AllR (lw_ok L xs f1 f2) 64 [dm_no, dm_no, dm_no, dm_no, dm_no, dm_no, dm_no, dm_no, dm_no, dm_no, dm_no, dm_no, dm_no, dm_no, dm_no, dm_no] := dr_c (Or.inl dg_no) <| dr_c (Or.inl dg_no) <| dr_c (Or.inl dg_no) <| dr_c (Or.inl dg_no) <| dr_c (Or.inl dg_no) <| dr_c (Or.inl dg_no) <| dr_c (Or.inl dg_no) <| dr_c (Or.inl dg_no) <| dr_c (Or.inl dg_no) <| dr_c (Or.inl dg_no) <| dr_c (Or.inl dg_no) <| dr_c (Or.inl dg_no) <| dr_c (Or.inl dg_no) <| dr_c (Or.inl dg_no) <| dr_c (Or.inl dg_no) <| dr_c (Or.inl dg_no) <| dr_n
theorem tr_L_5 (L : Nat) (xs : Nat → Int32) (f1 f2 : dm_Sem) : dm_AllR (lw_ok L xs f1 f2) 80 [dm_no, dm_no, dm_no, dm_no, dm_no, dm_no, dm_no, dm_no, dm_no, dm_no, dm_no, dm_no, dm_no, dm_no, dm_no, dm_no] := dr_c (Or.inl dg_no) <| dr_c (Or.inl dg_no) <| dr_c (Or.inl dg_no) <| dr_c (Or.inl dg_no) <| dr_c (Or.inl dg_no) <| dr_c (Or.inl dg_no) <| dr_c (Or.inl dg_no) <| dr_c (Or.inl dg_no) <| dr_c (Or.inl dg_no) <| dr_c (Or.inl dg_no) <| dr_c (Or.inl dg_no) <| dr_c (Or.inl dg_no) <| dr_c (Or.inl dg_no) <| dr_c (Or.inl dg_no) <| dr_c (Or.inl dg_no) <| dr_c (Or.inl dg_no) <| dr_n
theorem tr_L_6 (L : Nat) (xs : Nat → Int32) (f1 f2 : dm_Sem) : dm_AllR (lw_ok L xs f1 f2) 96 [dm_no, dm_no, dm_no, dm_no, dm_no, dm_no, dm_no, dm_no, dm_no, dm_no, dm_no, dm_no, dm_no, dm_no, dm_no, dm_no] := dr_c (Or.inl dg_no) <| dr_c (Or.inl dg_no) <| dr_c (Or.inl dg_no) <| dr_c (Or.inl dg_no) <| dr_c (Or.inl dg_no) <| dr_c (Or.inl dg_no) <| dr_c (Or.inl dg_no) <| dr_c (Or.inl dg_no) <| dr_c (Or.inl dg_no) <| dr_c (Or.inl dg_no) <| dr_c (Or.inl dg_no) <| dr_c (Or.inl dg_no) <| dr_c (Or.inl dg_no) <| dr_c (Or.inl dg_no) <| dr_c (Or.inl dg_no) <| dr_c (Or.inl dg_no) <| dr_n
theorem tr_L_7 (L : Nat) (xs : Nat → Int32) (f1 f2 : dm_Sem) : dm_AllR (lw_ok L xs f1 f2) 112 [dm_no, dm_no, dm_no, dm_no, dm_no, dm_no, dm_no, dm_no, dm_no, dm_no, dm_no, dm_no, dm_no, dm_no, dm_no, dm_no] := dr_c (Or.inl dg_no) <| dr_c (Or.inl dg_no) <| dr_c (Or.inl dg_no) <| dr_c (Or.inl dg_no) <| dr_c (Or.inl dg_no) <| dr_c (Or.inl dg_no) <| dr_c (Or.inl dg_no) <| dr_c (Or.inl dg_no) <| dr_c (Or.inl dg_no) <| dr_c (Or.inl dg_no) <| dr_c (Or.inl dg_no) <| dr_c (Or.inl dg_no) <| dr_c (Or.inl dg_no) <| dr_c (Or.inl dg_no) <| dr_c (Or.inl dg_no) <| dr_c (Or.inl dg_no) <| dr_n
theorem tr_L_8 (L : Nat) (xs : Nat → Int32) (f1 f2 : dm_Sem) : dm_AllR (lw_ok L xs f1 f2) 128 [dm_no, dm_no, dm_no, dm_no, dm_no, dm_no, dm_no, dm_no, dm_no, dm_no, dm_no, dm_no, dm_no, dm_no, dm_no, dm_no] := dr_c (Or.inl dg_no) <| dr_c (Or.inl dg_no) <| dr_c (Or.inl dg_no) <| dr_c (Or.inl dg_no) <| dr_c (Or.inl dg_no) <| dr_c (Or.inl dg_no) <| dr_c (Or.inl dg_no) <| dr_c (Or.inl dg_no) <| dr_c (Or.inl dg_no) <| dr_c (Or.inl dg_no) <| dr_c (Or.inl dg_no) <| dr_c (Or.inl dg_no) <| dr_c (Or.inl dg_no) <| dr_c (Or.inl dg_no) <| dr_c (Or.inl dg_no) <| dr_c (Or.inl dg_no) <| dr_n
theorem tr_L_9 (L : Nat) (xs : Nat → Int32) (f1 f2 : dm_Sem) : dm_AllR (lw_ok L xs f1 f2) 144 [dm_no, dm_no, dm_no, dm_no, dm_no, dm_no, dm_no, dm_no, dm_no, dm_no, dm_no, dm_no, dm_no, dm_no, dm_no, dm_no] := dr_c (Or.inl dg_no) <| dr_c (Or.inl dg_no) <| dr_c (Or.inl dg_no) <| dr_c (Or.inl dg_no) <| dr_c (Or.inl dg_no) <| dr_c (Or.inl dg_no) <| dr_c (Or.inl dg_no) <| dr_c (Or.inl dg_no) <| dr_c (Or.inl dg_no) <| dr_c (Or.inl dg_no) <| dr_c (Or.inl dg_no) <| dr_c (Or.inl dg_no) <| dr_c (Or.inl dg_no) <| dr_c (Or.inl dg_no) <| dr_c (Or.inl dg_no) <| dr_c (Or.inl dg_no) <| dr_n
theorem tr_L_10 (L : Nat) (xs : Nat → Int32) (f1 f2 : dm_Sem) : dm_AllR (lw_ok L xs f1 f2) 160 [dm_no, dm_no, dm_no, dm_no, dm_no, dm_no, dm_no, dm_no, dm_no, dm_no, dm_no, dm_no, dm_ald 173 1, dm_inv 176 95 0 7, dm_no, dm_no] := dr_c (Or.inl dg_no) <| dr_c (Or.inl dg_no) <| dr_c (Or.inl dg_no) <| dr_c (Or.inl dg_no) <| dr_c (Or.inl dg_no) <| dr_c (Or.inl dg_no) <| dr_c (Or.inl dg_no) <| dr_c (Or.inl dg_no) <| dr_c (Or.inl dg_no) <| dr_c (Or.inl dg_no) <| dr_c (Or.inl dg_no) <| dr_c (Or.inl dg_no) <| dr_c (Or.inl (dg_aload_n (k := 1) rfl dL_law_172)) <| dr_c (Or.inl (dg_inv dL_law_173 mo_95 rfl rfl wd_344 wd_345 wd_346 pd_95)) <| dr_c (Or.inl dg_no) <| dr_c (Or.inl dg_no) <| dr_n
theorem tr_L_11 (L : Nat) (xs : Nat → Int32) (f1 f2 : dm_Sem) : dm_AllR (lw_ok L xs f1 f2) 176 [dm_ald 177 2, dm_inv 180 135 0 8, dm_no, dm_no, dm_goto 1199, dm_no, dm_no, dm_ald 184 1, dm_ald 185 0, dm_ild 187 4, dm_no, dm_push 188 (.int 1), dm_ii 189 (fun x y => x + y), dm_sld 190 L xs, dm_inv 193 96 1 7, dm_no] := dr_c (Or.inl (dg_aload_n (k := 2) rfl dL_law_176)) <| dr_c (Or.inl (dg_inv dL_law_177 mo_135 rfl rfl wd_1156 wd_915 wd_916 pd_135)) <| dr_c (Or.inl dg_no) <| dr_c (Or.inl dg_no) <| dr_c (Or.inl (dg_goto (by decide) dL_law_180)) <| dr_c (Or.inl dg_no) <| dr_c (Or.inl dg_no) <| dr_c (Or.inl (dg_aload_n (k := 1) rfl dL_law_183)) <| dr_c (Or.inl (dg_aload_n (k := 0) rfl dL_law_184)) <| dr_c (Or.inl (dg_iload dL_law_185)) <| dr_c (Or.inl dg_no) <| dr_c (Or.inl (dg_iconst (by decide) dL_law_187)) <| dr_c (Or.inl (dg_iadd dL_law_188)) <| dr_c (Or.inl (dg_sld dL_law_189)) <| dr_c (Or.inl (dg_inv dL_law_190 mo_96 rfl rfl wd_348 wd_349 wd_350 pd_96)) <| dr_c (Or.inl dg_no) <| dr_n
theorem tr_L_12 (L : Nat) (xs : Nat → Int32) (f1 f2 : dm_Sem) : dm_AllR (lw_ok L xs f1 f2) 192 [dm_no, dm_pop 194, dm_ald 195 2, dm_ald 196 0, dm_ild 198 4, dm_no, dm_push 199 (.int 1), dm_ii 200 (fun x y => x + y), dm_sld 201 L xs, dm_inv 204 157 1 8, dm_no, dm_no, dm_pop 205, dm_goto 1199, dm_no, dm_no] := dr_c (Or.inl dg_no) <| dr_c (Or.inl (dg_pop dL_law_193)) <| dr_c (Or.inl (dg_aload_n (k := 2) rfl dL_law_194)) <| dr_c (Or.inl (dg_aload_n (k := 0) rfl dL_law_195)) <| dr_c (Or.inl (dg_iload dL_law_196)) <| dr_c (Or.inl dg_no) <| dr_c (Or.inl (dg_iconst (by decide) dL_law_198)) <| dr_c (Or.inl (dg_iadd dL_law_199)) <| dr_c (Or.inl (dg_sld dL_law_200)) <| dr_c (Or.inl (dg_inv dL_law_201 mo_157 rfl rfl wd_1157 wd_1158 wd_1159 pd_157)) <| dr_c (Or.inl dg_no) <| dr_c (Or.inl dg_no) <| dr_c (Or.inl (dg_pop dL_law_204)) <| dr_c (Or.inl (dg_goto (by decide) dL_law_205)) <| dr_c (Or.inl dg_no) <| dr_c (Or.inl dg_no) <| dr_n
theorem tr_L_13 (L : Nat) (xs : Nat → Int32) (f1 f2 : dm_Sem) : dm_AllR (lw_ok L xs f1 f2) 208 [dm_ald 209 1, dm_ald 210 0, dm_ild 212 4, dm_no, dm_push 213 (.int 1), dm_ii 214 (fun x y => x + y), dm_sld 215 L xs, dm_inv 218 97 1 7, dm_no, dm_no, dm_pop 219, dm_ald 220 2, dm_ald 221 0, dm_ild 223 4, dm_no, dm_push 224 (.int 1)] := dr_c (Or.inl (dg_aload_n (k := 1) rfl dL_law_208)) <| dr_c (Or.inl (dg_aload_n (k := 0) rfl dL_law_209)) <| dr_c (Or.inl (dg_iload dL_law_210)) <| dr_c (Or.inl dg_no) <| dr_c (Or.inl (dg_iconst (by decide) dL_law_212)) <| dr_c (Or.inl (dg_iadd dL_law_213)) <| dr_c (Or.inl (dg_sld dL_law_214)) <| dr_c (Or.inl (dg_inv dL_law_215 mo_97 rfl rfl wd_453 wd_454 wd_455 pd_97)) <| dr_c (Or.inl dg_no) <| dr_c (Or.inl dg_no) <| dr_c (Or.inl (dg_pop dL_law_218)) <| dr_c (Or.inl (dg_aload_n (k := 2) rfl dL_law_219)) <| dr_c (Or.inl (dg_aload_n (k := 0) rfl dL_law_220)) <| dr_c (Or.inl (dg_iload dL_law_221)) <| dr_c (Or.inl dg_no) <| dr_c (Or.inl (dg_iconst (by decide) dL_law_223)) <| dr_n
theorem tr_L_14 (L : Nat) (xs : Nat → Int32) (f1 f2 : dm_Sem) : dm_AllR (lw_ok L xs f1 f2) 224 [dm_ii 225 (fun x y => x + y), dm_sld 226 L xs, dm_inv 229 162 1 8, dm_no, dm_no, dm_pop 230, dm_goto 1199, dm_no, dm_no, dm_ald 234 1, dm_ald 235 0, dm_ild 237 4, dm_no, dm_push 238 (.int 1), dm_ii 239 (fun x y => x + y), dm_sld 240 L xs] := dr_c (Or.inl (dg_iadd dL_law_224)) <| dr_c (Or.inl (dg_sld dL_law_225)) <| dr_c (Or.inl (dg_inv dL_law_226 mo_162 rfl rfl wd_1197 wd_1198 wd_1199 pd_162)) <| dr_c (Or.inl dg_no) <| dr_c (Or.inl dg_no) <| dr_c (Or.inl (dg_pop dL_law_229)) <| dr_c (Or.inl (dg_goto (by decide) dL_law_230)) <| dr_c (Or.inl dg_no) <| dr_c (Or.inl dg_no) <| dr_c (Or.inl (dg_aload_n (k := 1) rfl dL_law_233)) <| dr_c (Or.inl (dg_aload_n (k := 0) rfl dL_law_234)) <| dr_c (Or.inl (dg_iload dL_law_235)) <| dr_c (Or.inl dg_no) <| dr_c (Or.inl (dg_iconst (by decide) dL_law_237)) <| dr_c (Or.inl (dg_iadd dL_law_238)) <| dr_c (Or.inl (dg_sld dL_law_239)) <| dr_n
theorem tr_L_15 (L : Nat) (xs : Nat → Int32) (f1 f2 : dm_Sem) : dm_AllR (lw_ok L xs f1 f2) 240 [dm_ald 241 0, dm_ild 243 4, dm_no, dm_push 244 (.int 2), dm_ii 245 (fun x y => x + y), dm_sld 246 L xs, dm_inv 249 98 2 7, dm_no, dm_no, dm_pop 250, dm_ald 251 2, dm_ald 252 0, dm_ild 254 4, dm_no, dm_push 255 (.int 1), dm_ii 256 (fun x y => x + y)] := dr_c (Or.inl (dg_aload_n (k := 0) rfl dL_law_240)) <| dr_c (Or.inl (dg_iload dL_law_241)) <| dr_c (Or.inl dg_no) <| dr_c (Or.inl (dg_iconst (by decide) dL_law_243)) <| dr_c (Or.inl (dg_iadd dL_law_244)) <| dr_c (Or.inl (dg_sld dL_law_245)) <| dr_c (Or.inl (dg_inv dL_law_246 mo_98 rfl rfl wd_502 wd_503 wd_504 pd_98)) <| dr_c (Or.inl dg_no) <| dr_c (Or.inl dg_no) <| dr_c (Or.inl (dg_pop dL_law_249)) <| dr_c (Or.inl (dg_aload_n (k := 2) rfl dL_law_250)) <| dr_c (Or.inl (dg_aload_n (k := 0) rfl dL_law_251)) <| dr_c (Or.inl (dg_iload dL_law_252)) <| dr_c (Or.inl dg_no) <| dr_c (Or.inl (dg_iconst (by decide) dL_law_254)) <| dr_c (Or.inl (dg_iadd dL_law_255)) <| dr_n
theorem tr_L_16 (L : Nat) (xs : Nat → Int32) (f1 f2 : dm_Sem) : dm_AllR (lw_ok L xs f1 f2) 256 [dm_sld 257 L xs, dm_ald 258 0, dm_ild 260 4, dm_no, dm_push 261 (.int 2), dm_ii 262 (fun x y => x + y), dm_sld 263 L xs, dm_inv 266 166 2 8, dm_no, dm_no, dm_pop 267, dm_goto 1199, dm_no, dm_no, dm_ald 271 1, dm_ald 272 0] := dr_c (Or.inl (dg_sld dL_law_256)) <| dr_c (Or.inl (dg_aload_n (k := 0) rfl dL_law_257)) <| dr_c (Or.inl (dg_iload dL_law_258)) <| dr_c (Or.inl dg_no) <| dr_c (Or.inl (dg_iconst (by decide) dL_law_260)) <| dr_c (Or.inl (dg_iadd dL_law_261)) <| dr_c (Or.inl (dg_sld dL_law_262)) <| dr_c (Or.inl (dg_inv dL_law_263 mo_166 rfl rfl wd_1238 wd_1239 wd_1240 pd_166)) <| dr_c (Or.inl dg_no) <| dr_c (Or.inl dg_no) <| dr_c (Or.inl (dg_pop dL_law_266)) <| dr_c (Or.inl (dg_goto (by decide) dL_law_267)) <| dr_c (Or.inl dg_no) <| dr_c (Or.inl dg_no) <| dr_c (Or.inl (dg_aload_n (k := 1) rfl dL_law_270)) <| dr_c (Or.inl (dg_aload_n (k := 0) rfl dL_law_271)) <| dr_n
theorem tr_L_17 (L : Nat) (xs : Nat → Int32) (f1 f2 : dm_Sem) : dm_AllR (lw_ok L xs f1 f2) 272 [dm_ild 274 4, dm_no, dm_push 275 (.int 1), dm_ii 276 (fun x y => x + y), dm_sld 277 L xs, dm_inv 280 99 1 7, dm_no, dm_no, dm_pop 281, dm_ald 282 2, dm_ald 283 0, dm_ild 285 4, dm_no, dm_push 286 (.int 1), dm_ii 287 (fun x y => x + y), dm_sld 288 L xs] := dr_c (Or.inl (dg_iload dL_law_272)) <| dr_c (Or.inl dg_no) <| dr_c (Or.inl (dg_iconst (by decide) dL_law_274)) <| dr_c (Or.inl (dg_iadd dL_law_275)) <| dr_c (Or.inl (dg_sld dL_law_276)) <| dr_c (Or.inl (dg_inv dL_law_277 mo_99 rfl rfl wd_521 wd_522 wd_523 pd_99)) <| dr_c (Or.inl dg_no) <| dr_c (Or.inl dg_no) <| dr_c (Or.inl (dg_pop dL_law_280)) <| dr_c (Or.inl (dg_aload_n (k := 2) rfl dL_law_281)) <| dr_c (Or.inl (dg_aload_n (k := 0) rfl dL_law_282)) <| dr_c (Or.inl (dg_iload dL_law_283)) <| dr_c (Or.inl dg_no) <| dr_c (Or.inl (dg_iconst (by decide) dL_law_285)) <| dr_c (Or.inl (dg_iadd dL_law_286)) <| dr_c (Or.inl (dg_sld dL_law_287)) <| dr_n
theorem tr_L_18 (L : Nat) (xs : Nat → Int32) (f1 f2 : dm_Sem) : dm_AllR (lw_ok L xs f1 f2) 288 [dm_inv 291 167 1 8, dm_no, dm_no, dm_pop 292, dm_goto 1199, dm_no, dm_no, dm_ald 296 1, dm_ald 297 0, dm_ild 299 4, dm_no, dm_push 300 (.int 1), dm_ii 301 (fun x y => x + y), dm_sld 302 L xs, dm_inv 305 100 1 7, dm_no] := dr_c (Or.inl (dg_inv dL_law_288 mo_167 rfl rfl wd_1254 wd_1255 wd_1256 pd_167)) <| dr_c (Or.inl dg_no) <| dr_c (Or.inl dg_no) <| dr_c (Or.inl (dg_pop dL_law_291)) <| dr_c (Or.inl (dg_goto (by decide) dL_law_292)) <| dr_c (Or.inl dg_no) <| dr_c (Or.inl dg_no) <| dr_c (Or.inl (dg_aload_n (k := 1) rfl dL_law_295)) <| dr_c (Or.inl (dg_aload_n (k := 0) rfl dL_law_296)) <| dr_c (Or.inl (dg_iload dL_law_297)) <| dr_c (Or.inl dg_no) <| dr_c (Or.inl (dg_iconst (by decide) dL_law_299)) <| dr_c (Or.inl (dg_iadd dL_law_300)) <| dr_c (Or.inl (dg_sld dL_law_301)) <| dr_c (Or.inl (dg_inv dL_law_302 mo_100 rfl rfl wd_529 wd_530 wd_531 pd_100)) <| dr_c (Or.inl dg_no) <| dr_n
theorem tr_L_19 (L : Nat) (xs : Nat → Int32) (f1 f2 : dm_Sem) : dm_AllR (lw_ok L xs f1 f2) 304 [dm_no, dm_pop 306, dm_ald 307 2, dm_ald 308 0, dm_ild 310 4, dm_no, dm_push 311 (.int 1), dm_ii 312 (fun x y => x + y), dm_sld 313 L xs, dm_inv 316 168 1 8, dm_no, dm_no, dm_pop 317, dm_goto 1199, dm_no, dm_no] := dr_c (Or.inl dg_no) <| dr_c (Or.inl (dg_pop dL_law_305)) <| dr_c (Or.inl (dg_aload_n (k := 2) rfl dL_law_306)) <| dr_c (Or.inl (dg_aload_n (k := 0) rfl dL_law_307)) <| dr_c (Or.inl (dg_iload dL_law_308)) <| dr_c (Or.inl dg_no) <| dr_c (Or.inl (dg_iconst (by decide) dL_law_310)) <| dr_c (Or.inl (dg_iadd dL_law_311)) <| dr_c (Or.inl (dg_sld dL_law_312)) <| dr_c (Or.inl (dg_inv dL_law_313 mo_168 rfl rfl wd_1258 wd_1259 wd_1260 pd_168)) <| dr_c (Or.inl dg_no) <| dr_c (Or.inl dg_no) <| dr_c (Or.inl (dg_pop dL_law_316)) <| dr_c (Or.inl (dg_goto (by decide) dL_law_317)) <| dr_c (Or.inl dg_no) <| dr_c (Or.inl dg_no) <| dr_n
theorem tr_L_20 (L : Nat) (xs : Nat → Int32) (f1 f2 : dm_Sem) : dm_AllR (lw_ok L xs f1 f2) 320 [dm_ald 321 1, dm_ald 322 0, dm_ild 324 4, dm_no, dm_push 325 (.int 1), dm_ii 326 (fun x y => x + y), dm_sld 327 L xs, dm_ald 328 0, dm_ild 330 4, dm_no, dm_push 331 (.int 2), dm_ii 332 (fun x y => x + y), dm_sld 333 L xs, dm_inv 336 101 2 7, dm_no, dm_no] := dr_c (Or.inl (dg_aload_n (k := 1) rfl dL_law_320)) <| dr_c (Or.inl (dg_aload_n (k := 0) rfl dL_law_321)) <| dr_c (Or.inl (dg_iload dL_law_322)) <| dr_c (Or.inl dg_no) <| dr_c (Or.inl (dg_iconst (by decide) dL_law_324)) <| dr_c (Or.inl (dg_iadd dL_law_325)) <| dr_c (Or.inl (dg_sld dL_law_326)) <| dr_c (Or.inl (dg_aload_n (k := 0) rfl dL_law_327)) <| dr_c (Or.inl (dg_iload dL_law_328)) <| dr_c (Or.inl dg_no) <| dr_c (Or.inl (dg_iconst (by decide) dL_law_330)) <| dr_c (Or.inl (dg_iadd dL_law_331)) <| dr_c (Or.inl (dg_sld dL_law_332)) <| dr_c (Or.inl (dg_inv dL_law_333 mo_101 rfl rfl wd_533 wd_534 wd_535 pd_101)) <| dr_c (Or.inl dg_no) <| dr_c (Or.inl dg_no) <| dr_n
theorem tr_L_21 (L : Nat) (xs : Nat → Int32) (f1 f2 : dm_Sem) : dm_AllR (lw_ok L xs f1 f2) 336 [dm_pop 337, dm_ald 338 2, dm_ald 339 0, dm_ild 341 4, dm_no, dm_push 342 (.int 1), dm_ii 343 (fun x y => x + y), dm_sld 344 L xs, dm_ald 345 0, dm_ild 347 4, dm_no, dm_push 348 (.int 2), dm_ii 349 (fun x y => x + y), dm_sld 350 L xs, dm_inv 353 169 2 8, dm_no] := dr_c (Or.inl (dg_pop dL_law_336)) <| dr_c (Or.inl (dg_aload_n (k := 2) rfl dL_law_337)) <| dr_c (Or.inl (dg_aload_n (k := 0) rfl dL_law_338)) <| dr_c (Or.inl (dg_iload dL_law_339)) <| dr_c (Or.inl dg_no) <| dr_c (Or.inl (dg_iconst (by decide) dL_law_341)) <| dr_c (Or.inl (dg_iadd dL_law_342)) <| dr_c (Or.inl (dg_sld dL_law_343)) <| dr_c (Or.inl (dg_aload_n (k := 0) rfl dL_law_344)) <| dr_c (Or.inl (dg_iload dL_law_345)) <| dr_c (Or.inl dg_no) <| dr_c (Or.inl (dg_iconst (by decide) dL_law_347)) <| dr_c (Or.inl (dg_iadd dL_law_348)) <| dr_c (Or.inl (dg_sld dL_law_349)) <| dr_c (Or.inl (dg_inv dL_law_350 mo_169 rfl rfl wd_1262 wd_1263 wd_1264 pd_169)) <| dr_c (Or.inl dg_no) <| dr_n
theorem tr_L_22 (L : Nat) (xs : Nat → Int32) (f1 f2 : dm_Sem) : dm_AllR (lw_ok L xs f1 f2) 352 [dm_no, dm_pop 354, dm_goto 1199, dm_no, dm_no, dm_ald 358 1, dm_ald 359 0, dm_ild 361 4, dm_no, dm_push 362 (.int 1), dm_ii 363 (fun x y => x + y), dm_sld 364 L xs, dm_inv 367 102 1 7, dm_no, dm_no, dm_pop 368] := dr_c (Or.inl dg_no) <| dr_c (Or.inl (dg_pop dL_law_353)) <| dr_c (Or.inl (dg_goto (by decide) dL_law_354)) <| dr_c (Or.inl dg_no) <| dr_c (Or.inl dg_no) <| dr_c (Or.inl (dg_aload_n (k := 1) rfl dL_law_357)) <| dr_c (Or.inl (dg_aload_n (k := 0) rfl dL_law_358)) <| dr_c (Or.inl (dg_iload dL_law_359)) <| dr_c (Or.inl dg_no) <| dr_c (Or.inl (dg_iconst (by decide) dL_law_361)) <| dr_c (Or.inl (dg_iadd dL_law_362)) <| dr_c (Or.inl (dg_sld dL_law_363)) <| dr_c (Or.inl (dg_inv dL_law_364 mo_102 rfl rfl wd_537 wd_538 wd_539 pd_102)) <| dr_c (Or.inl dg_no) <| dr_c (Or.inl dg_no) <| dr_c (Or.inl (dg_pop dL_law_367)) <| dr_n
theorem tr_L_23 (L : Nat) (xs : Nat → Int32) (f1 f2 : dm_Sem) : dm_AllR (lw_ok L xs f1 f2) 368 [dm_ald 369 2, dm_ald 370 0, dm_ild 372 4, dm_no, dm_push 373 (.int 1), dm_ii 374 (fun x y => x + y), dm_sld 375 L xs, dm_inv 378 170 1 8, dm_no, dm_no, dm_pop 379, dm_goto 1199, dm_no, dm_no, dm_ald 383 1, dm_ald 384 0] := dr_c (Or.inl (dg_aload_n (k := 2) rfl dL_law_368)) <| dr_c (Or.inl (dg_aload_n (k := 0) rfl dL_law_369)) <| dr_c (Or.inl (dg_iload dL_law_370)) <| dr_c (Or.inl dg_no) <| dr_c (Or.inl (dg_iconst (by decide) dL_law_372)) <| dr_c (Or.inl (dg_iadd dL_law_373)) <| dr_c (Or.inl (dg_sld dL_law_374)) <| dr_c (Or.inl (dg_inv dL_law_375 mo_170 rfl rfl wd_1266 wd_1267 wd_1268 pd_170)) <| dr_c (Or.inl dg_no) <| dr_c (Or.inl dg_no) <| dr_c (Or.inl (dg_pop dL_law_378)) <| dr_c (Or.inl (dg_goto (by decide) dL_law_379)) <| dr_c (Or.inl dg_no) <| dr_c (Or.inl dg_no) <| dr_c (Or.inl (dg_aload_n (k := 1) rfl dL_law_382)) <| dr_c (Or.inl (dg_aload_n (k := 0) rfl dL_law_383)) <| dr_n
theorem tr_L_24 (L : Nat) (xs : Nat → Int32) (f1 f2 : dm_Sem) : dm_AllR (lw_ok L xs f1 f2) 384 [dm_ild 386 4, dm_no, dm_push 387 (.int 1), dm_ii 388 (fun x y => x + y), dm_sld 389 L xs, dm_ald 390 0, dm_ild 392 4, dm_no, dm_push 393 (.int 2), dm_ii 394 (fun x y => x + y), dm_sld 395 L xs, dm_inv 398 103 2 7, dm_no, dm_no, dm_pop 399, dm_ald 400 2] := dr_c (Or.inl (dg_iload dL_law_384)) <| dr_c (Or.inl dg_no) <| dr_c (Or.inl (dg_iconst (by decide) dL_law_386)) <| dr_c (Or.inl (dg_iadd dL_law_387)) <| dr_c (Or.inl (dg_sld dL_law_388)) <| dr_c (Or.inl (dg_aload_n (k := 0) rfl dL_law_389)) <| dr_c (Or.inl (dg_iload dL_law_390)) <| dr_c (Or.inl dg_no) <| dr_c (Or.inl (dg_iconst (by decide) dL_law_392)) <| dr_c (Or.inl (dg_iadd dL_law_393)) <| dr_c (Or.inl (dg_sld dL_law_394)) <| dr_c (Or.inl (dg_inv dL_law_395 mo_103 rfl rfl wd_542 wd_543 wd_544 pd_103)) <| dr_c (Or.inl dg_no) <| dr_c (Or.inl dg_no) <| dr_c (Or.inl (dg_pop dL_law_398)) <| dr_c (Or.inl (dg_aload_n (k := 2) rfl dL_law_399)) <| dr_n
theorem tr_L_25 (L : Nat) (xs : Nat → Int32) (f1 f2 : dm_Sem) : dm_AllR (lw_ok L xs f1 f2) 400 [dm_ald 401 0, dm_ild 403 4, dm_no, dm_push 404 (.int 1), dm_ii 405 (fun x y => x + y), dm_sld 406 L xs, dm_ald 407 0, dm_ild 409 4, dm_no, dm_push 410 (.int 2), dm_ii 411 (fun x y => x + y), dm_sld 412 L xs, dm_inv 415 171 2 8, dm_no, dm_no, dm_pop 416] := dr_c (Or.inl (dg_aload_n (k := 0) rfl dL_law_400)) <| dr_c (Or.inl (dg_iload dL_law_401)) <| dr_c (Or.inl dg_no) <| dr_c (Or.inl (dg_iconst (by decide) dL_law_403)) <| dr_c (Or.inl (dg_iadd dL_law_404)) <| dr_c (Or.inl (dg_sld dL_law_405)) <| dr_c (Or.inl (dg_aload_n (k := 0) rfl dL_law_406)) <| dr_c (Or.inl (dg_iload dL_law_407)) <| dr_c (Or.inl dg_no) <| dr_c (Or.inl (dg_iconst (by decide) dL_law_409)) <| dr_c (Or.inl (dg_iadd dL_law_410)) <| dr_c (Or.inl (dg_sld dL_law_411)) <| dr_c (Or.inl (dg_inv dL_law_412 mo_171 rfl rfl wd_1270 wd_1271 wd_1272 pd_171)) <| dr_c (Or.inl dg_no) <| dr_c (Or.inl dg_no) <| dr_c (Or.inl (dg_pop dL_law_415)) <| dr_n
theorem tr_L_26 (L : Nat) (xs : Nat → Int32) (f1 f2 : dm_Sem) : dm_AllR (lw_ok L xs f1 f2) 416 [dm_goto 1199, dm_no, dm_no, dm_ald 420 1, dm_inv 423 104 0 7, dm_no, dm_no, dm_pop 424, dm_ald 425 2, dm_inv 428 172 0 8, dm_no, dm_no, dm_pop 429, dm_goto 1199, dm_no, dm_no] := dr_c (Or.inl (dg_goto (by decide) dL_law_416)) <| dr_c (Or.inl dg_no) <| dr_c (Or.inl dg_no) <| dr_c (Or.inl (dg_aload_n (k := 1) rfl dL_law_419)) <| dr_c (Or.inl (dg_inv dL_law_420 mo_104 rfl rfl wd_564 wd_565 wd_566 pd_104)) <| dr_c (Or.inl dg_no) <| dr_c (Or.inl dg_no) <| dr_c (Or.inl (dg_pop dL_law_423)) <| dr_c (Or.inl (dg_aload_n (k := 2) rfl dL_law_424)) <| dr_c (Or.inl (dg_inv dL_law_425 mo_172 rfl rfl wd_1278 wd_1279 wd_1280 pd_172)) <| dr_c (Or.inl dg_no) <| dr_c (Or.inl dg_no) <| dr_c (Or.inl (dg_pop dL_law_428)) <| dr_c (Or.inl (dg_goto (by decide) dL_law_429)) <| dr_c (Or.inl dg_no) <| dr_c (Or.inl dg_no) <| dr_n
theorem tr_L_27 (L : Nat) (xs : Nat → Int32) (f1 f2 : dm_Sem) : dm_AllR (lw_ok L xs f1 f2) 432 [dm_ald 433 1, dm_ald 434 0, dm_ild 436 4, dm_no, dm_push 437 (.int 1), dm_ii 438 (fun x y => x + y), dm_sld 439 L xs, dm_ald 440 0, dm_ild 442 4, dm_no, dm_push 443 (.int 2), dm_ii 444 (fun x y => x + y), dm_sld 445 L xs, dm_inv 448 105 2 7, dm_no, dm_no] := dr_c (Or.inl (dg_aload_n (k := 1) rfl dL_law_432)) <| dr_c (Or.inl (dg_aload_n (k := 0) rfl dL_law_433)) <| dr_c (Or.inl (dg_iload dL_law_434)) <| dr_c (Or.inl dg_no) <| dr_c (Or.inl (dg_iconst (by decide) dL_law_436)) <| dr_c (Or.inl (dg_iadd dL_law_437)) <| dr_c (Or.inl (dg_sld dL_law_438)) <| dr_c (Or.inl (dg_aload_n (k := 0) rfl dL_law_439)) <| dr_c (Or.inl (dg_iload dL_law_440)) <| dr_c (Or.inl dg_no) <| dr_c (Or.inl (dg_iconst (by decide) dL_law_442)) <| dr_c (Or.inl (dg_iadd dL_law_443)) <| dr_c (Or.inl (dg_sld dL_law_444)) <| dr_c (Or.inl (dg_inv dL_law_445 mo_105 rfl rfl wd_575 wd_576 wd_577 pd_105)) <| dr_c (Or.inl dg_no) <| dr_c (Or.inl dg_no) <| dr_n
theorem tr_L_28 (L : Nat) (xs : Nat → Int32) (f1 f2 : dm_Sem) : dm_AllR (lw_ok L xs f1 f2) 448 [dm_pop 449, dm_ald 450 2, dm_ald 451 0, dm_ild 453 4, dm_no, dm_push 454 (.int 1), dm_ii 455 (fun x y => x + y), dm_sld 456 L xs, dm_ald 457 0, dm_ild 459 4, dm_no, dm_push 460 (.int 2), dm_ii 461 (fun x y => x + y), dm_sld 462 L xs, dm_inv 465 174 2 8, dm_no] := dr_c (Or.inl (dg_pop dL_law_448)) <| dr_c (Or.inl (dg_aload_n (k := 2) rfl dL_law_449)) <| dr_c (Or.inl (dg_aload_n (k := 0) rfl dL_law_450)) <| dr_c (Or.inl (dg_iload dL_law_451)) <| dr_c (Or.inl dg_no) <| dr_c (Or.inl (dg_iconst (by decide) dL_law_453)) <| dr_c (Or.inl (dg_iadd dL_law_454)) <| dr_c (Or.inl (dg_sld dL_law_455)) <| dr_c (Or.inl (dg_aload_n (k := 0) rfl dL_law_456)) <| dr_c (Or.inl (dg_iload dL_law_457)) <| dr_c (Or.inl dg_no) <| dr_c (Or.inl (dg_iconst (by decide) dL_law_459)) <| dr_c (Or.inl (dg_iadd dL_law_460)) <| dr_c (Or.inl (dg_sld dL_law_461)) <| dr_c (Or.inl (dg_inv dL_law_462 mo_174 rfl rfl wd_1282 wd_1283 wd_1284 pd_174)) <| dr_c (Or.inl dg_no) <| dr_n
theorem tr_L_29 (L : Nat) (xs : Nat → Int32) (f1 f2 : dm_Sem) : dm_AllR (lw_ok L xs f1 f2) 464 [dm_no, dm_pop 466, dm_goto 1199, dm_no, dm_no, dm_ald 470 1, dm_ald 471 0, dm_ild 473 4, dm_no, dm_push 474 (.int 1), dm_ii 475 (fun x y => x + y), dm_sld 476 L xs, dm_ald 477 0, dm_ild 479 4, dm_no, dm_push 480 (.int 2)] := dr_c (Or.inl dg_no) <| dr_c (Or.inl (dg_pop dL_law_465)) <| dr_c (Or.inl (dg_goto (by decide) dL_law_466)) <| dr_c (Or.inl dg_no) <| dr_c (Or.inl dg_no) <| dr_c (Or.inl (dg_aload_n (k := 1) rfl dL_law_469)) <| dr_c (Or.inl (dg_aload_n (k := 0) rfl dL_law_470)) <| dr_c (Or.inl (dg_iload dL_law_471)) <| dr_c (Or.inl dg_no) <| dr_c (Or.inl (dg_iconst (by decide) dL_law_473)) <| dr_c (Or.inl (dg_iadd dL_law_474)) <| dr_c (Or.inl (dg_sld dL_law_475)) <| dr_c (Or.inl (dg_aload_n (k := 0) rfl dL_law_476)) <| dr_c (Or.inl (dg_iload dL_law_477)) <| dr_c (Or.inl dg_no) <| dr_c (Or.inl (dg_iconst (by decide) dL_law_479)) <| dr_n
theorem tr_L_30 (L : Nat) (xs : Nat → Int32) (f1 f2 : dm_Sem) : dm_AllR (lw_ok L xs f1 f2) 480 [dm_ii 481 (fun x y => x + y), dm_sld 482 L xs, dm_inv 485 106 2 7, dm_no, dm_no, dm_pop 486, dm_ald 487 2, dm_ald 488 0, dm_ild 490 4, dm_no, dm_push 491 (.int 1), dm_ii 492 (fun x y => x + y), dm_sld 493 L xs, dm_ald 494 0, dm_ild 496 4, dm_no] := dr_c (Or.inl (dg_iadd dL_law_480)) <| dr_c (Or.inl (dg_sld dL_law_481)) <| dr_c (Or.inl (dg_inv dL_law_482 mo_106 rfl rfl wd_580 wd_581 wd_582 pd_106)) <| dr_c (Or.inl dg_no) <| dr_c (Or.inl dg_no) <| dr_c (Or.inl (dg_pop dL_law_485)) <| dr_c (Or.inl (dg_aload_n (k := 2) rfl dL_law_486)) <| dr_c (Or.inl (dg_aload_n (k := 0) rfl dL_law_487)) <| dr_c (Or.inl (dg_iload dL_law_488)) <| dr_c (Or.inl dg_no) <| dr_c (Or.inl (dg_iconst (by decide) dL_law_490)) <| dr_c (Or.inl (dg_iadd dL_law_491)) <| dr_c (Or.inl (dg_sld dL_law_492)) <| dr_c (Or.inl (dg_aload_n (k := 0) rfl dL_law_493)) <| dr_c (Or.inl (dg_iload dL_law_494)) <| dr_c (Or.inl dg_no) <| dr_n
theorem tr_L_31 (L : Nat) (xs : Nat → Int32) (f1 f2 : dm_Sem) : dm_AllR (lw_ok L xs f1 f2) 496 [dm_push 497 (.int 2), dm_ii 498 (fun x y => x + y), dm_sld 499 L xs, dm_inv 502 175 2 8, dm_no, dm_no, dm_pop 503, dm_goto 1199, dm_no, dm_no, dm_ald 507 1, dm_ald 508 0, dm_ild 510 4, dm_no, dm_push 511 (.int 1), dm_ii 512 (fun x y => x + y)] := dr_c (Or.inl (dg_iconst (by decide) dL_law_496)) <| dr_c (Or.inl (dg_iadd dL_law_497)) <| dr_c (Or.inl (dg_sld dL_law_498)) <| dr_c (Or.inl (dg_inv dL_law_499 mo_175 rfl rfl wd_1286 wd_1287 wd_1288 pd_175)) <| dr_c (Or.inl dg_no) <| dr_c (Or.inl dg_no) <| dr_c (Or.inl (dg_pop dL_law_502)) <| dr_c (Or.inl (dg_goto (by decide) dL_law_503)) <| dr_c (Or.inl dg_no) <| dr_c (Or.inl dg_no) <| dr_c (Or.inl (dg_aload_n (k := 1) rfl dL_law_506)) <| dr_c (Or.inl (dg_aload_n (k := 0) rfl dL_law_507)) <| dr_c (Or.inl (dg_iload dL_law_508)) <| dr_c (Or.inl dg_no) <| dr_c (Or.inl (dg_iconst (by decide) dL_law_510)) <| dr_c (Or.inl (dg_iadd dL_law_511)) <| dr_n
theorem tr_L_32 (L : Nat) (xs : Nat → Int32) (f1 f2 : dm_Sem) : dm_AllR (lw_ok L xs f1 f2) 512 [dm_sld 513 L xs, dm_ald 514 0, dm_ild 516 4, dm_no, dm_push 517 (.int 2), dm_ii 518 (fun x y => x + y), dm_sld 519 L xs, dm_inv 522 107 2 7, dm_no, dm_no, dm_pop 523, dm_ald 524 2, dm_ald 525 0, dm_ild 527 4, dm_no, dm_push 528 (.int 1)] := dr_c (Or.inl (dg_sld dL_law_512)) <| dr_c (Or.inl (dg_aload_n (k := 0) rfl dL_law_513)) <| dr_c (Or.inl (dg_iload dL_law_514)) <| dr_c (Or.inl dg_no) <| dr_c (Or.inl (dg_iconst (by decide) dL_law_516)) <| dr_c (Or.inl (dg_iadd dL_law_517)) <| dr_c (Or.inl (dg_sld dL_law_518)) <| dr_c (Or.inl (dg_inv dL_law_519 mo_107 rfl rfl wd_609 wd_610 wd_611 pd_107)) <| dr_c (Or.inl dg_no) <| dr_c (Or.inl dg_no) <| dr_c (Or.inl (dg_pop dL_law_522)) <| dr_c (Or.inl (dg_aload_n (k := 2) rfl dL_law_523)) <| dr_c (Or.inl (dg_aload_n (k := 0) rfl dL_law_524)) <| dr_c (Or.inl (dg_iload dL_law_525)) <| dr_c (Or.inl dg_no) <| dr_c (Or.inl (dg_iconst (by decide) dL_law_527)) <| dr_n
theorem tr_L_33 (L : Nat) (xs : Nat → Int32) (f1 f2 : dm_Sem) : dm_AllR (lw_ok L xs f1 f2) 528 [dm_ii 529 (fun x y => x + y), dm_sld 530 L xs, dm_ald 531 0, dm_ild 533 4, dm_no, dm_push 534 (.int 2), dm_ii 535 (fun x y => x + y), dm_sld 536 L xs, dm_inv 539 176 2 8, dm_no, dm_no, dm_pop 540, dm_goto 1199, dm_no, dm_no, dm_ald 544 1] := dr_c (Or.inl (dg_iadd dL_law_528)) <| dr_c (Or.inl (dg_sld dL_law_529)) <| dr_c (Or.inl (dg_aload_n (k := 0) rfl dL_law_530)) <| dr_c (Or.inl (dg_iload dL_law_531)) <| dr_c (Or.inl dg_no) <| dr_c (Or.inl (dg_iconst (by decide) dL_law_533)) <| dr_c (Or.inl (dg_iadd dL_law_534)) <| dr_c (Or.inl (dg_sld dL_law_535)) <| dr_c (Or.inl (dg_inv dL_law_536 mo_176 rfl rfl wd_1297 wd_1298 wd_1299 pd_176)) <| dr_c (Or.inl dg_no) <| dr_c (Or.inl dg_no) <| dr_c (Or.inl (dg_pop dL_law_539)) <| dr_c (Or.inl (dg_goto (by decide) dL_law_540)) <| dr_c (Or.inl dg_no) <| dr_c (Or.inl dg_no) <| dr_c (Or.inl (dg_aload_n (k := 1) rfl dL_law_543)) <| dr_n
theorem tr_L_34 (L : Nat) (xs : Nat → Int32) (f1 f2 : dm_Sem) : dm_AllR (lw_ok L xs f1 f2) 544 [dm_ald 545 0, dm_ild 547 4, dm_no, dm_push 548 (.int 1), dm_ii 549 (fun x y => x + y), dm_sld 550 L xs, dm_ald 551 0, dm_ild 553 4, dm_no, dm_push 554 (.int 2), dm_ii 555 (fun x y => x + y), dm_sld 556 L xs, dm_i1 557 (fun x => .long x.toInt64), dm_push 559 (.int 32), dm_no, dm_li 560 (fun x y => x <<< (y.toInt64 &&& 63))] := dr_c (Or.inl (dg_aload_n (k := 0) rfl dL_law_544)) <| dr_c (Or.inl (dg_iload dL_law_545)) <| dr_c (Or.inl dg_no) <| dr_c (Or.inl (dg_iconst (by decide) dL_law_547)) <| dr_c (Or.inl (dg_iadd dL_law_548)) <| dr_c (Or.inl (dg_sld dL_law_549)) <| dr_c (Or.inl (dg_aload_n (k := 0) rfl dL_law_550)) <| dr_c (Or.inl (dg_iload dL_law_551)) <| dr_c (Or.inl dg_no) <| dr_c (Or.inl (dg_iconst (by decide) dL_law_553)) <| dr_c (Or.inl (dg_iadd dL_law_554)) <| dr_c (Or.inl (dg_sld dL_law_555)) <| dr_c (Or.inl (dg_i2l dL_law_556)) <| dr_c (Or.inl (dg_bipush (by decide) dL_law_557)) <| dr_c (Or.inl dg_no) <| dr_c (Or.inl (dg_lshl dL_law_559)) <| dr_n
theorem tr_L_35 (L : Nat) (xs : Nat → Int32) (f1 f2 : dm_Sem) : dm_AllR (lw_ok L xs f1 f2) 560 [dm_ald 561 0, dm_ild 563 4, dm_no, dm_push 564 (.int 3), dm_ii 565 (fun x y => x + y), dm_sld 566 L xs, dm_i1 567 (fun x => .long x.toInt64), dm_push 570 (.long 4294967295), dm_no, dm_no, dm_ll 571 (fun x y => x &&& y), dm_ll 572 (fun x y => x ||| y), dm_ald 573 0, dm_ild 575 4, dm_no, dm_push 576 (.int 4)] := dr_c (Or.inl (dg_aload_n (k := 0) rfl dL_law_560)) <| dr_c (Or.inl (dg_iload dL_law_561)) <| dr_c (Or.inl dg_no) <| dr_c (Or.inl (dg_iconst (by decide) dL_law_563)) <| dr_c (Or.inl (dg_iadd dL_law_564)) <| dr_c (Or.inl (dg_sld dL_law_565)) <| dr_c (Or.inl (dg_i2l dL_law_566)) <| dr_c (Or.inl (dg_ldc2 wd_1425 dL_law_567)) <| dr_c (Or.inl dg_no) <| dr_c (Or.inl dg_no) <| dr_c (Or.inl (dg_land dL_law_570)) <| dr_c (Or.inl (dg_lor dL_law_571)) <| dr_c (Or.inl (dg_aload_n (k := 0) rfl dL_law_572)) <| dr_c (Or.inl (dg_iload dL_law_573)) <| dr_c (Or.inl dg_no) <| dr_c (Or.inl (dg_iconst (by decide) dL_law_575)) <| dr_n
theorem tr_L_36 (L : Nat) (xs : Nat → Int32) (f1 f2 : dm_Sem) : dm_AllR (lw_ok L xs f1 f2) 576 [dm_ii 577 (fun x y => x + y), dm_sld 578 L xs, dm_ald 579 3, f1, dm_no, dm_no, dm_ist 584 5, dm_no, dm_ald 585 2, dm_ald 586 0, dm_ild 588 4, dm_no, dm_push 589 (.int 1), dm_ii 590 (fun x y => x + y), dm_sld 591 L xs, dm_ald 592 0] := dr_c (Or.inl (dg_iadd dL_law_576)) <| dr_c (Or.inl (dg_sld dL_law_577)) <| dr_c (Or.inl (dg_aload_n (k := 3) rfl dL_law_578)) <| dr_c (Or.inr (Or.inl ⟨rfl, rfl⟩)) <| dr_c (Or.inl dg_no) <| dr_c (Or.inl dg_no) <| dr_c (Or.inl (dg_istore (by decide) dL_law_582)) <| dr_c (Or.inl dg_no) <| dr_c (Or.inl (dg_aload_n (k := 2) rfl dL_law_584)) <| dr_c (Or.inl (dg_aload_n (k := 0) rfl dL_law_585)) <| dr_c (Or.inl (dg_iload dL_law_586)) <| dr_c (Or.inl dg_no) <| dr_c (Or.inl (dg_iconst (by decide) dL_law_588)) <| dr_c (Or.inl (dg_iadd dL_law_589)) <| dr_c (Or.inl (dg_sld dL_law_590)) <| dr_c (Or.inl (dg_aload_n (k := 0) rfl dL_law_591)) <| dr_n
theorem tr_L_37 (L : Nat) (xs : Nat → Int32) (f1 f2 : dm_Sem) : dm_AllR (lw_ok L xs f1 f2) 592 [dm_ild 594 4, dm_no, dm_push 595 (.int 2), dm_ii 596 (fun x y => x + y), dm_sld 597 L xs, dm_i1 598 (fun x => .long x.toInt64), dm_push 600 (.int 32), dm_no, dm_li 601 (fun x y => x <<< (y.toInt64 &&& 63)), dm_ald 602 0, dm_ild 604 4, dm_no, dm_push 605 (.int 3), dm_ii 606 (fun x y => x + y), dm_sld 607 L xs, dm_i1 608 (fun x => .long x.toInt64)] := dr_c (Or.inl (dg_iload dL_law_592)) <| dr_c (Or.inl dg_no) <| dr_c (Or.inl (dg_iconst (by decide) dL_law_594)) <| dr_c (Or.inl (dg_iadd dL_law_595)) <| dr_c (Or.inl (dg_sld dL_law_596)) <| dr_c (Or.inl (dg_i2l dL_law_597)) <| dr_c (Or.inl (dg_bipush (by decide) dL_law_598)) <| dr_c (Or.inl dg_no) <| dr_c (Or.inl (dg_lshl dL_law_600)) <| dr_c (Or.inl (dg_aload_n (k := 0) rfl dL_law_601)) <| dr_c (Or.inl (dg_iload dL_law_602)) <| dr_c (Or.inl dg_no) <| dr_c (Or.inl (dg_iconst (by decide) dL_law_604)) <| dr_c (Or.inl (dg_iadd dL_law_605)) <| dr_c (Or.inl (dg_sld dL_law_606)) <| dr_c (Or.inl (dg_i2l dL_law_607)) <| dr_n
theorem tr_L_38 (L : Nat) (xs : Nat → Int32) (f1 f2 : dm_Sem) : dm_AllR (lw_ok L xs f1 f2) 608 [dm_push 611 (.long 4294967295), dm_no, dm_no, dm_ll 612 (fun x y => x &&& y), dm_ll 613 (fun x y => x ||| y), dm_ald 614 0, dm_ild 616 4, dm_no, dm_push 617 (.int 4), dm_ii 618 (fun x y => x + y), dm_sld 619 L xs, dm_inv 622 179 3 8, dm_no, dm_no, dm_ist 624 6, dm_no] := dr_c (Or.inl (dg_ldc2 wd_1425 dL_law_608)) <| dr_c (Or.inl dg_no) <| dr_c (Or.inl dg_no) <| dr_c (Or.inl (dg_land dL_law_611)) <| dr_c (Or.inl (dg_lor dL_law_612)) <| dr_c (Or.inl (dg_aload_n (k := 0) rfl dL_law_613)) <| dr_c (Or.inl (dg_iload dL_law_614)) <| dr_c (Or.inl dg_no) <| dr_c (Or.inl (dg_iconst (by decide) dL_law_616)) <| dr_c (Or.inl (dg_iadd dL_law_617)) <| dr_c (Or.inl (dg_sld dL_law_618)) <| dr_c (Or.inl (dg_inv dL_law_619 mo_179 rfl rfl wd_1301 wd_1302 wd_1303 pd_179)) <| dr_c (Or.inl dg_no) <| dr_c (Or.inl dg_no) <| dr_c (Or.inl (dg_istore (by decide) dL_law_622)) <| dr_c (Or.inl dg_no) <| dr_n
theorem tr_L_39 (L : Nat) (xs : Nat → Int32) (f1 f2 : dm_Sem) : dm_AllR (lw_ok L xs f1 f2) 624 [dm_goto 1199, dm_no, dm_no, dm_ald 628 1, dm_ald 629 0, dm_ild 631 4, dm_no, dm_push 632 (.int 1), dm_ii 633 (fun x y => x + y), dm_sld 634 L xs, dm_ald 635 0, dm_ild 637 4, dm_no, dm_push 638 (.int 2), dm_ii 639 (fun x y => x + y), dm_sld 640 L xs] := dr_c (Or.inl (dg_goto (by decide) dL_law_624)) <| dr_c (Or.inl dg_no) <| dr_c (Or.inl dg_no) <| dr_c (Or.inl (dg_aload_n (k := 1) rfl dL_law_627)) <| dr_c (Or.inl (dg_aload_n (k := 0) rfl dL_law_628)) <| dr_c (Or.inl (dg_iload dL_law_629)) <| dr_c (Or.inl dg_no) <| dr_c (Or.inl (dg_iconst (by decide) dL_law_631)) <| dr_c (Or.inl (dg_iadd dL_law_632)) <| dr_c (Or.inl (dg_sld dL_law_633)) <| dr_c (Or.inl (dg_aload_n (k := 0) rfl dL_law_634)) <| dr_c (Or.inl (dg_iload dL_law_635)) <| dr_c (Or.inl dg_no) <| dr_c (Or.inl (dg_iconst (by decide) dL_law_637)) <| dr_c (Or.inl (dg_iadd dL_law_638)) <| dr_c (Or.inl (dg_sld dL_law_639)) <| dr_n
theorem tr_L_40 (L : Nat) (xs : Nat → Int32) (f1 f2 : dm_Sem) : dm_AllR (lw_ok L xs f1 f2) 640 [dm_i1 641 (fun x => .long x.toInt64), dm_push 643 (.int 32), dm_no, dm_li 644 (fun x y => x <<< (y.toInt64 &&& 63)), dm_ald 645 0, dm_ild 647 4, dm_no, dm_push 648 (.int 3), dm_ii 649 (fun x y => x + y), dm_sld 650 L xs, dm_i1 651 (fun x => .long x.toInt64), dm_push 654 (.long 4294967295), dm_no, dm_no, dm_ll 655 (fun x y => x &&& y), dm_ll 656 (fun x y => x ||| y)] := dr_c (Or.inl (dg_i2l dL_law_640)) <| dr_c (Or.inl (dg_bipush (by decide) dL_law_641)) <| dr_c (Or.inl dg_no) <| dr_c (Or.inl (dg_lshl dL_law_643)) <| dr_c (Or.inl (dg_aload_n (k := 0) rfl dL_law_644)) <| dr_c (Or.inl (dg_iload dL_law_645)) <| dr_c (Or.inl dg_no) <| dr_c (Or.inl (dg_iconst (by decide) dL_law_647)) <| dr_c (Or.inl (dg_iadd dL_law_648)) <| dr_c (Or.inl (dg_sld dL_law_649)) <| dr_c (Or.inl (dg_i2l dL_law_650)) <| dr_c (Or.inl (dg_ldc2 wd_1425 dL_law_651)) <| dr_c (Or.inl dg_no) <| dr_c (Or.inl dg_no) <| dr_c (Or.inl (dg_land dL_law_654)) <| dr_c (Or.inl (dg_lor dL_law_655)) <| dr_n
theorem tr_L_41 (L : Nat) (xs : Nat → Int32) (f1 f2 : dm_Sem) : dm_AllR (lw_ok L xs f1 f2) 656 [dm_ald 657 0, dm_ild 659 4, dm_no, dm_push 660 (.int 4), dm_ii 661 (fun x y => x + y), dm_sld 662 L xs, dm_ald 663 3, f2, dm_no, dm_no, dm_ist 668 5, dm_no, dm_ald 669 2, dm_ald 670 0, dm_ild 672 4, dm_no] := dr_c (Or.inl (dg_aload_n (k := 0) rfl dL_law_656)) <| dr_c (Or.inl (dg_iload dL_law_657)) <| dr_c (Or.inl dg_no) <| dr_c (Or.inl (dg_iconst (by decide) dL_law_659)) <| dr_c (Or.inl (dg_iadd dL_law_660)) <| dr_c (Or.inl (dg_sld dL_law_661)) <| dr_c (Or.inl (dg_aload_n (k := 3) rfl dL_law_662)) <| dr_c (Or.inr (Or.inr ⟨rfl, rfl⟩)) <| dr_c (Or.inl dg_no) <| dr_c (Or.inl dg_no) <| dr_c (Or.inl (dg_istore (by decide) dL_law_666)) <| dr_c (Or.inl dg_no) <| dr_c (Or.inl (dg_aload_n (k := 2) rfl dL_law_668)) <| dr_c (Or.inl (dg_aload_n (k := 0) rfl dL_law_669)) <| dr_c (Or.inl (dg_iload dL_law_670)) <| dr_c (Or.inl dg_no) <| dr_n
theorem tr_L_42 (L : Nat) (xs : Nat → Int32) (f1 f2 : dm_Sem) : dm_AllR (lw_ok L xs f1 f2) 672 [dm_push 673 (.int 1), dm_ii 674 (fun x y => x + y), dm_sld 675 L xs, dm_ald 676 0, dm_ild 678 4, dm_no, dm_push 679 (.int 2), dm_ii 680 (fun x y => x + y), dm_sld 681 L xs, dm_i1 682 (fun x => .long x.toInt64), dm_push 684 (.int 32), dm_no, dm_li 685 (fun x y => x <<< (y.toInt64 &&& 63)), dm_ald 686 0, dm_ild 688 4, dm_no] := dr_c (Or.inl (dg_iconst (by decide) dL_law_672)) <| dr_c (Or.inl (dg_iadd dL_law_673)) <| dr_c (Or.inl (dg_sld dL_law_674)) <| dr_c (Or.inl (dg_aload_n (k := 0) rfl dL_law_675)) <| dr_c (Or.inl (dg_iload dL_law_676)) <| dr_c (Or.inl dg_no) <| dr_c (Or.inl (dg_iconst (by decide) dL_law_678)) <| dr_c (Or.inl (dg_iadd dL_law_679)) <| dr_c (Or.inl (dg_sld dL_law_680)) <| dr_c (Or.inl (dg_i2l dL_law_681)) <| dr_c (Or.inl (dg_bipush (by decide) dL_law_682)) <| dr_c (Or.inl dg_no) <| dr_c (Or.inl (dg_lshl dL_law_684)) <| dr_c (Or.inl (dg_aload_n (k := 0) rfl dL_law_685)) <| dr_c (Or.inl (dg_iload dL_law_686)) <| dr_c (Or.inl dg_no) <| dr_n
theorem tr_L_43 (L : Nat) (xs : Nat → Int32) (f1 f2 : dm_Sem) : dm_AllR (lw_ok L xs f1 f2) 688 [dm_push 689 (.int 3), dm_ii 690 (fun x y => x + y), dm_sld 691 L xs, dm_i1 692 (fun x => .long x.toInt64), dm_push 695 (.long 4294967295), dm_no, dm_no, dm_ll 696 (fun x y => x &&& y), dm_ll 697 (fun x y => x ||| y), dm_ald 698 0, dm_ild 700 4, dm_no, dm_push 701 (.int 4), dm_ii 702 (fun x y => x + y), dm_sld 703 L xs, dm_inv 706 180 3 8] := dr_c (Or.inl (dg_iconst (by decide) dL_law_688)) <| dr_c (Or.inl (dg_iadd dL_law_689)) <| dr_c (Or.inl (dg_sld dL_law_690)) <| dr_c (Or.inl (dg_i2l dL_law_691)) <| dr_c (Or.inl (dg_ldc2 wd_1425 dL_law_692)) <| dr_c (Or.inl dg_no) <| dr_c (Or.inl dg_no) <| dr_c (Or.inl (dg_land dL_law_695)) <| dr_c (Or.inl (dg_lor dL_law_696)) <| dr_c (Or.inl (dg_aload_n (k := 0) rfl dL_law_697)) <| dr_c (Or.inl (dg_iload dL_law_698)) <| dr_c (Or.inl dg_no) <| dr_c (Or.inl (dg_iconst (by decide) dL_law_700)) <| dr_c (Or.inl (dg_iadd dL_law_701)) <| dr_c (Or.inl (dg_sld dL_law_702)) <| dr_c (Or.inl (dg_inv dL_law_703 mo_180 rfl rfl wd_1312 wd_1313 wd_1314 pd_180)) <| dr_n
theorem tr_L_44 (L : Nat) (xs : Nat → Int32) (f1 f2 : dm_Sem) : dm_AllR (lw_ok L xs f1 f2) 704 [dm_no, dm_no, dm_ist 708 6, dm_no, dm_goto 1199, dm_no, dm_no, dm_ald 712 1, dm_ald 713 0, dm_ild 715 4, dm_no, dm_push 716 (.int 1), dm_ii 717 (fun x y => x + y), dm_sld 718 L xs, dm_ald 719 0, dm_ild 721 4] := dr_c (Or.inl dg_no) <| dr_c (Or.inl dg_no) <| dr_c (Or.inl (dg_istore (by decide) dL_law_706)) <| dr_c (Or.inl dg_no) <| dr_c (Or.inl (dg_goto (by decide) dL_law_708)) <| dr_c (Or.inl dg_no) <| dr_c (Or.inl dg_no) <| dr_c (Or.inl (dg_aload_n (k := 1) rfl dL_law_711)) <| dr_c (Or.inl (dg_aload_n (k := 0) rfl dL_law_712)) <| dr_c (Or.inl (dg_iload dL_law_713)) <| dr_c (Or.inl dg_no) <| dr_c (Or.inl (dg_iconst (by decide) dL_law_715)) <| dr_c (Or.inl (dg_iadd dL_law_716)) <| dr_c (Or.inl (dg_sld dL_law_717)) <| dr_c (Or.inl (dg_aload_n (k := 0) rfl dL_law_718)) <| dr_c (Or.inl (dg_iload dL_law_719)) <| dr_n
theorem tr_L_45 (L : Nat) (xs : Nat → Int32) (f1 f2 : dm_Sem) : dm_AllR (lw_ok L xs f1 f2) 720 [dm_no, dm_push 722 (.int 2), dm_ii 723 (fun x y => x + y), dm_sld 724 L xs, dm_inv 727 110 2 7, dm_no, dm_no, dm_pop 728, dm_ald 729 2, dm_ald 730 0, dm_ild 732 4, dm_no, dm_push 733 (.int 1), dm_ii 734 (fun x y => x + y), dm_sld 735 L xs, dm_ald 736 0] := dr_c (Or.inl dg_no) <| dr_c (Or.inl (dg_iconst (by decide) dL_law_721)) <| dr_c (Or.inl (dg_iadd dL_law_722)) <| dr_c (Or.inl (dg_sld dL_law_723)) <| dr_c (Or.inl (dg_inv dL_law_724 mo_110 rfl rfl wd_620 wd_621 wd_622 pd_110)) <| dr_c (Or.inl dg_no) <| dr_c (Or.inl dg_no) <| dr_c (Or.inl (dg_pop dL_law_727)) <| dr_c (Or.inl (dg_aload_n (k := 2) rfl dL_law_728)) <| dr_c (Or.inl (dg_aload_n (k := 0) rfl dL_law_729)) <| dr_c (Or.inl (dg_iload dL_law_730)) <| dr_c (Or.inl dg_no) <| dr_c (Or.inl (dg_iconst (by decide) dL_law_732)) <| dr_c (Or.inl (dg_iadd dL_law_733)) <| dr_c (Or.inl (dg_sld dL_law_734)) <| dr_c (Or.inl (dg_aload_n (k := 0) rfl dL_law_735)) <| dr_n
theorem tr_L_46 (L : Nat) (xs : Nat → Int32) (f1 f2 : dm_Sem) : dm_AllR (lw_ok L xs f1 f2) 736 [dm_ild 738 4, dm_no, dm_push 739 (.int 2), dm_ii 740 (fun x y => x + y), dm_sld 741 L xs, dm_inv 744 181 2 8, dm_no, dm_no, dm_pop 745, dm_goto 1199, dm_no, dm_no, dm_ald 749 1, dm_ald 750 0, dm_ild 752 4, dm_no] := dr_c (Or.inl (dg_iload dL_law_736)) <| dr_c (Or.inl dg_no) <| dr_c (Or.inl (dg_iconst (by decide) dL_law_738)) <| dr_c (Or.inl (dg_iadd dL_law_739)) <| dr_c (Or.inl (dg_sld dL_law_740)) <| dr_c (Or.inl (dg_inv dL_law_741 mo_181 rfl rfl wd_1316 wd_1317 wd_1318 pd_181)) <| dr_c (Or.inl dg_no) <| dr_c (Or.inl dg_no) <| dr_c (Or.inl (dg_pop dL_law_744)) <| dr_c (Or.inl (dg_goto (by decide) dL_law_745)) <| dr_c (Or.inl dg_no) <| dr_c (Or.inl dg_no) <| dr_c (Or.inl (dg_aload_n (k := 1) rfl dL_law_748)) <| dr_c (Or.inl (dg_aload_n (k := 0) rfl dL_law_749)) <| dr_c (Or.inl (dg_iload dL_law_750)) <| dr_c (Or.inl dg_no) <| dr_n
theorem tr_L_47 (L : Nat) (xs : Nat → Int32) (f1 f2 : dm_Sem) : dm_AllR (lw_ok L xs f1 f2) 752 [dm_push 753 (.int 1), dm_ii 754 (fun x y => x + y), dm_sld 755 L xs, dm_ald 756 0, dm_ild 758 4, dm_no, dm_push 759 (.int 2), dm_ii 760 (fun x y => x + y), dm_sld 761 L xs, dm_ald 762 0, dm_ild 764 4, dm_no, dm_push 765 (.int 3), dm_ii 766 (fun x y => x + y), dm_sld 767 L xs, dm_inv 770 111 3 7] := dr_c (Or.inl (dg_iconst (by decide) dL_law_752)) <| dr_c (Or.inl (dg_iadd dL_law_753)) <| dr_c (Or.inl (dg_sld dL_law_754)) <| dr_c (Or.inl (dg_aload_n (k := 0) rfl dL_law_755)) <| dr_c (Or.inl (dg_iload dL_law_756)) <| dr_c (Or.inl dg_no) <| dr_c (Or.inl (dg_iconst (by decide) dL_law_758)) <| dr_c (Or.inl (dg_iadd dL_law_759)) <| dr_c (Or.inl (dg_sld dL_law_760)) <| dr_c (Or.inl (dg_aload_n (k := 0) rfl dL_law_761)) <| dr_c (Or.inl (dg_iload dL_law_762)) <| dr_c (Or.inl dg_no) <| dr_c (Or.inl (dg_iconst (by decide) dL_law_764)) <| dr_c (Or.inl (dg_iadd dL_law_765)) <| dr_c (Or.inl (dg_sld dL_law_766)) <| dr_c (Or.inl (dg_inv dL_law_767 mo_111 rfl rfl wd_663 wd_664 wd_665 pd_111)) <| dr_n
theorem tr_L_48 (L : Nat) (xs : Nat → Int32) (f1 f2 : dm_Sem) : dm_AllR (lw_ok L xs f1 f2) 768 [dm_no, dm_no, dm_pop 771, dm_ald 772 2, dm_ald 773 0, dm_ild 775 4, dm_no, dm_push 776 (.int 1), dm_ii 777 (fun x y => x + y), dm_sld 778 L xs, dm_ald 779 0, dm_ild 781 4, dm_no, dm_push 782 (.int 2), dm_ii 783 (fun x y => x + y), dm_sld 784 L xs] := dr_c (Or.inl dg_no) <| dr_c (Or.inl dg_no) <| dr_c (Or.inl (dg_pop dL_law_770)) <| dr_c (Or.inl (dg_aload_n (k := 2) rfl dL_law_771)) <| dr_c (Or.inl (dg_aload_n (k := 0) rfl dL_law_772)) <| dr_c (Or.inl (dg_iload dL_law_773)) <| dr_c (Or.inl dg_no) <| dr_c (Or.inl (dg_iconst (by decide) dL_law_775)) <| dr_c (Or.inl (dg_iadd dL_law_776)) <| dr_c (Or.inl (dg_sld dL_law_777)) <| dr_c (Or.inl (dg_aload_n (k := 0) rfl dL_law_778)) <| dr_c (Or.inl (dg_iload dL_law_779)) <| dr_c (Or.inl dg_no) <| dr_c (Or.inl (dg_iconst (by decide) dL_law_781)) <| dr_c (Or.inl (dg_iadd dL_law_782)) <| dr_c (Or.inl (dg_sld dL_law_783)) <| dr_n
theorem tr_L_49 (L : Nat) (xs : Nat → Int32) (f1 f2 : dm_Sem) : dm_AllR (lw_ok L xs f1 f2) 784 [dm_ald 785 0, dm_ild 787 4, dm_no, dm_push 788 (.int 3), dm_ii 789 (fun x y => x + y), dm_sld 790 L xs, dm_inv 793 184 3 8, dm_no, dm_no, dm_pop 794, dm_goto 1199, dm_no, dm_no, dm_ald 798 1, dm_inv 801 112 0 7, dm_no] := dr_c (Or.inl (dg_aload_n (k := 0) rfl dL_law_784)) <| dr_c (Or.inl (dg_iload dL_law_785)) <| dr_c (Or.inl dg_no) <| dr_c (Or.inl (dg_iconst (by decide) dL_law_787)) <| dr_c (Or.inl (dg_iadd dL_law_788)) <| dr_c (Or.inl (dg_sld dL_law_789)) <| dr_c (Or.inl (dg_inv dL_law_790 mo_184 rfl rfl wd_1345 wd_1346 wd_1347 pd_184)) <| dr_c (Or.inl dg_no) <| dr_c (Or.inl dg_no) <| dr_c (Or.inl (dg_pop dL_law_793)) <| dr_c (Or.inl (dg_goto (by decide) dL_law_794)) <| dr_c (Or.inl dg_no) <| dr_c (Or.inl dg_no) <| dr_c (Or.inl (dg_aload_n (k := 1) rfl dL_law_797)) <| dr_c (Or.inl (dg_inv dL_law_798 mo_112 rfl rfl wd_676 wd_677 wd_678 pd_112)) <| dr_c (Or.inl dg_no) <| dr_n
theorem tr_L_50 (L : Nat) (xs : Nat → Int32) (f1 f2 : dm_Sem) : dm_AllR (lw_ok L xs f1 f2) 800 [dm_no, dm_pop2 802, dm_ald 803 2, dm_inv 806 185 0 8, dm_no, dm_no, dm_pop2 807, dm_goto 1199, dm_no, dm_no, dm_ald 811 1, dm_inv 814 113 0 7, dm_no, dm_no, dm_pop 815, dm_ald 816 2] := dr_c (Or.inl dg_no) <| dr_c (Or.inl (dg_pop2 dL_law_801)) <| dr_c (Or.inl (dg_aload_n (k := 2) rfl dL_law_802)) <| dr_c (Or.inl (dg_inv dL_law_803 mo_185 rfl rfl wd_1353 wd_1354 wd_1355 pd_185)) <| dr_c (Or.inl dg_no) <| dr_c (Or.inl dg_no) <| dr_c (Or.inl (dg_pop2 dL_law_806)) <| dr_c (Or.inl (dg_goto (by decide) dL_law_807)) <| dr_c (Or.inl dg_no) <| dr_c (Or.inl dg_no) <| dr_c (Or.inl (dg_aload_n (k := 1) rfl dL_law_810)) <| dr_c (Or.inl (dg_inv dL_law_811 mo_113 rfl rfl wd_680 wd_681 wd_682 pd_113)) <| dr_c (Or.inl dg_no) <| dr_c (Or.inl dg_no) <| dr_c (Or.inl (dg_pop dL_law_814)) <| dr_c (Or.inl (dg_aload_n (k := 2) rfl dL_law_815)) <| dr_n
theorem tr_L_51 (L : Nat) (xs : Nat → Int32) (f1 f2 : dm_Sem) : dm_AllR (lw_ok L xs f1 f2) 816 [dm_inv 819 186 0 8, dm_no, dm_no, dm_pop 820, dm_goto 1199, dm_no, dm_no, dm_ald 824 1, dm_ald 825 0, dm_ild 827 4, dm_no, dm_push 828 (.int 1), dm_ii 829 (fun x y => x + y), dm_sld 830 L xs, dm_ald 831 0, dm_ild 833 4] := dr_c (Or.inl (dg_inv dL_law_816 mo_186 rfl rfl wd_1357 wd_1358 wd_1359 pd_186)) <| dr_c (Or.inl dg_no) <| dr_c (Or.inl dg_no) <| dr_c (Or.inl (dg_pop dL_law_819)) <| dr_c (Or.inl (dg_goto (by decide) dL_law_820)) <| dr_c (Or.inl dg_no) <| dr_c (Or.inl dg_no) <| dr_c (Or.inl (dg_aload_n (k := 1) rfl dL_law_823)) <| dr_c (Or.inl (dg_aload_n (k := 0) rfl dL_law_824)) <| dr_c (Or.inl (dg_iload dL_law_825)) <| dr_c (Or.inl dg_no) <| dr_c (Or.inl (dg_iconst (by decide) dL_law_827)) <| dr_c (Or.inl (dg_iadd dL_law_828)) <| dr_c (Or.inl (dg_sld dL_law_829)) <| dr_c (Or.inl (dg_aload_n (k := 0) rfl dL_law_830)) <| dr_c (Or.inl (dg_iload dL_law_831)) <| dr_n
theorem tr_L_52 (L : Nat) (xs : Nat → Int32) (f1 f2 : dm_Sem) : dm_AllR (lw_ok L xs f1 f2) 832 [dm_no, dm_push 834 (.int 2), dm_ii 835 (fun x y => x + y), dm_sld 836 L xs, dm_ald 837 0, dm_ild 839 4, dm_no, dm_push 840 (.int 3), dm_ii 841 (fun x y => x + y), dm_sld 842 L xs, dm_i1 843 (fun x => .long x.toInt64), dm_push 845 (.int 32), dm_no, dm_li 846 (fun x y => x <<< (y.toInt64 &&& 63)), dm_ald 847 0, dm_ild 849 4] := dr_c (Or.inl dg_no) <| dr_c (Or.inl (dg_iconst (by decide) dL_law_833)) <| dr_c (Or.inl (dg_iadd dL_law_834)) <| dr_c (Or.inl (dg_sld dL_law_835)) <| dr_c (Or.inl (dg_aload_n (k := 0) rfl dL_law_836)) <| dr_c (Or.inl (dg_iload dL_law_837)) <| dr_c (Or.inl dg_no) <| dr_c (Or.inl (dg_iconst (by decide) dL_law_839)) <| dr_c (Or.inl (dg_iadd dL_law_840)) <| dr_c (Or.inl (dg_sld dL_law_841)) <| dr_c (Or.inl (dg_i2l dL_law_842)) <| dr_c (Or.inl (dg_bipush (by decide) dL_law_843)) <| dr_c (Or.inl dg_no) <| dr_c (Or.inl (dg_lshl dL_law_845)) <| dr_c (Or.inl (dg_aload_n (k := 0) rfl dL_law_846)) <| dr_c (Or.inl (dg_iload dL_law_847)) <| dr_n
theorem tr_L_53 (L : Nat) (xs : Nat → Int32) (f1 f2 : dm_Sem) : dm_AllR (lw_ok L xs f1 f2) 848 [dm_no, dm_push 850 (.int 4), dm_ii 851 (fun x y => x + y), dm_sld 852 L xs, dm_i1 853 (fun x => .long x.toInt64), dm_push 856 (.long 4294967295), dm_no, dm_no, dm_ll 857 (fun x y => x &&& y), dm_ll 858 (fun x y => x ||| y), dm_ald 859 0, dm_ild 861 4, dm_no, dm_push 862 (.int 5), dm_ii 863 (fun x y => x + y), dm_sld 864 L xs] := dr_c (Or.inl dg_no) <| dr_c (Or.inl (dg_iconst (by decide) dL_law_849)) <| dr_c (Or.inl (dg_iadd dL_law_850)) <| dr_c (Or.inl (dg_sld dL_law_851)) <| dr_c (Or.inl (dg_i2l dL_law_852)) <| dr_c (Or.inl (dg_ldc2 wd_1425 dL_law_853)) <| dr_c (Or.inl dg_no) <| dr_c (Or.inl dg_no) <| dr_c (Or.inl (dg_land dL_law_856)) <| dr_c (Or.inl (dg_lor dL_law_857)) <| dr_c (Or.inl (dg_aload_n (k := 0) rfl dL_law_858)) <| dr_c (Or.inl (dg_iload dL_law_859)) <| dr_c (Or.inl dg_no) <| dr_c (Or.inl (dg_iconst (by decide) dL_law_861)) <| dr_c (Or.inl (dg_iadd dL_law_862)) <| dr_c (Or.inl (dg_sld dL_law_863)) <| dr_n
theorem tr_L_54 (L : Nat) (xs : Nat → Int32) (f1 f2 : dm_Sem) : dm_AllR (lw_ok L xs f1 f2) 864 [dm_ald 865 0, dm_ild 867 4, dm_no, dm_push 869 (.int 6), dm_no, dm_ii 870 (fun x y => x + y), dm_sld 871 L xs, dm_i1 872 (fun x => .long x.toInt64), dm_push 874 (.int 32), dm_no, dm_li 875 (fun x y => x <<< (y.toInt64 &&& 63)), dm_ald 876 0, dm_ild 878 4, dm_no, dm_push 880 (.int 7), dm_no] := dr_c (Or.inl (dg_aload_n (k := 0) rfl dL_law_864)) <| dr_c (Or.inl (dg_iload dL_law_865)) <| dr_c (Or.inl dg_no) <| dr_c (Or.inl (dg_bipush (by decide) dL_law_867)) <| dr_c (Or.inl dg_no) <| dr_c (Or.inl (dg_iadd dL_law_869)) <| dr_c (Or.inl (dg_sld dL_law_870)) <| dr_c (Or.inl (dg_i2l dL_law_871)) <| dr_c (Or.inl (dg_bipush (by decide) dL_law_872)) <| dr_c (Or.inl dg_no) <| dr_c (Or.inl (dg_lshl dL_law_874)) <| dr_c (Or.inl (dg_aload_n (k := 0) rfl dL_law_875)) <| dr_c (Or.inl (dg_iload dL_law_876)) <| dr_c (Or.inl dg_no) <| dr_c (Or.inl (dg_bipush (by decide) dL_law_878)) <| dr_c (Or.inl dg_no) <| dr_n
theorem tr_L_55 (L : Nat) (xs : Nat → Int32) (f1 f2 : dm_Sem) : dm_AllR (lw_ok L xs f1 f2) 880 [dm_ii 881 (fun x y => x + y), dm_sld 882 L xs, dm_i1 883 (fun x => .long x.toInt64), dm_push 886 (.long 4294967295), dm_no, dm_no, dm_ll 887 (fun x y => x &&& y), dm_ll 888 (fun x y => x ||| y), dm_ald 889 0, dm_ild 891 4, dm_no, dm_push 893 (.int 8), dm_no, dm_ii 894 (fun x y => x + y), dm_sld 895 L xs, dm_inv 898 114 6 7] := dr_c (Or.inl (dg_iadd dL_law_880)) <| dr_c (Or.inl (dg_sld dL_law_881)) <| dr_c (Or.inl (dg_i2l dL_law_882)) <| dr_c (Or.inl (dg_ldc2 wd_1425 dL_law_883)) <| dr_c (Or.inl dg_no) <| dr_c (Or.inl dg_no) <| dr_c (Or.inl (dg_land dL_law_886)) <| dr_c (Or.inl (dg_lor dL_law_887)) <| dr_c (Or.inl (dg_aload_n (k := 0) rfl dL_law_888)) <| dr_c (Or.inl (dg_iload dL_law_889)) <| dr_c (Or.inl dg_no) <| dr_c (Or.inl (dg_bipush (by decide) dL_law_891)) <| dr_c (Or.inl dg_no) <| dr_c (Or.inl (dg_iadd dL_law_893)) <| dr_c (Or.inl (dg_sld dL_law_894)) <| dr_c (Or.inl (dg_inv dL_law_895 mo_114 rfl rfl wd_684 wd_685 wd_686 pd_114)) <| dr_n
theorem tr_L_56 (L : Nat) (xs : Nat → Int32) (f1 f2 : dm_Sem) : dm_AllR (lw_ok L xs f1 f2) 896 [dm_no, dm_no, dm_ald 899 2, dm_ald 900 0, dm_ild 902 4, dm_no, dm_push 903 (.int 1), dm_ii 904 (fun x y => x + y), dm_sld 905 L xs, dm_ald 906 0, dm_ild 908 4, dm_no, dm_push 909 (.int 2), dm_ii 910 (fun x y => x + y), dm_sld 911 L xs, dm_ald 912 0] := dr_c (Or.inl dg_no) <| dr_c (Or.inl dg_no) <| dr_c (Or.inl (dg_aload_n (k := 2) rfl dL_law_898)) <| dr_c (Or.inl (dg_aload_n (k := 0) rfl dL_law_899)) <| dr_c (Or.inl (dg_iload dL_law_900)) <| dr_c (Or.inl dg_no) <| dr_c (Or.inl (dg_iconst (by decide) dL_law_902)) <| dr_c (Or.inl (dg_iadd dL_law_903)) <| dr_c (Or.inl (dg_sld dL_law_904)) <| dr_c (Or.inl (dg_aload_n (k := 0) rfl dL_law_905)) <| dr_c (Or.inl (dg_iload dL_law_906)) <| dr_c (Or.inl dg_no) <| dr_c (Or.inl (dg_iconst (by decide) dL_law_908)) <| dr_c (Or.inl (dg_iadd dL_law_909)) <| dr_c (Or.inl (dg_sld dL_law_910)) <| dr_c (Or.inl (dg_aload_n (k := 0) rfl dL_law_911)) <| dr_n
theorem tr_L_57 (L : Nat) (xs : Nat → Int32) (f1 f2 : dm_Sem) : dm_AllR (lw_ok L xs f1 f2) 912 [dm_ild 914 4, dm_no, dm_push 915 (.int 3), dm_ii 916 (fun x y => x + y), dm_sld 917 L xs, dm_i1 918 (fun x => .long x.toInt64), dm_push 920 (.int 32), dm_no, dm_li 921 (fun x y => x <<< (y.toInt64 &&& 63)), dm_ald 922 0, dm_ild 924 4, dm_no, dm_push 925 (.int 4), dm_ii 926 (fun x y => x + y), dm_sld 927 L xs, dm_i1 928 (fun x => .long x.toInt64)] := dr_c (Or.inl (dg_iload dL_law_912)) <| dr_c (Or.inl dg_no) <| dr_c (Or.inl (dg_iconst (by decide) dL_law_914)) <| dr_c (Or.inl (dg_iadd dL_law_915)) <| dr_c (Or.inl (dg_sld dL_law_916)) <| dr_c (Or.inl (dg_i2l dL_law_917)) <| dr_c (Or.inl (dg_bipush (by decide) dL_law_918)) <| dr_c (Or.inl dg_no) <| dr_c (Or.inl (dg_lshl dL_law_920)) <| dr_c (Or.inl (dg_aload_n (k := 0) rfl dL_law_921)) <| dr_c (Or.inl (dg_iload dL_law_922)) <| dr_c (Or.inl dg_no) <| dr_c (Or.inl (dg_iconst (by decide) dL_law_924)) <| dr_c (Or.inl (dg_iadd dL_law_925)) <| dr_c (Or.inl (dg_sld dL_law_926)) <| dr_c (Or.inl (dg_i2l dL_law_927)) <| dr_n
theorem tr_L_58 (L : Nat) (xs : Nat → Int32) (f1 f2 : dm_Sem) : dm_AllR (lw_ok L xs f1 f2) 928 [dm_push 931 (.long 4294967295), dm_no, dm_no, dm_ll 932 (fun x y => x &&& y), dm_ll 933 (fun x y => x ||| y), dm_ald 934 0, dm_ild 936 4, dm_no, dm_push 937 (.int 5), dm_ii 938 (fun x y => x + y), dm_sld 939 L xs, dm_ald 940 0, dm_ild 942 4, dm_no, dm_push 944 (.int 6), dm_no] := dr_c (Or.inl (dg_ldc2 wd_1425 dL_law_928)) <| dr_c (Or.inl dg_no) <| dr_c (Or.inl dg_no) <| dr_c (Or.inl (dg_land dL_law_931)) <| dr_c (Or.inl (dg_lor dL_law_932)) <| dr_c (Or.inl (dg_aload_n (k := 0) rfl dL_law_933)) <| dr_c (Or.inl (dg_iload dL_law_934)) <| dr_c (Or.inl dg_no) <| dr_c (Or.inl (dg_iconst (by decide) dL_law_936)) <| dr_c (Or.inl (dg_iadd dL_law_937)) <| dr_c (Or.inl (dg_sld dL_law_938)) <| dr_c (Or.inl (dg_aload_n (k := 0) rfl dL_law_939)) <| dr_c (Or.inl (dg_iload dL_law_940)) <| dr_c (Or.inl dg_no) <| dr_c (Or.inl (dg_bipush (by decide) dL_law_942)) <| dr_c (Or.inl dg_no) <| dr_n
theorem tr_L_59 (L : Nat) (xs : Nat → Int32) (f1 f2 : dm_Sem) : dm_AllR (lw_ok L xs f1 f2) 944 [dm_ii 945 (fun x y => x + y), dm_sld 946 L xs, dm_i1 947 (fun x => .long x.toInt64), dm_push 949 (.int 32), dm_no, dm_li 950 (fun x y => x <<< (y.toInt64 &&& 63)), dm_ald 951 0, dm_ild 953 4, dm_no, dm_push 955 (.int 7), dm_no, dm_ii 956 (fun x y => x + y), dm_sld 957 L xs, dm_i1 958 (fun x => .long x.toInt64), dm_push 961 (.long 4294967295), dm_no] := dr_c (Or.inl (dg_iadd dL_law_944)) <| dr_c (Or.inl (dg_sld dL_law_945)) <| dr_c (Or.inl (dg_i2l dL_law_946)) <| dr_c (Or.inl (dg_bipush (by decide) dL_law_947)) <| dr_c (Or.inl dg_no) <| dr_c (Or.inl (dg_lshl dL_law_949)) <| dr_c (Or.inl (dg_aload_n (k := 0) rfl dL_law_950)) <| dr_c (Or.inl (dg_iload dL_law_951)) <| dr_c (Or.inl dg_no) <| dr_c (Or.inl (dg_bipush (by decide) dL_law_953)) <| dr_c (Or.inl dg_no) <| dr_c (Or.inl (dg_iadd dL_law_955)) <| dr_c (Or.inl (dg_sld dL_law_956)) <| dr_c (Or.inl (dg_i2l dL_law_957)) <| dr_c (Or.inl (dg_ldc2 wd_1425 dL_law_958)) <| dr_c (Or.inl dg_no) <| dr_n
theorem tr_L_60 (L : Nat) (xs : Nat → Int32) (f1 f2 : dm_Sem) : dm_AllR (lw_ok L xs f1 f2) 960 [dm_no, dm_ll 962 (fun x y => x &&& y), dm_ll 963 (fun x y => x ||| y), dm_ald 964 0, dm_ild 966 4, dm_no, dm_push 968 (.int 8), dm_no, dm_ii 969 (fun x y => x + y), dm_sld 970 L xs, dm_inv 973 187 6 8, dm_no, dm_no, dm_ic_eq 976 1199, dm_no, dm_no] := dr_c (Or.inl dg_no) <| dr_c (Or.inl (dg_land dL_law_961)) <| dr_c (Or.inl (dg_lor dL_law_962)) <| dr_c (Or.inl (dg_aload_n (k := 0) rfl dL_law_963)) <| dr_c (Or.inl (dg_iload dL_law_964)) <| dr_c (Or.inl dg_no) <| dr_c (Or.inl (dg_bipush (by decide) dL_law_966)) <| dr_c (Or.inl dg_no) <| dr_c (Or.inl (dg_iadd dL_law_968)) <| dr_c (Or.inl (dg_sld dL_law_969)) <| dr_c (Or.inl (dg_inv dL_law_970 mo_187 rfl rfl wd_1361 wd_1362 wd_1363 pd_187)) <| dr_c (Or.inl dg_no) <| dr_c (Or.inl dg_no) <| dr_c (Or.inl (dg_ic_eq (by decide) dL_law_973)) <| dr_c (Or.inl dg_no) <| dr_c (Or.inl dg_no) <| dr_n
theorem tr_L_61 (L : Nat) (xs : Nat → Int32) (f1 f2 : dm_Sem) : dm_AllR (lw_ok L xs f1 f2) 976 [dm_push 977 (.int 0), dm_ret .boolean, dm_ald 979 1, dm_ald 980 0, dm_ild 982 4, dm_no, dm_push 983 (.int 1), dm_ii 984 (fun x y => x + y), dm_sld 985 L xs, dm_inv 988 115 1 7, dm_no, dm_no, dm_pop 989, dm_ald 990 2, dm_ald 991 0, dm_ild 993 4] := dr_c (Or.inl (dg_iconst (by decide) dL_law_976)) <| dr_c (Or.inl (dg_ret dL_law_977)) <| dr_c (Or.inl (dg_aload_n (k := 1) rfl dL_law_978)) <| dr_c (Or.inl (dg_aload_n (k := 0) rfl dL_law_979)) <| dr_c (Or.inl (dg_iload dL_law_980)) <| dr_c (Or.inl dg_no) <| dr_c (Or.inl (dg_iconst (by decide) dL_law_982)) <| dr_c (Or.inl (dg_iadd dL_law_983)) <| dr_c (Or.inl (dg_sld dL_law_984)) <| dr_c (Or.inl (dg_inv dL_law_985 mo_115 rfl rfl wd_699 wd_700 wd_701 pd_115)) <| dr_c (Or.inl dg_no) <| dr_c (Or.inl dg_no) <| dr_c (Or.inl (dg_pop dL_law_988)) <| dr_c (Or.inl (dg_aload_n (k := 2) rfl dL_law_989)) <| dr_c (Or.inl (dg_aload_n (k := 0) rfl dL_law_990)) <| dr_c (Or.inl (dg_iload dL_law_991)) <| dr_n
theorem tr_L_62 (L : Nat) (xs : Nat → Int32) (f1 f2 : dm_Sem) : dm_AllR (lw_ok L xs f1 f2) 992 [dm_no, dm_push 994 (.int 1), dm_ii 995 (fun x y => x + y), dm_sld 996 L xs, dm_inv 999 193 1 8, dm_no, dm_no, dm_pop 1000, dm_goto 1199, dm_no, dm_no, dm_ald 1004 1, dm_ald 1005 0, dm_ild 1007 4, dm_no, dm_push 1008 (.int 1)] := dr_c (Or.inl dg_no) <| dr_c (Or.inl (dg_iconst (by decide) dL_law_993)) <| dr_c (Or.inl (dg_iadd dL_law_994)) <| dr_c (Or.inl (dg_sld dL_law_995)) <| dr_c (Or.inl (dg_inv dL_law_996 mo_193 rfl rfl wd_1365 wd_1366 wd_1367 pd_193)) <| dr_c (Or.inl dg_no) <| dr_c (Or.inl dg_no) <| dr_c (Or.inl (dg_pop dL_law_999)) <| dr_c (Or.inl (dg_goto (by decide) dL_law_1000)) <| dr_c (Or.inl dg_no) <| dr_c (Or.inl dg_no) <| dr_c (Or.inl (dg_aload_n (k := 1) rfl dL_law_1003)) <| dr_c (Or.inl (dg_aload_n (k := 0) rfl dL_law_1004)) <| dr_c (Or.inl (dg_iload dL_law_1005)) <| dr_c (Or.inl dg_no) <| dr_c (Or.inl (dg_iconst (by decide) dL_law_1007)) <| dr_n
theorem tr_L_63 (L : Nat) (xs : Nat → Int32) (f1 f2 : dm_Sem) : dm_AllR (lw_ok L xs f1 f2) 1008 [dm_ii 1009 (fun x y => x + y), dm_sld 1010 L xs, dm_inv 1013 116 1 7, dm_no, dm_no, dm_pop 1014, dm_ald 1015 2, dm_ald 1016 0, dm_ild 1018 4, dm_no, dm_push 1019 (.int 1), dm_ii 1020 (fun x y => x + y), dm_sld 1021 L xs, dm_inv 1024 194 1 8, dm_no, dm_no] := dr_c (Or.inl (dg_iadd dL_law_1008)) <| dr_c (Or.inl (dg_sld dL_law_1009)) <| dr_c (Or.inl (dg_inv dL_law_1010 mo_116 rfl rfl wd_712 wd_713 wd_714 pd_116)) <| dr_c (Or.inl dg_no) <| dr_c (Or.inl dg_no) <| dr_c (Or.inl (dg_pop dL_law_1013)) <| dr_c (Or.inl (dg_aload_n (k := 2) rfl dL_law_1014)) <| dr_c (Or.inl (dg_aload_n (k := 0) rfl dL_law_1015)) <| dr_c (Or.inl (dg_iload dL_law_1016)) <| dr_c (Or.inl dg_no) <| dr_c (Or.inl (dg_iconst (by decide) dL_law_1018)) <| dr_c (Or.inl (dg_iadd dL_law_1019)) <| dr_c (Or.inl (dg_sld dL_law_1020)) <| dr_c (Or.inl (dg_inv dL_law_1021 mo_194 rfl rfl wd_1369 wd_1370 wd_1371 pd_194)) <| dr_c (Or.inl dg_no) <| dr_c (Or.inl dg_no) <| dr_n
theorem tr_L_64 (L : Nat) (xs : Nat → Int32) (f1 f2 : dm_Sem) : dm_AllR (lw_ok L xs f1 f2) 1024 [dm_pop 1025, dm_goto 1199, dm_no, dm_no, dm_ald 1029 1, dm_ald 1030 0, dm_ild 1032 4, dm_no, dm_push 1033 (.int 1), dm_ii 1034 (fun x y => x + y), dm_sld 1035 L xs, dm_i1 1036 (fun x => .long x.toInt64), dm_push 1038 (.int 32), dm_no, dm_li 1039 (fun x y => x <<< (y.toInt64 &&& 63)), dm_ald 1040 0] := dr_c (Or.inl (dg_pop dL_law_1024)) <| dr_c (Or.inl (dg_goto (by decide) dL_law_1025)) <| dr_c (Or.inl dg_no) <| dr_c (Or.inl dg_no) <| dr_c (Or.inl (dg_aload_n (k := 1) rfl dL_law_1028)) <| dr_c (Or.inl (dg_aload_n (k := 0) rfl dL_law_1029)) <| dr_c (Or.inl (dg_iload dL_law_1030)) <| dr_c (Or.inl dg_no) <| dr_c (Or.inl (dg_iconst (by decide) dL_law_1032)) <| dr_c (Or.inl (dg_iadd dL_law_1033)) <| dr_c (Or.inl (dg_sld dL_law_1034)) <| dr_c (Or.inl (dg_i2l dL_law_1035)) <| dr_c (Or.inl (dg_bipush (by decide) dL_law_1036)) <| dr_c (Or.inl dg_no) <| dr_c (Or.inl (dg_lshl dL_law_1038)) <| dr_c (Or.inl (dg_aload_n (k := 0) rfl dL_law_1039)) <| dr_n
theorem tr_L_65 (L : Nat) (xs : Nat → Int32) (f1 f2 : dm_Sem) : dm_AllR (lw_ok L xs f1 f2) 1040 [dm_ild 1042 4, dm_no, dm_push 1043 (.int 2), dm_ii 1044 (fun x y => x + y), dm_sld 1045 L xs, dm_i1 1046 (fun x => .long x.toInt64), dm_push 1049 (.long 4294967295), dm_no, dm_no, dm_ll 1050 (fun x y => x &&& y), dm_ll 1051 (fun x y => x ||| y), dm_ald 1052 0, dm_ild 1054 4, dm_no, dm_push 1055 (.int 3), dm_ii 1056 (fun x y => x + y)] := dr_c (Or.inl (dg_iload dL_law_1040)) <| dr_c (Or.inl dg_no) <| dr_c (Or.inl (dg_iconst (by decide) dL_law_1042)) <| dr_c (Or.inl (dg_iadd dL_law_1043)) <| dr_c (Or.inl (dg_sld dL_law_1044)) <| dr_c (Or.inl (dg_i2l dL_law_1045)) <| dr_c (Or.inl (dg_ldc2 wd_1425 dL_law_1046)) <| dr_c (Or.inl dg_no) <| dr_c (Or.inl dg_no) <| dr_c (Or.inl (dg_land dL_law_1049)) <| dr_c (Or.inl (dg_lor dL_law_1050)) <| dr_c (Or.inl (dg_aload_n (k := 0) rfl dL_law_1051)) <| dr_c (Or.inl (dg_iload dL_law_1052)) <| dr_c (Or.inl dg_no) <| dr_c (Or.inl (dg_iconst (by decide) dL_law_1054)) <| dr_c (Or.inl (dg_iadd dL_law_1055)) <| dr_n
theorem tr_L_66 (L : Nat) (xs : Nat → Int32) (f1 f2 : dm_Sem) : dm_AllR (lw_ok L xs f1 f2) 1056 [dm_sld 1057 L xs, dm_inv 1060 117 2 7, dm_no, dm_no, dm_pop 1061, dm_ald 1062 2, dm_ald 1063 0, dm_ild 1065 4, dm_no, dm_push 1066 (.int 1), dm_ii 1067 (fun x y => x + y), dm_sld 1068 L xs, dm_i1 1069 (fun x => .long x.toInt64), dm_push 1071 (.int 32), dm_no, dm_li 1072 (fun x y => x <<< (y.toInt64 &&& 63))] := dr_c (Or.inl (dg_sld dL_law_1056)) <| dr_c (Or.inl (dg_inv dL_law_1057 mo_117 rfl rfl wd_721 wd_722 wd_723 pd_117)) <| dr_c (Or.inl dg_no) <| dr_c (Or.inl dg_no) <| dr_c (Or.inl (dg_pop dL_law_1060)) <| dr_c (Or.inl (dg_aload_n (k := 2) rfl dL_law_1061)) <| dr_c (Or.inl (dg_aload_n (k := 0) rfl dL_law_1062)) <| dr_c (Or.inl (dg_iload dL_law_1063)) <| dr_c (Or.inl dg_no) <| dr_c (Or.inl (dg_iconst (by decide) dL_law_1065)) <| dr_c (Or.inl (dg_iadd dL_law_1066)) <| dr_c (Or.inl (dg_sld dL_law_1067)) <| dr_c (Or.inl (dg_i2l dL_law_1068)) <| dr_c (Or.inl (dg_bipush (by decide) dL_law_1069)) <| dr_c (Or.inl dg_no) <| dr_c (Or.inl (dg_lshl dL_law_1071)) <| dr_n
theorem tr_L_67 (L : Nat) (xs : Nat → Int32) (f1 f2 : dm_Sem) : dm_AllR (lw_ok L xs f1 f2) 1072 [dm_ald 1073 0, dm_ild 1075 4, dm_no, dm_push 1076 (.int 2), dm_ii 1077 (fun x y => x + y), dm_sld 1078 L xs, dm_i1 1079 (fun x => .long x.toInt64), dm_push 1082 (.long 4294967295), dm_no, dm_no, dm_ll 1083 (fun x y => x &&& y), dm_ll 1084 (fun x y => x ||| y), dm_ald 1085 0, dm_ild 1087 4, dm_no, dm_push 1088 (.int 3)] := dr_c (Or.inl (dg_aload_n (k := 0) rfl dL_law_1072)) <| dr_c (Or.inl (dg_iload dL_law_1073)) <| dr_c (Or.inl dg_no) <| dr_c (Or.inl (dg_iconst (by decide) dL_law_1075)) <| dr_c (Or.inl (dg_iadd dL_law_1076)) <| dr_c (Or.inl (dg_sld dL_law_1077)) <| dr_c (Or.inl (dg_i2l dL_law_1078)) <| dr_c (Or.inl (dg_ldc2 wd_1425 dL_law_1079)) <| dr_c (Or.inl dg_no) <| dr_c (Or.inl dg_no) <| dr_c (Or.inl (dg_land dL_law_1082)) <| dr_c (Or.inl (dg_lor dL_law_1083)) <| dr_c (Or.inl (dg_aload_n (k := 0) rfl dL_law_1084)) <| dr_c (Or.inl (dg_iload dL_law_1085)) <| dr_c (Or.inl dg_no) <| dr_c (Or.inl (dg_iconst (by decide) dL_law_1087)) <| dr_n
theorem tr_L_68 (L : Nat) (xs : Nat → Int32) (f1 f2 : dm_Sem) : dm_AllR (lw_ok L xs f1 f2) 1088 [dm_ii 1089 (fun x y => x + y), dm_sld 1090 L xs, dm_inv 1093 195 2 8, dm_no, dm_no, dm_pop 1094, dm_goto 1199, dm_no, dm_no, dm_ald 1098 1, dm_ald 1099 0, dm_ild 1101 4, dm_no, dm_push 1102 (.int 1), dm_ii 1103 (fun x y => x + y), dm_sld 1104 L xs] := dr_c (Or.inl (dg_iadd dL_law_1088)) <| dr_c (Or.inl (dg_sld dL_law_1089)) <| dr_c (Or.inl (dg_inv dL_law_1090 mo_195 rfl rfl wd_1373 wd_1374 wd_1375 pd_195)) <| dr_c (Or.inl dg_no) <| dr_c (Or.inl dg_no) <| dr_c (Or.inl (dg_pop dL_law_1093)) <| dr_c (Or.inl (dg_goto (by decide) dL_law_1094)) <| dr_c (Or.inl dg_no) <| dr_c (Or.inl dg_no) <| dr_c (Or.inl (dg_aload_n (k := 1) rfl dL_law_1097)) <| dr_c (Or.inl (dg_aload_n (k := 0) rfl dL_law_1098)) <| dr_c (Or.inl (dg_iload dL_law_1099)) <| dr_c (Or.inl dg_no) <| dr_c (Or.inl (dg_iconst (by decide) dL_law_1101)) <| dr_c (Or.inl (dg_iadd dL_law_1102)) <| dr_c (Or.inl (dg_sld dL_law_1103)) <| dr_n
theorem tr_L_69 (L : Nat) (xs : Nat → Int32) (f1 f2 : dm_Sem) : dm_AllR (lw_ok L xs f1 f2) 1104 [dm_inv 1107 118 1 7, dm_no, dm_no, dm_pop 1108, dm_ald 1109 2, dm_ald 1110 0, dm_ild 1112 4, dm_no, dm_push 1113 (.int 1), dm_ii 1114 (fun x y => x + y), dm_sld 1115 L xs, dm_inv 1118 196 1 8, dm_no, dm_no, dm_pop 1119, dm_goto 1199] := dr_c (Or.inl (dg_inv dL_law_1104 mo_118 rfl rfl wd_726 wd_727 wd_728 pd_118)) <| dr_c (Or.inl dg_no) <| dr_c (Or.inl dg_no) <| dr_c (Or.inl (dg_pop dL_law_1107)) <| dr_c (Or.inl (dg_aload_n (k := 2) rfl dL_law_1108)) <| dr_c (Or.inl (dg_aload_n (k := 0) rfl dL_law_1109)) <| dr_c (Or.inl (dg_iload dL_law_1110)) <| dr_c (Or.inl dg_no) <| dr_c (Or.inl (dg_iconst (by decide) dL_law_1112)) <| dr_c (Or.inl (dg_iadd dL_law_1113)) <| dr_c (Or.inl (dg_sld dL_law_1114)) <| dr_c (Or.inl (dg_inv dL_law_1115 mo_196 rfl rfl wd_1377 wd_1378 wd_1379 pd_196)) <| dr_c (Or.inl dg_no) <| dr_c (Or.inl dg_no) <| dr_c (Or.inl (dg_pop dL_law_1118)) <| dr_c (Or.inl (dg_goto (by decide) dL_law_1119)) <| dr_n
theorem tr_L_70 (L : Nat) (xs : Nat → Int32) (f1 f2 : dm_Sem) : dm_AllR (lw_ok L xs f1 f2) 1120 [dm_no, dm_no, dm_ald 1123 1, dm_inv 1126 119 0 7, dm_no, dm_no, dm_pop 1127, dm_ald 1128 2, dm_inv 1131 203 0 8, dm_no, dm_no, dm_pop 1132, dm_goto 1199, dm_no, dm_no, dm_ald 1136 1] := dr_c (Or.inl dg_no) <| dr_c (Or.inl dg_no) <| dr_c (Or.inl (dg_aload_n (k := 1) rfl dL_law_1122)) <| dr_c (Or.inl (dg_inv dL_law_1123 mo_119 rfl rfl wd_730 wd_731 wd_732 pd_119)) <| dr_c (Or.inl dg_no) <| dr_c (Or.inl dg_no) <| dr_c (Or.inl (dg_pop dL_law_1126)) <| dr_c (Or.inl (dg_aload_n (k := 2) rfl dL_law_1127)) <| dr_c (Or.inl (dg_inv dL_law_1128 mo_203 rfl rfl wd_1381 wd_1382 wd_1383 pd_203)) <| dr_c (Or.inl dg_no) <| dr_c (Or.inl dg_no) <| dr_c (Or.inl (dg_pop dL_law_1131)) <| dr_c (Or.inl (dg_goto (by decide) dL_law_1132)) <| dr_c (Or.inl dg_no) <| dr_c (Or.inl dg_no) <| dr_c (Or.inl (dg_aload_n (k := 1) rfl dL_law_1135)) <| dr_n
theorem tr_L_71 (L : Nat) (xs : Nat → Int32) (f1 f2 : dm_Sem) : dm_AllR (lw_ok L xs f1 f2) 1136 [dm_inv 1139 120 0 7, dm_no, dm_no, dm_pop 1140, dm_ald 1141 2, dm_inv 1144 204 0 8, dm_no, dm_no, dm_pop 1145, dm_goto 1199, dm_no, dm_no, dm_ald 1149 1, dm_inv 1152 121 0 7, dm_no, dm_no] := dr_c (Or.inl (dg_inv dL_law_1136 mo_120 rfl rfl wd_781 wd_782 wd_783 pd_120)) <| dr_c (Or.inl dg_no) <| dr_c (Or.inl dg_no) <| dr_c (Or.inl (dg_pop dL_law_1139)) <| dr_c (Or.inl (dg_aload_n (k := 2) rfl dL_law_1140)) <| dr_c (Or.inl (dg_inv dL_law_1141 mo_204 rfl rfl wd_1409 wd_1410 wd_1411 pd_204)) <| dr_c (Or.inl dg_no) <| dr_c (Or.inl dg_no) <| dr_c (Or.inl (dg_pop dL_law_1144)) <| dr_c (Or.inl (dg_goto (by decide) dL_law_1145)) <| dr_c (Or.inl dg_no) <| dr_c (Or.inl dg_no) <| dr_c (Or.inl (dg_aload_n (k := 1) rfl dL_law_1148)) <| dr_c (Or.inl (dg_inv dL_law_1149 mo_121 rfl rfl wd_785 wd_786 wd_787 pd_121)) <| dr_c (Or.inl dg_no) <| dr_c (Or.inl dg_no) <| dr_n
theorem tr_L_72 (L : Nat) (xs : Nat → Int32) (f1 f2 : dm_Sem) : dm_AllR (lw_ok L xs f1 f2) 1152 [dm_pop 1153, dm_ald 1154 2, dm_inv 1157 205 0 8, dm_no, dm_no, dm_pop 1158, dm_goto 1199, dm_no, dm_no, dm_ald 1162 1, dm_inv 1165 122 0 7, dm_no, dm_no, dm_pop 1166, dm_ald 1167 2, dm_inv 1170 206 0 8] := dr_c (Or.inl (dg_pop dL_law_1152)) <| dr_c (Or.inl (dg_aload_n (k := 2) rfl dL_law_1153)) <| dr_c (Or.inl (dg_inv dL_law_1154 mo_205 rfl rfl wd_1413 wd_1414 wd_1415 pd_205)) <| dr_c (Or.inl dg_no) <| dr_c (Or.inl dg_no) <| dr_c (Or.inl (dg_pop dL_law_1157)) <| dr_c (Or.inl (dg_goto (by decide) dL_law_1158)) <| dr_c (Or.inl dg_no) <| dr_c (Or.inl dg_no) <| dr_c (Or.inl (dg_aload_n (k := 1) rfl dL_law_1161)) <| dr_c (Or.inl (dg_inv dL_law_1162 mo_122 rfl rfl wd_799 wd_800 wd_801 pd_122)) <| dr_c (Or.inl dg_no) <| dr_c (Or.inl dg_no) <| dr_c (Or.inl (dg_pop dL_law_1165)) <| dr_c (Or.inl (dg_aload_n (k := 2) rfl dL_law_1166)) <| dr_c (Or.inl (dg_inv dL_law_1167 mo_206 rfl rfl wd_1417 wd_1418 wd_1419 pd_206)) <| dr_n
theorem tr_L_73 (L : Nat) (xs : Nat → Int32) (f1 f2 : dm_Sem) : dm_AllR (lw_ok L xs f1 f2) 1168 [dm_no, dm_no, dm_pop 1171, dm_goto 1199, dm_no, dm_no, dm_ald 1175 1, dm_ald 1176 0, dm_ild 1178 4, dm_no, dm_push 1179 (.int 1), dm_ii 1180 (fun x y => x + y), dm_sld 1181 L xs, dm_inv 1184 123 1 7, dm_no, dm_no] := dr_c (Or.inl dg_no) <| dr_c (Or.inl dg_no) <| dr_c (Or.inl (dg_pop dL_law_1170)) <| dr_c (Or.inl (dg_goto (by decide) dL_law_1171)) <| dr_c (Or.inl dg_no) <| dr_c (Or.inl dg_no) <| dr_c (Or.inl (dg_aload_n (k := 1) rfl dL_law_1174)) <| dr_c (Or.inl (dg_aload_n (k := 0) rfl dL_law_1175)) <| dr_c (Or.inl (dg_iload dL_law_1176)) <| dr_c (Or.inl dg_no) <| dr_c (Or.inl (dg_iconst (by decide) dL_law_1178)) <| dr_c (Or.inl (dg_iadd dL_law_1179)) <| dr_c (Or.inl (dg_sld dL_law_1180)) <| dr_c (Or.inl (dg_inv dL_law_1181 mo_123 rfl rfl wd_803 wd_804 wd_805 pd_123)) <| dr_c (Or.inl dg_no) <| dr_c (Or.inl dg_no) <| dr_n
theorem tr_L_74 (L : Nat) (xs : Nat → Int32) (f1 f2 : dm_Sem) : dm_AllR (lw_ok L xs f1 f2) 1184 [dm_pop 1185, dm_ald 1186 2, dm_ald 1187 0, dm_ild 1189 4, dm_no, dm_push 1190 (.int 1), dm_ii 1191 (fun x y => x + y), dm_sld 1192 L xs, dm_inv 1195 207 1 8, dm_no, dm_no, dm_pop 1196, dm_goto 1199, dm_no, dm_no, dm_iinc 1202 4 9] := dr_c (Or.inl (dg_pop dL_law_1184)) <| dr_c (Or.inl (dg_aload_n (k := 2) rfl dL_law_1185)) <| dr_c (Or.inl (dg_aload_n (k := 0) rfl dL_law_1186)) <| dr_c (Or.inl (dg_iload dL_law_1187)) <| dr_c (Or.inl dg_no) <| dr_c (Or.inl (dg_iconst (by decide) dL_law_1189)) <| dr_c (Or.inl (dg_iadd dL_law_1190)) <| dr_c (Or.inl (dg_sld dL_law_1191)) <| dr_c (Or.inl (dg_inv dL_law_1192 mo_207 rfl rfl wd_1421 wd_1422 wd_1423 pd_207)) <| dr_c (Or.inl dg_no) <| dr_c (Or.inl dg_no) <| dr_c (Or.inl (dg_pop dL_law_1195)) <| dr_c (Or.inl (dg_goto (by decide) dL_law_1196)) <| dr_c (Or.inl dg_no) <| dr_c (Or.inl dg_no) <| dr_c (Or.inl (dg_iinc (by decide) (by decide) dL_law_1199)) <| dr_n
theorem tr_L_75 (L : Nat) (xs : Nat → Int32) (f1 f2 : dm_Sem) : dm_AllR (lw_ok L xs f1 f2) 1200 [dm_no, dm_no, dm_goto 23, dm_no, dm_no, dm_push 1206 (.int 1), dm_ret .boolean] := dr_c (Or.inl dg_no) <| dr_c (Or.inl dg_no) <| dr_c (Or.inl (dg_goto (by decide) dL_law_1202)) <| dr_c (Or.inl dg_no) <| dr_c (Or.inl dg_no) <| dr_c (Or.inl (dg_iconst (by decide) dL_law_1205)) <| dr_c (Or.inl (dg_ret dL_law_1206)) <| dr_n
theorem tk_L (L : Nat) (xs : Nat → Int32) (f1 f2 : dm_Sem) : dm_AllC (lw_ok L xs f1 f2) 0 (cdL L xs f1 f2) := dc_c (by simp) (tr_L_0 L xs f1 f2) <| dc_c (by simp) (tr_L_1 L xs f1 f2) <| dc_c (by simp) (tr_L_2 L xs f1 f2) <| dc_c (by simp) (tr_L_3 L xs f1 f2) <| dc_c (by simp) (tr_L_4 L xs f1 f2) <| dc_c (by simp) (tr_L_5 L xs f1 f2) <| dc_c (by simp) (tr_L_6 L xs f1 f2) <| dc_c (by simp) (tr_L_7 L xs f1 f2) <| dc_c (by simp) (tr_L_8 L xs f1 f2) <| dc_c (by simp) (tr_L_9 L xs f1 f2) <| dc_c (by simp) (tr_L_10 L xs f1 f2) <| dc_c (by simp) (tr_L_11 L xs f1 f2) <| dc_c (by simp) (tr_L_12 L xs f1 f2) <| dc_c (by simp) (tr_L_13 L xs f1 f2) <| dc_c (by simp) (tr_L_14 L xs f1 f2) <| dc_c (by simp) (tr_L_15 L xs f1 f2) <| dc_c (by simp) (tr_L_16 L xs f1 f2) <| dc_c (by simp) (tr_L_17 L xs f1 f2) <| dc_c (by simp) (tr_L_18 L xs f1 f2) <| dc_c (by simp) (tr_L_19 L xs f1 f2) <| dc_c (by simp) (tr_L_20 L xs f1 f2) <| dc_c (by simp) (tr_L_21 L xs f1 f2) <| dc_c (by simp) (tr_L_22 L xs f1 f2) <| dc_c (by simp) (tr_L_23 L xs f1 f2) <| dc_c (by simp) (tr_L_24 L xs f1 f2) <| dc_c (by simp) (tr_L_25 L xs f1 f2) <| dc_c (by simp) (tr_L_26 L xs f1 f2) <| dc_c (by simp) (tr_L_27 L xs f1 f2) <| dc_c (by simp) (tr_L_28 L xs f1 f2) <| dc_c (by simp) (tr_L_29 L xs f1 f2) <| dc_c (by simp) (tr_L_30 L xs f1 f2) <| dc_c (by simp) (tr_L_31 L xs f1 f2) <| dc_c (by simp) (tr_L_32 L xs f1 f2) <| dc_c (by simp) (tr_L_33 L xs f1 f2) <| dc_c (by simp) (tr_L_34 L xs f1 f2) <| dc_c (by simp) (tr_L_35 L xs f1 f2) <| dc_c (by simp) (tr_L_36 L xs f1 f2) <| dc_c (by simp) (tr_L_37 L xs f1 f2) <| dc_c (by simp) (tr_L_38 L xs f1 f2) <| dc_c (by simp) (tr_L_39 L xs f1 f2) <| dc_c (by simp) (tr_L_40 L xs f1 f2) <| dc_c (by simp) (tr_L_41 L xs f1 f2) <| dc_c (by simp) (tr_L_42 L xs f1 f2) <| dc_c (by simp) (tr_L_43 L xs f1 f2) <| dc_c (by simp) (tr_L_44 L xs f1 f2) <| dc_c (by simp) (tr_L_45 L xs f1 f2) <| dc_c (by simp) (tr_L_46 L xs f1 f2) <| dc_c (by simp) (tr_L_47 L xs f1 f2) <| dc_c (by simp) (tr_L_48 L xs f1 f2) <| dc_c (by simp) (tr_L_49 L xs f1 f2) <| dc_c (by simp) (tr_L_50 L xs f1 f2) <| dc_c (by simp) (tr_L_51 L xs f1 f2) <| dc_c (by simp) (tr_L_52 L xs f1 f2) <| dc_c (by simp) (tr_L_53 L xs f1 f2) <| dc_c (by simp) (tr_L_54 L xs f1 f2) <| dc_c (by simp) (tr_L_55 L xs f1 f2) <| dc_c (by simp) (tr_L_56 L xs f1 f2) <| dc_c (by simp) (tr_L_57 L xs f1 f2) <| dc_c (by simp) (tr_L_58 L xs f1 f2) <| dc_c (by simp) (tr_L_59 L xs f1 f2) <| dc_c (by simp) (tr_L_60 L xs f1 f2) <| dc_c (by simp) (tr_L_61 L xs f1 f2) <| dc_c (by simp) (tr_L_62 L xs f1 f2) <| dc_c (by simp) (tr_L_63 L xs f1 f2) <| dc_c (by simp) (tr_L_64 L xs f1 f2) <| dc_c (by simp) (tr_L_65 L xs f1 f2) <| dc_c (by simp) (tr_L_66 L xs f1 f2) <| dc_c (by simp) (tr_L_67 L xs f1 f2) <| dc_c (by simp) (tr_L_68 L xs f1 f2) <| dc_c (by simp) (tr_L_69 L xs f1 f2) <| dc_c (by simp) (tr_L_70 L xs f1 f2) <| dc_c (by simp) (tr_L_71 L xs f1 f2) <| dc_c (by simp) (tr_L_72 L xs f1 f2) <| dc_c (by simp) (tr_L_73 L xs f1 f2) <| dc_c (by simp) (tr_L_74 L xs f1 f2) <| dc_c (by simp) (tr_L_75 L xs f1 f2) <| dc_n
