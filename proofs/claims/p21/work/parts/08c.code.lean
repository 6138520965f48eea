theorem dX9_heightFrom_0 : decode cX9_heightFrom 0 = .ok (.aload_n 0, 1) := by decide +kernel
theorem dX9_heightFrom_1 : decode cX9_heightFrom 1 = .ok (.iload_n 1, 1) := by decide +kernel
theorem dX9_heightFrom_2 : decode cX9_heightFrom 2 = .ok (.invokevirtual 15, 3) := by decide +kernel
theorem dX9_heightFrom_5 : decode cX9_heightFrom 5 = .ok (.istore 4, 2) := by decide +kernel
theorem dX9_heightFrom_7 : decode cX9_heightFrom 7 = .ok (.aload_n 0, 1) := by decide +kernel
theorem dX9_heightFrom_8 : decode cX9_heightFrom 8 = .ok (.iload_n 1, 1) := by decide +kernel
theorem dX9_heightFrom_9 : decode cX9_heightFrom 9 = .ok (.invokevirtual 9, 3) := by decide +kernel
theorem dX9_heightFrom_12 : decode cX9_heightFrom 12 = .ok (.ifCond .ne 9, 3) := by decide +kernel
theorem dX9_heightFrom_15 : decode cX9_heightFrom 15 = .ok (.iload_n 3, 1) := by decide +kernel
theorem dX9_heightFrom_16 : decode cX9_heightFrom 16 = .ok (.bipush 60, 2) := by decide +kernel
theorem dX9_heightFrom_18 : decode cX9_heightFrom 18 = .ok (.if_icmp .lt 16, 3) := by decide +kernel
theorem dX9_heightFrom_21 : decode cX9_heightFrom 21 = .ok (.aload_n 2, 1) := by decide +kernel
theorem dX9_heightFrom_22 : decode cX9_heightFrom 22 = .ok (.lconst 1, 1) := by decide +kernel
theorem dX9_heightFrom_23 : decode cX9_heightFrom 23 = .ok (.iconst 1, 1) := by decide +kernel
theorem dX9_heightFrom_24 : decode cX9_heightFrom 24 = .ok (.invokevirtual 19, 3) := by decide +kernel
theorem dX9_heightFrom_27 : decode cX9_heightFrom 27 = .ok (.iload 4, 2) := by decide +kernel
theorem dX9_heightFrom_29 : decode cX9_heightFrom 29 = .ok (.aload_n 2, 1) := by decide +kernel
theorem dX9_heightFrom_30 : decode cX9_heightFrom 30 = .ok (.invokestatic 41, 3) := by decide +kernel
theorem dX9_heightFrom_33 : decode cX9_heightFrom 33 = .ok (.return_, 1) := by decide +kernel
theorem dX9_heightFrom_34 : decode cX9_heightFrom 34 = .ok (.aload_n 2, 1) := by decide +kernel
theorem dX9_heightFrom_35 : decode cX9_heightFrom 35 = .ok (.lconst 0, 1) := by decide +kernel
theorem dX9_heightFrom_36 : decode cX9_heightFrom 36 = .ok (.iconst 1, 1) := by decide +kernel
theorem dX9_heightFrom_37 : decode cX9_heightFrom 37 = .ok (.invokevirtual 19, 3) := by decide +kernel
theorem dX9_heightFrom_40 : decode cX9_heightFrom 40 = .ok (.aload_n 2, 1) := by decide +kernel
theorem dX9_heightFrom_41 : decode cX9_heightFrom 41 = .ok (.iload 4, 2) := by decide +kernel
theorem dX9_heightFrom_43 : decode cX9_heightFrom 43 = .ok (.ifCond .ne 7, 3) := by decide +kernel
theorem dX9_heightFrom_46 : decode cX9_heightFrom 46 = .ok (.lconst 0, 1) := by decide +kernel
theorem dX9_heightFrom_47 : decode cX9_heightFrom 47 = .ok (.goto 4, 3) := by decide +kernel
theorem dX9_heightFrom_50 : decode cX9_heightFrom 50 = .ok (.lconst 1, 1) := by decide +kernel
theorem dX9_heightFrom_51 : decode cX9_heightFrom 51 = .ok (.iconst 1, 1) := by decide +kernel
theorem dX9_heightFrom_52 : decode cX9_heightFrom 52 = .ok (.invokevirtual 19, 3) := by decide +kernel
theorem dX9_heightFrom_55 : decode cX9_heightFrom 55 = .ok (.iload 4, 2) := by decide +kernel
theorem dX9_heightFrom_57 : decode cX9_heightFrom 57 = .ok (.ifCond .eq 9, 3) := by decide +kernel
theorem dX9_heightFrom_60 : decode cX9_heightFrom 60 = .ok (.iload 4, 2) := by decide +kernel
theorem dX9_heightFrom_62 : decode cX9_heightFrom 62 = .ok (.aload_n 2, 1) := by decide +kernel
theorem dX9_heightFrom_63 : decode cX9_heightFrom 63 = .ok (.invokestatic 41, 3) := by decide +kernel
theorem dX9_heightFrom_66 : decode cX9_heightFrom 66 = .ok (.aload_n 0, 1) := by decide +kernel
theorem dX9_heightFrom_67 : decode cX9_heightFrom 67 = .ok (.aload_n 0, 1) := by decide +kernel
theorem dX9_heightFrom_68 : decode cX9_heightFrom 68 = .ok (.iload_n 1, 1) := by decide +kernel
theorem dX9_heightFrom_69 : decode cX9_heightFrom 69 = .ok (.invokevirtual 25, 3) := by decide +kernel
theorem dX9_heightFrom_72 : decode cX9_heightFrom 72 = .ok (.iconst 0, 1) := by decide +kernel
theorem dX9_heightFrom_73 : decode cX9_heightFrom 73 = .ok (.invokevirtual 28, 3) := by decide +kernel
theorem dX9_heightFrom_76 : decode cX9_heightFrom 76 = .ok (.ifCond .ne 7, 3) := by decide +kernel
theorem dX9_heightFrom_79 : decode cX9_heightFrom 79 = .ok (.iconst 1, 1) := by decide +kernel
theorem dX9_heightFrom_80 : decode cX9_heightFrom 80 = .ok (.goto 4, 3) := by decide +kernel
theorem dX9_heightFrom_83 : decode cX9_heightFrom 83 = .ok (.iconst 0, 1) := by decide +kernel
theorem dX9_heightFrom_84 : decode cX9_heightFrom 84 = .ok (.istore 5, 2) := by decide +kernel
theorem dX9_heightFrom_86 : decode cX9_heightFrom 86 = .ok (.aload_n 0, 1) := by decide +kernel
theorem dX9_heightFrom_87 : decode cX9_heightFrom 87 = .ok (.aload_n 0, 1) := by decide +kernel
theorem dX9_heightFrom_88 : decode cX9_heightFrom 88 = .ok (.iload_n 1, 1) := by decide +kernel
theorem dX9_heightFrom_89 : decode cX9_heightFrom 89 = .ok (.invokevirtual 32, 3) := by decide +kernel
theorem dX9_heightFrom_92 : decode cX9_heightFrom 92 = .ok (.iconst 0, 1) := by decide +kernel
theorem dX9_heightFrom_93 : decode cX9_heightFrom 93 = .ok (.invokevirtual 28, 3) := by decide +kernel
theorem dX9_heightFrom_96 : decode cX9_heightFrom 96 = .ok (.ifCond .ne 7, 3) := by decide +kernel
theorem dX9_heightFrom_99 : decode cX9_heightFrom 99 = .ok (.iconst 1, 1) := by decide +kernel
theorem dX9_heightFrom_100 : decode cX9_heightFrom 100 = .ok (.goto 4, 3) := by decide +kernel
theorem dX9_heightFrom_103 : decode cX9_heightFrom 103 = .ok (.iconst 0, 1) := by decide +kernel
theorem dX9_heightFrom_104 : decode cX9_heightFrom 104 = .ok (.istore 6, 2) := by decide +kernel
theorem dX9_heightFrom_106 : decode cX9_heightFrom 106 = .ok (.aload_n 2, 1) := by decide +kernel
theorem dX9_heightFrom_107 : decode cX9_heightFrom 107 = .ok (.iload 6, 2) := by decide +kernel
theorem dX9_heightFrom_109 : decode cX9_heightFrom 109 = .ok (.ifCond .eq 7, 3) := by decide +kernel
theorem dX9_heightFrom_112 : decode cX9_heightFrom 112 = .ok (.iconst 0, 1) := by decide +kernel
theorem dX9_heightFrom_113 : decode cX9_heightFrom 113 = .ok (.goto 4, 3) := by decide +kernel
theorem dX9_heightFrom_116 : decode cX9_heightFrom 116 = .ok (.iconst 2, 1) := by decide +kernel
theorem dX9_heightFrom_117 : decode cX9_heightFrom 117 = .ok (.iload 5, 2) := by decide +kernel
theorem dX9_heightFrom_119 : decode cX9_heightFrom 119 = .ok (.ifCond .eq 7, 3) := by decide +kernel
theorem dX9_heightFrom_122 : decode cX9_heightFrom 122 = .ok (.iconst 0, 1) := by decide +kernel
theorem dX9_heightFrom_123 : decode cX9_heightFrom 123 = .ok (.goto 4, 3) := by decide +kernel
theorem dX9_heightFrom_126 : decode cX9_heightFrom 126 = .ok (.iconst 1, 1) := by decide +kernel
theorem dX9_heightFrom_127 : decode cX9_heightFrom 127 = .ok (.iadd, 1) := by decide +kernel
theorem dX9_heightFrom_128 : decode cX9_heightFrom 128 = .ok (.i2l, 1) := by decide +kernel
theorem dX9_heightFrom_129 : decode cX9_heightFrom 129 = .ok (.iconst 2, 1) := by decide +kernel
theorem dX9_heightFrom_130 : decode cX9_heightFrom 130 = .ok (.invokevirtual 19, 3) := by decide +kernel
theorem dX9_heightFrom_133 : decode cX9_heightFrom 133 = .ok (.iload 5, 2) := by decide +kernel
theorem dX9_heightFrom_135 : decode cX9_heightFrom 135 = .ok (.ifCond .eq 16, 3) := by decide +kernel
theorem dX9_heightFrom_138 : decode cX9_heightFrom 138 = .ok (.aload_n 0, 1) := by decide +kernel
theorem dX9_heightFrom_139 : decode cX9_heightFrom 139 = .ok (.aload_n 0, 1) := by decide +kernel
theorem dX9_heightFrom_140 : decode cX9_heightFrom 140 = .ok (.iload_n 1, 1) := by decide +kernel
theorem dX9_heightFrom_141 : decode cX9_heightFrom 141 = .ok (.invokevirtual 25, 3) := by decide +kernel
theorem dX9_heightFrom_144 : decode cX9_heightFrom 144 = .ok (.aload_n 2, 1) := by decide +kernel
theorem dX9_heightFrom_145 : decode cX9_heightFrom 145 = .ok (.iload_n 3, 1) := by decide +kernel
theorem dX9_heightFrom_146 : decode cX9_heightFrom 146 = .ok (.iconst 1, 1) := by decide +kernel
theorem dX9_heightFrom_147 : decode cX9_heightFrom 147 = .ok (.iadd, 1) := by decide +kernel
theorem dX9_heightFrom_148 : decode cX9_heightFrom 148 = .ok (.invokestatic 45, 3) := by decide +kernel
theorem dX9_heightFrom_151 : decode cX9_heightFrom 151 = .ok (.iload 6, 2) := by decide +kernel
theorem dX9_heightFrom_153 : decode cX9_heightFrom 153 = .ok (.ifCond .eq 16, 3) := by decide +kernel
theorem dX9_heightFrom_156 : decode cX9_heightFrom 156 = .ok (.aload_n 0, 1) := by decide +kernel
theorem dX9_heightFrom_157 : decode cX9_heightFrom 157 = .ok (.aload_n 0, 1) := by decide +kernel
theorem dX9_heightFrom_158 : decode cX9_heightFrom 158 = .ok (.iload_n 1, 1) := by decide +kernel
theorem dX9_heightFrom_159 : decode cX9_heightFrom 159 = .ok (.invokevirtual 32, 3) := by decide +kernel
theorem dX9_heightFrom_162 : decode cX9_heightFrom 162 = .ok (.aload_n 2, 1) := by decide +kernel
theorem dX9_heightFrom_163 : decode cX9_heightFrom 163 = .ok (.iload_n 3, 1) := by decide +kernel
theorem dX9_heightFrom_164 : decode cX9_heightFrom 164 = .ok (.iconst 1, 1) := by decide +kernel
theorem dX9_heightFrom_165 : decode cX9_heightFrom 165 = .ok (.iadd, 1) := by decide +kernel
theorem dX9_heightFrom_166 : decode cX9_heightFrom 166 = .ok (.invokestatic 45, 3) := by decide +kernel
theorem dX9_heightFrom_169 : decode cX9_heightFrom 169 = .ok (.return_, 1) := by decide +kernel
def cd_92 : dm_Code := [[dm_ald 1 0, dm_ild 2 1, dm_inv 5 75 1 6, dm_no, dm_no, dm_ist 7 4, dm_no, dm_ald 8 0, dm_ild 9 1, dm_inv 12 77 1 6, dm_no, dm_no, dm_if_ne 15 21, dm_no, dm_no, dm_ild 16 3],
  [dm_push 18 (.int 60), dm_no, dm_ic_lt 21 34, dm_no, dm_no, dm_ald 22 2, dm_push 23 (.long 1), dm_push 24 (.int 1), dm_inv 27 8 2 1, dm_no, dm_no, dm_ild 29 4, dm_no, dm_ald 30 2, dm_ins 33 93 2, dm_no],
  [dm_no, dm_vret, dm_ald 35 2, dm_push 36 (.long 0), dm_push 37 (.int 1), dm_inv 40 8 2 1, dm_no, dm_no, dm_ald 41 2, dm_ild 43 4, dm_no, dm_if_ne 46 50, dm_no, dm_no, dm_push 47 (.long 0), dm_goto 51],
  [dm_no, dm_no, dm_push 51 (.long 1), dm_push 52 (.int 1), dm_inv 55 8 2 1, dm_no, dm_no, dm_ild 57 4, dm_no, dm_if_eq 60 66, dm_no, dm_no, dm_ild 62 4, dm_no, dm_ald 63 2, dm_ins 66 93 2],
  [dm_no, dm_no, dm_ald 67 0, dm_ald 68 0, dm_ild 69 1, dm_inv 72 79 1 6, dm_no, dm_no, dm_push 73 (.int 0), dm_inv 76 78 2 6, dm_no, dm_no, dm_if_ne 79 83, dm_no, dm_no, dm_push 80 (.int 1)],
  [dm_goto 84, dm_no, dm_no, dm_push 84 (.int 0), dm_ist 86 5, dm_no, dm_ald 87 0, dm_ald 88 0, dm_ild 89 1, dm_inv 92 80 1 6, dm_no, dm_no, dm_push 93 (.int 0), dm_inv 96 78 2 6, dm_no, dm_no],
  [dm_if_ne 99 103, dm_no, dm_no, dm_push 100 (.int 1), dm_goto 104, dm_no, dm_no, dm_push 104 (.int 0), dm_ist 106 6, dm_no, dm_ald 107 2, dm_ild 109 6, dm_no, dm_if_eq 112 116, dm_no, dm_no],
  [dm_push 113 (.int 0), dm_goto 117, dm_no, dm_no, dm_push 117 (.int 2), dm_ild 119 5, dm_no, dm_if_eq 122 126, dm_no, dm_no, dm_push 123 (.int 0), dm_goto 127, dm_no, dm_no, dm_push 127 (.int 1), dm_ii 128 (fun x y => x + y)],
  [dm_i1 129 (fun x => .long x.toInt64), dm_push 130 (.int 2), dm_inv 133 8 2 1, dm_no, dm_no, dm_ild 135 5, dm_no, dm_if_eq 138 151, dm_no, dm_no, dm_ald 139 0, dm_ald 140 0, dm_ild 141 1, dm_inv 144 79 1 6, dm_no, dm_no],
  [dm_ald 145 2, dm_ild 146 3, dm_push 147 (.int 1), dm_ii 148 (fun x y => x + y), dm_ins 151 92 4, dm_no, dm_no, dm_ild 153 6, dm_no, dm_if_eq 156 169, dm_no, dm_no, dm_ald 157 0, dm_ald 158 0, dm_ild 159 1, dm_inv 162 80 1 6],
  [dm_no, dm_no, dm_ald 163 2, dm_ild 164 3, dm_push 165 (.int 1), dm_ii 166 (fun x y => x + y), dm_ins 169 92 4, dm_no, dm_no, dm_vret]]
theorem tr_92_0 : dm_AllR (dm_Good dm_tb RX9 cX9_heightFrom 7 none false none) 0 [dm_ald 1 0, dm_ild 2 1, dm_inv 5 75 1 6, dm_no, dm_no, dm_ist 7 4, dm_no, dm_ald 8 0, dm_ild 9 1, dm_inv 12 77 1 6, dm_no, dm_no, dm_if_ne 15 21, dm_no, dm_no, dm_ild 16 3] := dr_c (dg_aload_n (k := 0) rfl dX9_heightFrom_0) <| dr_c (dg_iload_n (k := 1) rfl dX9_heightFrom_1) <| dr_c (dg_inv dX9_heightFrom_2 mo_75 rfl rfl wd_636 wd_381 wd_382 pd_75) <| dr_c (dg_no) <| dr_c (dg_no) <| dr_c (dg_istore (by decide) dX9_heightFrom_5) <| dr_c (dg_no) <| dr_c (dg_aload_n (k := 0) rfl dX9_heightFrom_7) <| dr_c (dg_iload_n (k := 1) rfl dX9_heightFrom_8) <| dr_c (dg_inv dX9_heightFrom_9 mo_77 rfl rfl wd_635 wd_293 wd_294 pd_77) <| dr_c (dg_no) <| dr_c (dg_no) <| dr_c (dg_if_ne (by decide) dX9_heightFrom_12) <| dr_c (dg_no) <| dr_c (dg_no) <| dr_c (dg_iload_n (k := 3) rfl dX9_heightFrom_15) <| dr_n
theorem tr_92_1 : dm_AllR (dm_Good dm_tb RX9 cX9_heightFrom 7 none false none) 16 [dm_push 18 (.int 60), dm_no, dm_ic_lt 21 34, dm_no, dm_no, dm_ald 22 2, dm_push 23 (.long 1), dm_push 24 (.int 1), dm_inv 27 8 2 1, dm_no, dm_no, dm_ild 29 4, dm_no, dm_ald 30 2, dm_ins 33 93 2, dm_no] := dr_c (dg_bipush (by decide) dX9_heightFrom_16) <| dr_c (dg_no) <| dr_c (dg_ic_lt (by decide) dX9_heightFrom_18) <| dr_c (dg_no) <| dr_c (dg_no) <| dr_c (dg_aload_n (k := 2) rfl dX9_heightFrom_21) <| dr_c (dg_lconst (by decide) dX9_heightFrom_22) <| dr_c (dg_iconst (by decide) dX9_heightFrom_23) <| dr_c (dg_inv dX9_heightFrom_24 mo_8 rfl rfl wd_637 wd_638 wd_639 pd_8) <| dr_c (dg_no) <| dr_c (dg_no) <| dr_c (dg_iload dX9_heightFrom_27) <| dr_c (dg_no) <| dr_c (dg_aload_n (k := 2) rfl dX9_heightFrom_29) <| dr_c (dg_ins dX9_heightFrom_30 mo_93 wd_649 wd_650 pd_93) <| dr_c (dg_no) <| dr_n
theorem tr_92_2 : dm_AllR (dm_Good dm_tb RX9 cX9_heightFrom 7 none false none) 32 [dm_no, dm_vret, dm_ald 35 2, dm_push 36 (.long 0), dm_push 37 (.int 1), dm_inv 40 8 2 1, dm_no, dm_no, dm_ald 41 2, dm_ild 43 4, dm_no, dm_if_ne 46 50, dm_no, dm_no, dm_push 47 (.long 0), dm_goto 51] := dr_c (dg_no) <| dr_c (dg_vret dX9_heightFrom_33) <| dr_c (dg_aload_n (k := 2) rfl dX9_heightFrom_34) <| dr_c (dg_lconst (by decide) dX9_heightFrom_35) <| dr_c (dg_iconst (by decide) dX9_heightFrom_36) <| dr_c (dg_inv dX9_heightFrom_37 mo_8 rfl rfl wd_637 wd_638 wd_639 pd_8) <| dr_c (dg_no) <| dr_c (dg_no) <| dr_c (dg_aload_n (k := 2) rfl dX9_heightFrom_40) <| dr_c (dg_iload dX9_heightFrom_41) <| dr_c (dg_no) <| dr_c (dg_if_ne (by decide) dX9_heightFrom_43) <| dr_c (dg_no) <| dr_c (dg_no) <| dr_c (dg_lconst (by decide) dX9_heightFrom_46) <| dr_c (dg_goto (by decide) dX9_heightFrom_47) <| dr_n
theorem tr_92_3 : dm_AllR (dm_Good dm_tb RX9 cX9_heightFrom 7 none false none) 48 [dm_no, dm_no, dm_push 51 (.long 1), dm_push 52 (.int 1), dm_inv 55 8 2 1, dm_no, dm_no, dm_ild 57 4, dm_no, dm_if_eq 60 66, dm_no, dm_no, dm_ild 62 4, dm_no, dm_ald 63 2, dm_ins 66 93 2] := dr_c (dg_no) <| dr_c (dg_no) <| dr_c (dg_lconst (by decide) dX9_heightFrom_50) <| dr_c (dg_iconst (by decide) dX9_heightFrom_51) <| dr_c (dg_inv dX9_heightFrom_52 mo_8 rfl rfl wd_637 wd_638 wd_639 pd_8) <| dr_c (dg_no) <| dr_c (dg_no) <| dr_c (dg_iload dX9_heightFrom_55) <| dr_c (dg_no) <| dr_c (dg_if_eq (by decide) dX9_heightFrom_57) <| dr_c (dg_no) <| dr_c (dg_no) <| dr_c (dg_iload dX9_heightFrom_60) <| dr_c (dg_no) <| dr_c (dg_aload_n (k := 2) rfl dX9_heightFrom_62) <| dr_c (dg_ins dX9_heightFrom_63 mo_93 wd_649 wd_650 pd_93) <| dr_n
theorem tr_92_4 : dm_AllR (dm_Good dm_tb RX9 cX9_heightFrom 7 none false none) 64 [dm_no, dm_no, dm_ald 67 0, dm_ald 68 0, dm_ild 69 1, dm_inv 72 79 1 6, dm_no, dm_no, dm_push 73 (.int 0), dm_inv 76 78 2 6, dm_no, dm_no, dm_if_ne 79 83, dm_no, dm_no, dm_push 80 (.int 1)] := dr_c (dg_no) <| dr_c (dg_no) <| dr_c (dg_aload_n (k := 0) rfl dX9_heightFrom_66) <| dr_c (dg_aload_n (k := 0) rfl dX9_heightFrom_67) <| dr_c (dg_iload_n (k := 1) rfl dX9_heightFrom_68) <| dr_c (dg_inv dX9_heightFrom_69 mo_79 rfl rfl wd_642 wd_393 wd_394 pd_79) <| dr_c (dg_no) <| dr_c (dg_no) <| dr_c (dg_iconst (by decide) dX9_heightFrom_72) <| dr_c (dg_inv dX9_heightFrom_73 mo_78 rfl rfl wd_643 wd_377 wd_378 pd_78) <| dr_c (dg_no) <| dr_c (dg_no) <| dr_c (dg_if_ne (by decide) dX9_heightFrom_76) <| dr_c (dg_no) <| dr_c (dg_no) <| dr_c (dg_iconst (by decide) dX9_heightFrom_79) <| dr_n
theorem tr_92_5 : dm_AllR (dm_Good dm_tb RX9 cX9_heightFrom 7 none false none) 80 [dm_goto 84, dm_no, dm_no, dm_push 84 (.int 0), dm_ist 86 5, dm_no, dm_ald 87 0, dm_ald 88 0, dm_ild 89 1, dm_inv 92 80 1 6, dm_no, dm_no, dm_push 93 (.int 0), dm_inv 96 78 2 6, dm_no, dm_no] := dr_c (dg_goto (by decide) dX9_heightFrom_80) <| dr_c (dg_no) <| dr_c (dg_no) <| dr_c (dg_iconst (by decide) dX9_heightFrom_83) <| dr_c (dg_istore (by decide) dX9_heightFrom_84) <| dr_c (dg_no) <| dr_c (dg_aload_n (k := 0) rfl dX9_heightFrom_86) <| dr_c (dg_aload_n (k := 0) rfl dX9_heightFrom_87) <| dr_c (dg_iload_n (k := 1) rfl dX9_heightFrom_88) <| dr_c (dg_inv dX9_heightFrom_89 mo_80 rfl rfl wd_644 wd_398 wd_399 pd_80) <| dr_c (dg_no) <| dr_c (dg_no) <| dr_c (dg_iconst (by decide) dX9_heightFrom_92) <| dr_c (dg_inv dX9_heightFrom_93 mo_78 rfl rfl wd_643 wd_377 wd_378 pd_78) <| dr_c (dg_no) <| dr_c (dg_no) <| dr_n
theorem tr_92_6 : dm_AllR (dm_Good dm_tb RX9 cX9_heightFrom 7 none false none) 96 [dm_if_ne 99 103, dm_no, dm_no, dm_push 100 (.int 1), dm_goto 104, dm_no, dm_no, dm_push 104 (.int 0), dm_ist 106 6, dm_no, dm_ald 107 2, dm_ild 109 6, dm_no, dm_if_eq 112 116, dm_no, dm_no] := dr_c (dg_if_ne (by decide) dX9_heightFrom_96) <| dr_c (dg_no) <| dr_c (dg_no) <| dr_c (dg_iconst (by decide) dX9_heightFrom_99) <| dr_c (dg_goto (by decide) dX9_heightFrom_100) <| dr_c (dg_no) <| dr_c (dg_no) <| dr_c (dg_iconst (by decide) dX9_heightFrom_103) <| dr_c (dg_istore (by decide) dX9_heightFrom_104) <| dr_c (dg_no) <| dr_c (dg_aload_n (k := 2) rfl dX9_heightFrom_106) <| dr_c (dg_iload dX9_heightFrom_107) <| dr_c (dg_no) <| dr_c (dg_if_eq (by decide) dX9_heightFrom_109) <| dr_c (dg_no) <| dr_c (dg_no) <| dr_n
theorem tr_92_7 : dm_AllR (dm_Good dm_tb RX9 cX9_heightFrom 7 none false none) 112 [dm_push 113 (.int 0), dm_goto 117, dm_no, dm_no, dm_push 117 (.int 2), dm_ild 119 5, dm_no, dm_if_eq 122 126, dm_no, dm_no, dm_push 123 (.int 0), dm_goto 127, dm_no, dm_no, dm_push 127 (.int 1), dm_ii 128 (fun x y => x + y)] := dr_c (dg_iconst (by decide) dX9_heightFrom_112) <| dr_c (dg_goto (by decide) dX9_heightFrom_113) <| dr_c (dg_no) <| dr_c (dg_no) <| dr_c (dg_iconst (by decide) dX9_heightFrom_116) <| dr_c (dg_iload dX9_heightFrom_117) <| dr_c (dg_no) <| dr_c (dg_if_eq (by decide) dX9_heightFrom_119) <| dr_c (dg_no) <| dr_c (dg_no) <| dr_c (dg_iconst (by decide) dX9_heightFrom_122) <| dr_c (dg_goto (by decide) dX9_heightFrom_123) <| dr_c (dg_no) <| dr_c (dg_no) <| dr_c (dg_iconst (by decide) dX9_heightFrom_126) <| dr_c (dg_iadd dX9_heightFrom_127) <| dr_n
theorem tr_92_8 : dm_AllR (dm_Good dm_tb RX9 cX9_heightFrom 7 none false none) 128 [dm_i1 129 (fun x => .long x.toInt64), dm_push 130 (.int 2), dm_inv 133 8 2 1, dm_no, dm_no, dm_ild 135 5, dm_no, dm_if_eq 138 151, dm_no, dm_no, dm_ald 139 0, dm_ald 140 0, dm_ild 141 1, dm_inv 144 79 1 6, dm_no, dm_no] := dr_c (dg_i2l dX9_heightFrom_128) <| dr_c (dg_iconst (by decide) dX9_heightFrom_129) <| dr_c (dg_inv dX9_heightFrom_130 mo_8 rfl rfl wd_637 wd_638 wd_639 pd_8) <| dr_c (dg_no) <| dr_c (dg_no) <| dr_c (dg_iload dX9_heightFrom_133) <| dr_c (dg_no) <| dr_c (dg_if_eq (by decide) dX9_heightFrom_135) <| dr_c (dg_no) <| dr_c (dg_no) <| dr_c (dg_aload_n (k := 0) rfl dX9_heightFrom_138) <| dr_c (dg_aload_n (k := 0) rfl dX9_heightFrom_139) <| dr_c (dg_iload_n (k := 1) rfl dX9_heightFrom_140) <| dr_c (dg_inv dX9_heightFrom_141 mo_79 rfl rfl wd_642 wd_393 wd_394 pd_79) <| dr_c (dg_no) <| dr_c (dg_no) <| dr_n
theorem tr_92_9 : dm_AllR (dm_Good dm_tb RX9 cX9_heightFrom 7 none false none) 144 [dm_ald 145 2, dm_ild 146 3, dm_push 147 (.int 1), dm_ii 148 (fun x y => x + y), dm_ins 151 92 4, dm_no, dm_no, dm_ild 153 6, dm_no, dm_if_eq 156 169, dm_no, dm_no, dm_ald 157 0, dm_ald 158 0, dm_ild 159 1, dm_inv 162 80 1 6] := dr_c (dg_aload_n (k := 2) rfl dX9_heightFrom_144) <| dr_c (dg_iload_n (k := 3) rfl dX9_heightFrom_145) <| dr_c (dg_iconst (by decide) dX9_heightFrom_146) <| dr_c (dg_iadd dX9_heightFrom_147) <| dr_c (dg_ins dX9_heightFrom_148 mo_92 wd_652 wd_647 pd_92) <| dr_c (dg_no) <| dr_c (dg_no) <| dr_c (dg_iload dX9_heightFrom_151) <| dr_c (dg_no) <| dr_c (dg_if_eq (by decide) dX9_heightFrom_153) <| dr_c (dg_no) <| dr_c (dg_no) <| dr_c (dg_aload_n (k := 0) rfl dX9_heightFrom_156) <| dr_c (dg_aload_n (k := 0) rfl dX9_heightFrom_157) <| dr_c (dg_iload_n (k := 1) rfl dX9_heightFrom_158) <| dr_c (dg_inv dX9_heightFrom_159 mo_80 rfl rfl wd_644 wd_398 wd_399 pd_80) <| dr_n
theorem tr_92_10 : dm_AllR (dm_Good dm_tb RX9 cX9_heightFrom 7 none false none) 160 [dm_no, dm_no, dm_ald 163 2, dm_ild 164 3, dm_push 165 (.int 1), dm_ii 166 (fun x y => x + y), dm_ins 169 92 4, dm_no, dm_no, dm_vret] := dr_c (dg_no) <| dr_c (dg_no) <| dr_c (dg_aload_n (k := 2) rfl dX9_heightFrom_162) <| dr_c (dg_iload_n (k := 3) rfl dX9_heightFrom_163) <| dr_c (dg_iconst (by decide) dX9_heightFrom_164) <| dr_c (dg_iadd dX9_heightFrom_165) <| dr_c (dg_ins dX9_heightFrom_166 mo_92 wd_652 wd_647 pd_92) <| dr_c (dg_no) <| dr_c (dg_no) <| dr_c (dg_vret dX9_heightFrom_169) <| dr_n
theorem tk_92 : dm_AllC (dm_Good dm_tb RX9 cX9_heightFrom 7 none false none) 0 cd_92 := dc_c (by decide) tr_92_0 <| dc_c (by decide) tr_92_1 <| dc_c (by decide) tr_92_2 <| dc_c (by decide) tr_92_3 <| dc_c (by decide) tr_92_4 <| dc_c (by decide) tr_92_5 <| dc_c (by decide) tr_92_6 <| dc_c (by decide) tr_92_7 <| dc_c (by decide) tr_92_8 <| dc_c (by decide) tr_92_9 <| dc_c (by decide) tr_92_10 <| dc_n
theorem dX9_pushNumber_0 : decode cX9_pushNumber 0 = .ok (.iload_n 0, 1) := by decide +kernel
theorem dX9_pushNumber_1 : decode cX9_pushNumber 1 = .ok (.istore_n 2, 1) := by decide +kernel
theorem dX9_pushNumber_2 : decode cX9_pushNumber 2 = .ok (.iconst 2, 1) := by decide +kernel
theorem dX9_pushNumber_3 : decode cX9_pushNumber 3 = .ok (.istore_n 3, 1) := by decide +kernel
theorem dX9_pushNumber_4 : decode cX9_pushNumber 4 = .ok (.iload_n 3, 1) := by decide +kernel
theorem dX9_pushNumber_5 : decode cX9_pushNumber 5 = .ok (.bipush 30, 2) := by decide +kernel
theorem dX9_pushNumber_7 : decode cX9_pushNumber 7 = .ok (.if_icmp .ge 28, 3) := by decide +kernel
theorem dX9_pushNumber_10 : decode cX9_pushNumber 10 = .ok (.iload_n 2, 1) := by decide +kernel
theorem dX9_pushNumber_11 : decode cX9_pushNumber 11 = .ok (.iconst 1, 1) := by decide +kernel
theorem dX9_pushNumber_12 : decode cX9_pushNumber 12 = .ok (.iload_n 3, 1) := by decide +kernel
theorem dX9_pushNumber_13 : decode cX9_pushNumber 13 = .ok (.ishl, 1) := by decide +kernel
theorem dX9_pushNumber_14 : decode cX9_pushNumber 14 = .ok (.if_icmp .lt 21, 3) := by decide +kernel
theorem dX9_pushNumber_17 : decode cX9_pushNumber 17 = .ok (.aload_n 1, 1) := by decide +kernel
theorem dX9_pushNumber_18 : decode cX9_pushNumber 18 = .ok (.lconst 1, 1) := by decide +kernel
theorem dX9_pushNumber_19 : decode cX9_pushNumber 19 = .ok (.iconst 1, 1) := by decide +kernel
theorem dX9_pushNumber_20 : decode cX9_pushNumber 20 = .ok (.invokevirtual 19, 3) := by decide +kernel
theorem dX9_pushNumber_23 : decode cX9_pushNumber 23 = .ok (.iload_n 2, 1) := by decide +kernel
theorem dX9_pushNumber_24 : decode cX9_pushNumber 24 = .ok (.iconst 1, 1) := by decide +kernel
theorem dX9_pushNumber_25 : decode cX9_pushNumber 25 = .ok (.iload_n 3, 1) := by decide +kernel
theorem dX9_pushNumber_26 : decode cX9_pushNumber 26 = .ok (.ishl, 1) := by decide +kernel
theorem dX9_pushNumber_27 : decode cX9_pushNumber 27 = .ok (.isub, 1) := by decide +kernel
theorem dX9_pushNumber_28 : decode cX9_pushNumber 28 = .ok (.istore_n 2, 1) := by decide +kernel
theorem dX9_pushNumber_29 : decode cX9_pushNumber 29 = .ok (.iinc 3 1, 3) := by decide +kernel
theorem dX9_pushNumber_32 : decode cX9_pushNumber 32 = .ok (.goto (-28), 3) := by decide +kernel
theorem dX9_pushNumber_35 : decode cX9_pushNumber 35 = .ok (.aload_n 1, 1) := by decide +kernel
theorem dX9_pushNumber_36 : decode cX9_pushNumber 36 = .ok (.lconst 0, 1) := by decide +kernel
theorem dX9_pushNumber_37 : decode cX9_pushNumber 37 = .ok (.iconst 1, 1) := by decide +kernel
theorem dX9_pushNumber_38 : decode cX9_pushNumber 38 = .ok (.invokevirtual 19, 3) := by decide +kernel
theorem dX9_pushNumber_41 : decode cX9_pushNumber 41 = .ok (.aload_n 1, 1) := by decide +kernel
theorem dX9_pushNumber_42 : decode cX9_pushNumber 42 = .ok (.iload_n 2, 1) := by decide +kernel
theorem dX9_pushNumber_43 : decode cX9_pushNumber 43 = .ok (.i2l, 1) := by decide +kernel
theorem dX9_pushNumber_44 : decode cX9_pushNumber 44 = .ok (.iload_n 3, 1) := by decide +kernel
theorem dX9_pushNumber_45 : decode cX9_pushNumber 45 = .ok (.invokevirtual 19, 3) := by decide +kernel
theorem dX9_pushNumber_48 : decode cX9_pushNumber 48 = .ok (.return_, 1) := by decide +kernel
def cd_93 : dm_Code := [[dm_ild 1 0, dm_ist 2 2, dm_push 3 (.int 2), dm_ist 4 3, dm_ild 5 3, dm_push 7 (.int 30), dm_no, dm_ic_ge 10 35, dm_no, dm_no, dm_ild 11 2, dm_push 12 (.int 1), dm_ild 13 3, dm_ii 14 (fun x y => x <<< (y &&& 31)), dm_ic_lt 17 35, dm_no],
  [dm_no, dm_ald 18 1, dm_push 19 (.long 1), dm_push 20 (.int 1), dm_inv 23 8 2 1, dm_no, dm_no, dm_ild 24 2, dm_push 25 (.int 1), dm_ild 26 3, dm_ii 27 (fun x y => x <<< (y &&& 31)), dm_ii 28 (fun x y => x - y), dm_ist 29 2, dm_iinc 32 3 1, dm_no, dm_no],
  [dm_goto 4, dm_no, dm_no, dm_ald 36 1, dm_push 37 (.long 0), dm_push 38 (.int 1), dm_inv 41 8 2 1, dm_no, dm_no, dm_ald 42 1, dm_ild 43 2, dm_i1 44 (fun x => .long x.toInt64), dm_ild 45 3, dm_inv 48 8 2 1, dm_no, dm_no],
  [dm_vret]]
theorem tr_93_0 : dm_AllR (dm_Good dm_tb RX9 cX9_pushNumber 4 none false none) 0 [dm_ild 1 0, dm_ist 2 2, dm_push 3 (.int 2), dm_ist 4 3, dm_ild 5 3, dm_push 7 (.int 30), dm_no, dm_ic_ge 10 35, dm_no, dm_no, dm_ild 11 2, dm_push 12 (.int 1), dm_ild 13 3, dm_ii 14 (fun x y => x <<< (y &&& 31)), dm_ic_lt 17 35, dm_no] := dr_c (dg_iload_n (k := 0) rfl dX9_pushNumber_0) <| dr_c (dg_istore_n (k := 2) rfl (by decide) dX9_pushNumber_1) <| dr_c (dg_iconst (by decide) dX9_pushNumber_2) <| dr_c (dg_istore_n (k := 3) rfl (by decide) dX9_pushNumber_3) <| dr_c (dg_iload_n (k := 3) rfl dX9_pushNumber_4) <| dr_c (dg_bipush (by decide) dX9_pushNumber_5) <| dr_c (dg_no) <| dr_c (dg_ic_ge (by decide) dX9_pushNumber_7) <| dr_c (dg_no) <| dr_c (dg_no) <| dr_c (dg_iload_n (k := 2) rfl dX9_pushNumber_10) <| dr_c (dg_iconst (by decide) dX9_pushNumber_11) <| dr_c (dg_iload_n (k := 3) rfl dX9_pushNumber_12) <| dr_c (dg_ishl dX9_pushNumber_13) <| dr_c (dg_ic_lt (by decide) dX9_pushNumber_14) <| dr_c (dg_no) <| dr_n
theorem tr_93_1 : dm_AllR (dm_Good dm_tb RX9 cX9_pushNumber 4 none false none) 16 [dm_no, dm_ald 18 1, dm_push 19 (.long 1), dm_push 20 (.int 1), dm_inv 23 8 2 1, dm_no, dm_no, dm_ild 24 2, dm_push 25 (.int 1), dm_ild 26 3, dm_ii 27 (fun x y => x <<< (y &&& 31)), dm_ii 28 (fun x y => x - y), dm_ist 29 2, dm_iinc 32 3 1, dm_no, dm_no] := dr_c (dg_no) <| dr_c (dg_aload_n (k := 1) rfl dX9_pushNumber_17) <| dr_c (dg_lconst (by decide) dX9_pushNumber_18) <| dr_c (dg_iconst (by decide) dX9_pushNumber_19) <| dr_c (dg_inv dX9_pushNumber_20 mo_8 rfl rfl wd_637 wd_638 wd_639 pd_8) <| dr_c (dg_no) <| dr_c (dg_no) <| dr_c (dg_iload_n (k := 2) rfl dX9_pushNumber_23) <| dr_c (dg_iconst (by decide) dX9_pushNumber_24) <| dr_c (dg_iload_n (k := 3) rfl dX9_pushNumber_25) <| dr_c (dg_ishl dX9_pushNumber_26) <| dr_c (dg_isub dX9_pushNumber_27) <| dr_c (dg_istore_n (k := 2) rfl (by decide) dX9_pushNumber_28) <| dr_c (dg_iinc (by decide) (by decide) dX9_pushNumber_29) <| dr_c (dg_no) <| dr_c (dg_no) <| dr_n
theorem tr_93_2 : dm_AllR (dm_Good dm_tb RX9 cX9_pushNumber 4 none false none) 32 [dm_goto 4, dm_no, dm_no, dm_ald 36 1, dm_push 37 (.long 0), dm_push 38 (.int 1), dm_inv 41 8 2 1, dm_no, dm_no, dm_ald 42 1, dm_ild 43 2, dm_i1 44 (fun x => .long x.toInt64), dm_ild 45 3, dm_inv 48 8 2 1, dm_no, dm_no] := dr_c (dg_goto (by decide) dX9_pushNumber_32) <| dr_c (dg_no) <| dr_c (dg_no) <| dr_c (dg_aload_n (k := 1) rfl dX9_pushNumber_35) <| dr_c (dg_lconst (by decide) dX9_pushNumber_36) <| dr_c (dg_iconst (by decide) dX9_pushNumber_37) <| dr_c (dg_inv dX9_pushNumber_38 mo_8 rfl rfl wd_637 wd_638 wd_639 pd_8) <| dr_c (dg_no) <| dr_c (dg_no) <| dr_c (dg_aload_n (k := 1) rfl dX9_pushNumber_41) <| dr_c (dg_iload_n (k := 2) rfl dX9_pushNumber_42) <| dr_c (dg_i2l dX9_pushNumber_43) <| dr_c (dg_iload_n (k := 3) rfl dX9_pushNumber_44) <| dr_c (dg_inv dX9_pushNumber_45 mo_8 rfl rfl wd_637 wd_638 wd_639 pd_8) <| dr_c (dg_no) <| dr_c (dg_no) <| dr_n
theorem tr_93_3 : dm_AllR (dm_Good dm_tb RX9 cX9_pushNumber 4 none false none) 48 [dm_vret] := dr_c (dg_vret dX9_pushNumber_48) <| dr_n
theorem tk_93 : dm_AllC (dm_Good dm_tb RX9 cX9_pushNumber 4 none false none) 0 cd_93 := dc_c (by decide) tr_93_0 <| dc_c (by decide) tr_93_1 <| dc_c (by decide) tr_93_2 <| dc_c (by decide) tr_93_3 <| dc_n
theorem dX10_init_0 : decode cX10_init 0 = .ok (.aload_n 0, 1) := by decide +kernel
theorem dX10_init_1 : decode cX10_init 1 = .ok (.invokespecial 1, 3) := by decide +kernel
theorem dX10_init_4 : decode cX10_init 4 = .ok (.aload_n 0, 1) := by decide +kernel
theorem dX10_init_5 : decode cX10_init 5 = .ok (.new 7, 3) := by decide +kernel
theorem dX10_init_8 : decode cX10_init 8 = .ok (.dup, 1) := by decide +kernel
theorem dX10_init_9 : decode cX10_init 9 = .ok (.invokespecial 9, 3) := by decide +kernel
theorem dX10_init_12 : decode cX10_init 12 = .ok (.putfield 10, 3) := by decide +kernel
theorem dX10_init_15 : decode cX10_init 15 = .ok (.aload_n 0, 1) := by decide +kernel
theorem dX10_init_16 : decode cX10_init 16 = .ok (.new 7, 3) := by decide +kernel
theorem dX10_init_19 : decode cX10_init 19 = .ok (.dup, 1) := by decide +kernel
theorem dX10_init_20 : decode cX10_init 20 = .ok (.invokespecial 9, 3) := by decide +kernel
theorem dX10_init_23 : decode cX10_init 23 = .ok (.putfield 16, 3) := by decide +kernel
theorem dX10_init_26 : decode cX10_init 26 = .ok (.aload_n 0, 1) := by decide +kernel
theorem dX10_init_27 : decode cX10_init 27 = .ok (.new 19, 3) := by decide +kernel
theorem dX10_init_30 : decode cX10_init 30 = .ok (.dup, 1) := by decide +kernel
theorem dX10_init_31 : decode cX10_init 31 = .ok (.invokespecial 21, 3) := by decide +kernel
theorem dX10_init_34 : decode cX10_init 34 = .ok (.putfield 22, 3) := by decide +kernel
theorem dX10_init_37 : decode cX10_init 37 = .ok (.aload_n 0, 1) := by decide +kernel
theorem dX10_init_38 : decode cX10_init 38 = .ok (.new 26, 3) := by decide +kernel
theorem dX10_init_41 : decode cX10_init 41 = .ok (.dup, 1) := by decide +kernel
theorem dX10_init_42 : decode cX10_init 42 = .ok (.invokespecial 28, 3) := by decide +kernel
theorem dX10_init_45 : decode cX10_init 45 = .ok (.putfield 29, 3) := by decide +kernel
theorem dX10_init_48 : decode cX10_init 48 = .ok (.aload_n 0, 1) := by decide +kernel
theorem dX10_init_49 : decode cX10_init 49 = .ok (.new 33, 3) := by decide +kernel
theorem dX10_init_52 : decode cX10_init 52 = .ok (.dup, 1) := by decide +kernel
theorem dX10_init_53 : decode cX10_init 53 = .ok (.invokespecial 35, 3) := by decide +kernel
theorem dX10_init_56 : decode cX10_init 56 = .ok (.putfield 36, 3) := by decide +kernel
theorem dX10_init_59 : decode cX10_init 59 = .ok (.aload_n 0, 1) := by decide +kernel
theorem dX10_init_60 : decode cX10_init 60 = .ok (.new 33, 3) := by decide +kernel
theorem dX10_init_63 : decode cX10_init 63 = .ok (.dup, 1) := by decide +kernel
theorem dX10_init_64 : decode cX10_init 64 = .ok (.invokespecial 35, 3) := by decide +kernel
theorem dX10_init_67 : decode cX10_init 67 = .ok (.putfield 40, 3) := by decide +kernel
theorem dX10_init_70 : decode cX10_init 70 = .ok (.aload_n 0, 1) := by decide +kernel
theorem dX10_init_71 : decode cX10_init 71 = .ok (.new 43, 3) := by decide +kernel
theorem dX10_init_74 : decode cX10_init 74 = .ok (.dup, 1) := by decide +kernel
theorem dX10_init_75 : decode cX10_init 75 = .ok (.aload_n 0, 1) := by decide +kernel
theorem dX10_init_76 : decode cX10_init 76 = .ok (.getfield 36, 3) := by decide +kernel
theorem dX10_init_79 : decode cX10_init 79 = .ok (.invokespecial 45, 3) := by decide +kernel
theorem dX10_init_82 : decode cX10_init 82 = .ok (.putfield 48, 3) := by decide +kernel
theorem dX10_init_85 : decode cX10_init 85 = .ok (.aload_n 0, 1) := by decide +kernel
theorem dX10_init_86 : decode cX10_init 86 = .ok (.iconst 0, 1) := by decide +kernel
theorem dX10_init_87 : decode cX10_init 87 = .ok (.putfield 52, 3) := by decide +kernel
theorem dX10_init_90 : decode cX10_init 90 = .ok (.aload_n 0, 1) := by decide +kernel
theorem dX10_init_91 : decode cX10_init 91 = .ok (.invokevirtual 56, 3) := by decide +kernel
theorem dX10_init_94 : decode cX10_init 94 = .ok (.return_, 1) := by decide +kernel
def cd_94 : dm_Code := [[dm_ald 1 0, dm_oin 4, dm_no, dm_no, dm_ald 5 0, dm_new 8 2 nf_X2, dm_no, dm_no, dm_dup 9, dm_ini 12 11 0, dm_no, dm_no, dm_putf 15 7 0 (.object "SplitClocks$Book"), dm_no, dm_no, dm_ald 16 0],
  [dm_new 19 2 nf_X2, dm_no, dm_no, dm_dup 20, dm_ini 23 11 0, dm_no, dm_no, dm_putf 26 7 1 (.object "SplitClocks$Book"), dm_no, dm_no, dm_ald 27 0, dm_new 30 0 nf_X0, dm_no, dm_no, dm_dup 31, dm_ini 34 0 0],
  [dm_no, dm_no, dm_putf 37 7 2 (.object "SplitClocks$Acts"), dm_no, dm_no, dm_ald 38 0, dm_new 41 4 nf_X5, dm_no, dm_no, dm_dup 42, dm_ini 45 49 0, dm_no, dm_no, dm_putf 48 7 3 (.object "SplitClocks$Past"), dm_no, dm_no],
  [dm_ald 49 0, dm_new 52 1 nf_X1, dm_no, dm_no, dm_dup 53, dm_ini 56 5 0, dm_no, dm_no, dm_putf 59 7 4 (.object "SplitClocks$Bits"), dm_no, dm_no, dm_ald 60 0, dm_new 63 1 nf_X1, dm_no, dm_no, dm_dup 64],
  [dm_ini 67 5 0, dm_no, dm_no, dm_putf 70 7 5 (.object "SplitClocks$Bits"), dm_no, dm_no, dm_ald 71 0, dm_new 74 5 nf_X6, dm_no, dm_no, dm_dup 75, dm_ald 76 0, dm_getf 79 7 4, dm_no, dm_no, dm_ini 82 54 1],
  [dm_no, dm_no, dm_putf 85 7 6 (.object "SplitClocks$Reader"), dm_no, dm_no, dm_ald 86 0, dm_push 87 (.int 0), dm_putf 90 7 7 .boolean, dm_no, dm_no, dm_ald 91 0, dm_inv 94 124 0 7, dm_no, dm_no, dm_vret]]
theorem tr_94_0 : dm_AllR (dm_Good dm_tb RX10 cX10_init 1 none true none) 0 [dm_ald 1 0, dm_oin 4, dm_no, dm_no, dm_ald 5 0, dm_new 8 2 nf_X2, dm_no, dm_no, dm_dup 9, dm_ini 12 11 0, dm_no, dm_no, dm_putf 15 7 0 (.object "SplitClocks$Book"), dm_no, dm_no, dm_ald 16 0] := dr_c (dg_aload_n (k := 0) rfl dX10_init_0) <| dr_c (dg_oin dX10_init_1 wd_85 wd_86 wd_87) <| dr_c (dg_no) <| dr_c (dg_no) <| dr_c (dg_aload_n (k := 0) rfl dX10_init_4) <| dr_c (dg_new (T := TX2) (C := RX2) (N := 10) (ty := tyX2) dX10_init_5 rfl iw_X2 tyX2_ok wd_88 wd_89 wd_61 rfl nv_X2 nz_X2) <| dr_c (dg_no) <| dr_c (dg_no) <| dr_c (dg_dup dX10_init_8) <| dr_c (dg_iniN (host := RX10) dX10_init_9 mo_11 rfl rfl (by decide +kernel) wd_91 pd_11) <| dr_c (dg_no) <| dr_c (dg_no) <| dr_c (dg_putF (T := TX10) (C := RX10) (N := 11) dX10_init_12 rfl (by decide) iw_X10 tyX10_ok nmX10 wd_310 rfl rfl rfl) <| dr_c (dg_no) <| dr_c (dg_no) <| dr_c (dg_aload_n (k := 0) rfl dX10_init_15) <| dr_n
theorem tr_94_1 : dm_AllR (dm_Good dm_tb RX10 cX10_init 1 none true none) 16 [dm_new 19 2 nf_X2, dm_no, dm_no, dm_dup 20, dm_ini 23 11 0, dm_no, dm_no, dm_putf 26 7 1 (.object "SplitClocks$Book"), dm_no, dm_no, dm_ald 27 0, dm_new 30 0 nf_X0, dm_no, dm_no, dm_dup 31, dm_ini 34 0 0] := dr_c (dg_new (T := TX2) (C := RX2) (N := 10) (ty := tyX2) dX10_init_16 rfl iw_X2 tyX2_ok wd_88 wd_89 wd_61 rfl nv_X2 nz_X2) <| dr_c (dg_no) <| dr_c (dg_no) <| dr_c (dg_dup dX10_init_19) <| dr_c (dg_iniN (host := RX10) dX10_init_20 mo_11 rfl rfl (by decide +kernel) wd_91 pd_11) <| dr_c (dg_no) <| dr_c (dg_no) <| dr_c (dg_putF (T := TX10) (C := RX10) (N := 11) dX10_init_23 rfl (by decide) iw_X10 tyX10_ok nmX10 wd_311 rfl rfl rfl) <| dr_c (dg_no) <| dr_c (dg_no) <| dr_c (dg_aload_n (k := 0) rfl dX10_init_26) <| dr_c (dg_new (T := TX0) (C := RX0) (N := 6) (ty := tyX0) dX10_init_27 rfl iw_X0 tyX0_ok wd_162 wd_163 wd_65 rfl nv_X0 nz_X0) <| dr_c (dg_no) <| dr_c (dg_no) <| dr_c (dg_dup dX10_init_30) <| dr_c (dg_iniN (host := RX10) dX10_init_31 mo_0 rfl rfl (by decide +kernel) wd_165 pd_0) <| dr_n
theorem tr_94_2 : dm_AllR (dm_Good dm_tb RX10 cX10_init 1 none true none) 32 [dm_no, dm_no, dm_putf 37 7 2 (.object "SplitClocks$Acts"), dm_no, dm_no, dm_ald 38 0, dm_new 41 4 nf_X5, dm_no, dm_no, dm_dup 42, dm_ini 45 49 0, dm_no, dm_no, dm_putf 48 7 3 (.object "SplitClocks$Past"), dm_no, dm_no] := dr_c (dg_no) <| dr_c (dg_no) <| dr_c (dg_putF (T := TX10) (C := RX10) (N := 11) dX10_init_34 rfl (by decide) iw_X10 tyX10_ok nmX10 wd_312 rfl rfl rfl) <| dr_c (dg_no) <| dr_c (dg_no) <| dr_c (dg_aload_n (k := 0) rfl dX10_init_37) <| dr_c (dg_new (T := TX5) (C := RX5) (N := 2) (ty := tyX5) dX10_init_38 rfl iw_X5 tyX5_ok wd_189 wd_190 wd_66 rfl nv_X5 nz_X5) <| dr_c (dg_no) <| dr_c (dg_no) <| dr_c (dg_dup dX10_init_41) <| dr_c (dg_iniN (host := RX10) dX10_init_42 mo_49 rfl rfl (by decide +kernel) wd_192 pd_49) <| dr_c (dg_no) <| dr_c (dg_no) <| dr_c (dg_putF (T := TX10) (C := RX10) (N := 11) dX10_init_45 rfl (by decide) iw_X10 tyX10_ok nmX10 wd_313 rfl rfl rfl) <| dr_c (dg_no) <| dr_c (dg_no) <| dr_n
theorem tr_94_3 : dm_AllR (dm_Good dm_tb RX10 cX10_init 1 none true none) 48 [dm_ald 49 0, dm_new 52 1 nf_X1, dm_no, dm_no, dm_dup 53, dm_ini 56 5 0, dm_no, dm_no, dm_putf 59 7 4 (.object "SplitClocks$Bits"), dm_no, dm_no, dm_ald 60 0, dm_new 63 1 nf_X1, dm_no, dm_no, dm_dup 64] := dr_c (dg_aload_n (k := 0) rfl dX10_init_48) <| dr_c (dg_new (T := TX1) (C := RX1) (N := 2) (ty := tyX1) dX10_init_49 rfl iw_X1 tyX1_ok wd_204 wd_205 wd_67 rfl nv_X1 nz_X1) <| dr_c (dg_no) <| dr_c (dg_no) <| dr_c (dg_dup dX10_init_52) <| dr_c (dg_iniN (host := RX10) dX10_init_53 mo_5 rfl rfl (by decide +kernel) wd_207 pd_5) <| dr_c (dg_no) <| dr_c (dg_no) <| dr_c (dg_putF (T := TX10) (C := RX10) (N := 11) dX10_init_56 rfl (by decide) iw_X10 tyX10_ok nmX10 wd_314 rfl rfl rfl) <| dr_c (dg_no) <| dr_c (dg_no) <| dr_c (dg_aload_n (k := 0) rfl dX10_init_59) <| dr_c (dg_new (T := TX1) (C := RX1) (N := 2) (ty := tyX1) dX10_init_60 rfl iw_X1 tyX1_ok wd_204 wd_205 wd_67 rfl nv_X1 nz_X1) <| dr_c (dg_no) <| dr_c (dg_no) <| dr_c (dg_dup dX10_init_63) <| dr_n
theorem tr_94_4 : dm_AllR (dm_Good dm_tb RX10 cX10_init 1 none true none) 64 [dm_ini 67 5 0, dm_no, dm_no, dm_putf 70 7 5 (.object "SplitClocks$Bits"), dm_no, dm_no, dm_ald 71 0, dm_new 74 5 nf_X6, dm_no, dm_no, dm_dup 75, dm_ald 76 0, dm_getf 79 7 4, dm_no, dm_no, dm_ini 82 54 1] := dr_c (dg_iniN (host := RX10) dX10_init_64 mo_5 rfl rfl (by decide +kernel) wd_207 pd_5) <| dr_c (dg_no) <| dr_c (dg_no) <| dr_c (dg_putF (T := TX10) (C := RX10) (N := 11) dX10_init_67 rfl (by decide) iw_X10 tyX10_ok nmX10 wd_315 rfl rfl rfl) <| dr_c (dg_no) <| dr_c (dg_no) <| dr_c (dg_aload_n (k := 0) rfl dX10_init_70) <| dr_c (dg_new (T := TX6) (C := RX6) (N := 3) (ty := tyX6) dX10_init_71 rfl iw_X6 tyX6_ok wd_219 wd_220 wd_68 rfl nv_X6 nz_X6) <| dr_c (dg_no) <| dr_c (dg_no) <| dr_c (dg_dup dX10_init_74) <| dr_c (dg_aload_n (k := 0) rfl dX10_init_75) <| dr_c (dg_getf (T := TX10) (C := RX10) (N := 11) dX10_init_76 rfl (by decide) iw_X10 wd_314) <| dr_c (dg_no) <| dr_c (dg_no) <| dr_c (dg_ini dX10_init_79 mo_54 rfl rfl wd_221 wd_222 pd_54) <| dr_n
theorem tr_94_5 : dm_AllR (dm_Good dm_tb RX10 cX10_init 1 none true none) 80 [dm_no, dm_no, dm_putf 85 7 6 (.object "SplitClocks$Reader"), dm_no, dm_no, dm_ald 86 0, dm_push 87 (.int 0), dm_putf 90 7 7 .boolean, dm_no, dm_no, dm_ald 91 0, dm_inv 94 124 0 7, dm_no, dm_no, dm_vret] := dr_c (dg_no) <| dr_c (dg_no) <| dr_c (dg_putF (T := TX10) (C := RX10) (N := 11) dX10_init_82 rfl (by decide) iw_X10 tyX10_ok nmX10 wd_316 rfl rfl rfl) <| dr_c (dg_no) <| dr_c (dg_no) <| dr_c (dg_aload_n (k := 0) rfl dX10_init_85) <| dr_c (dg_iconst (by decide) dX10_init_86) <| dr_c (dg_putf (T := TX10) (C := RX10) (N := 11) dX10_init_87 rfl (by decide) iw_X10 tyX10_ok nmX10 wd_317 rfl rfl) <| dr_c (dg_no) <| dr_c (dg_no) <| dr_c (dg_aload_n (k := 0) rfl dX10_init_90) <| dr_c (dg_inv dX10_init_91 mo_124 rfl rfl wd_235 wd_237 wd_0 pd_124) <| dr_c (dg_no) <| dr_c (dg_no) <| dr_c (dg_vret dX10_init_94) <| dr_n
theorem tk_94 : dm_AllC (dm_Good dm_tb RX10 cX10_init 1 none true none) 0 cd_94 := dc_c (by decide) tr_94_0 <| dc_c (by decide) tr_94_1 <| dc_c (by decide) tr_94_2 <| dc_c (by decide) tr_94_3 <| dc_c (by decide) tr_94_4 <| dc_c (by decide) tr_94_5 <| dc_n
theorem dX10_seed_0 : decode cX10_seed 0 = .ok (.aload_n 0, 1) := by decide +kernel
theorem dX10_seed_1 : decode cX10_seed 1 = .ok (.invokevirtual 56, 3) := by decide +kernel
theorem dX10_seed_4 : decode cX10_seed 4 = .ok (.return_, 1) := by decide +kernel
def cd_95 : dm_Code := [[dm_ald 1 0, dm_inv 4 124 0 7, dm_no, dm_no, dm_vret]]
theorem tr_95_0 : dm_AllR (dm_Good dm_tb RX10 cX10_seed 1 none false none) 0 [dm_ald 1 0, dm_inv 4 124 0 7, dm_no, dm_no, dm_vret] := dr_c (dg_aload_n (k := 0) rfl dX10_seed_0) <| dr_c (dg_inv dX10_seed_1 mo_124 rfl rfl wd_235 wd_237 wd_0 pd_124) <| dr_c (dg_no) <| dr_c (dg_no) <| dr_c (dg_vret dX10_seed_4) <| dr_n
theorem tk_95 : dm_AllC (dm_Good dm_tb RX10 cX10_seed 1 none false none) 0 cd_95 := dc_c (by decide) tr_95_0 <| dc_n
theorem dX10_fork_0 : decode cX10_fork 0 = .ok (.aload_n 0, 1) := by decide +kernel
theorem dX10_fork_1 : decode cX10_fork 1 = .ok (.getfield 10, 3) := by decide +kernel
theorem dX10_fork_4 : decode cX10_fork 4 = .ok (.iload_n 1, 1) := by decide +kernel
theorem dX10_fork_5 : decode cX10_fork 5 = .ok (.invokevirtual 59, 3) := by decide +kernel
theorem dX10_fork_8 : decode cX10_fork 8 = .ok (.ifCond .eq 24, 3) := by decide +kernel
theorem dX10_fork_11 : decode cX10_fork 11 = .ok (.aload_n 0, 1) := by decide +kernel
theorem dX10_fork_12 : decode cX10_fork 12 = .ok (.getfield 10, 3) := by decide +kernel
theorem dX10_fork_15 : decode cX10_fork 15 = .ok (.getfield 63, 3) := by decide +kernel
theorem dX10_fork_18 : decode cX10_fork 18 = .ok (.aload_n 0, 1) := by decide +kernel
theorem dX10_fork_19 : decode cX10_fork 19 = .ok (.getfield 10, 3) := by decide +kernel
theorem dX10_fork_22 : decode cX10_fork 22 = .ok (.iload_n 1, 1) := by decide +kernel
theorem dX10_fork_23 : decode cX10_fork 23 = .ok (.invokevirtual 67, 3) := by decide +kernel
theorem dX10_fork_26 : decode cX10_fork 26 = .ok (.invokestatic 71, 3) := by decide +kernel
theorem dX10_fork_29 : decode cX10_fork 29 = .ok (.ifCond .ne 5, 3) := by decide +kernel
theorem dX10_fork_32 : decode cX10_fork 32 = .ok (.iconst (-1), 1) := by decide +kernel
theorem dX10_fork_33 : decode cX10_fork 33 = .ok (.ireturn, 1) := by decide +kernel
theorem dX10_fork_34 : decode cX10_fork 34 = .ok (.aload_n 0, 1) := by decide +kernel
theorem dX10_fork_35 : decode cX10_fork 35 = .ok (.getfield 10, 3) := by decide +kernel
theorem dX10_fork_38 : decode cX10_fork 38 = .ok (.invokevirtual 77, 3) := by decide +kernel
theorem dX10_fork_41 : decode cX10_fork 41 = .ok (.istore_n 2, 1) := by decide +kernel
theorem dX10_fork_42 : decode cX10_fork 42 = .ok (.aload_n 0, 1) := by decide +kernel
theorem dX10_fork_43 : decode cX10_fork 43 = .ok (.getfield 10, 3) := by decide +kernel
theorem dX10_fork_46 : decode cX10_fork 46 = .ok (.iload_n 1, 1) := by decide +kernel
theorem dX10_fork_47 : decode cX10_fork 47 = .ok (.invokevirtual 67, 3) := by decide +kernel
theorem dX10_fork_50 : decode cX10_fork 50 = .ok (.istore_n 3, 1) := by decide +kernel
theorem dX10_fork_51 : decode cX10_fork 51 = .ok (.aload_n 0, 1) := by decide +kernel
theorem dX10_fork_52 : decode cX10_fork 52 = .ok (.getfield 10, 3) := by decide +kernel
theorem dX10_fork_55 : decode cX10_fork 55 = .ok (.iload_n 1, 1) := by decide +kernel
theorem dX10_fork_56 : decode cX10_fork 56 = .ok (.invokevirtual 81, 3) := by decide +kernel
theorem dX10_fork_59 : decode cX10_fork 59 = .ok (.istore 4, 2) := by decide +kernel
theorem dX10_fork_61 : decode cX10_fork 61 = .ok (.aload_n 0, 1) := by decide +kernel
theorem dX10_fork_62 : decode cX10_fork 62 = .ok (.getfield 10, 3) := by decide +kernel
theorem dX10_fork_65 : decode cX10_fork 65 = .ok (.aload_n 0, 1) := by decide +kernel
theorem dX10_fork_66 : decode cX10_fork 66 = .ok (.getfield 10, 3) := by decide +kernel
theorem dX10_fork_69 : decode cX10_fork 69 = .ok (.getfield 63, 3) := by decide +kernel
theorem dX10_fork_72 : decode cX10_fork 72 = .ok (.iload_n 3, 1) := by decide +kernel
theorem dX10_fork_73 : decode cX10_fork 73 = .ok (.iconst 0, 1) := by decide +kernel
theorem dX10_fork_74 : decode cX10_fork 74 = .ok (.invokestatic 84, 3) := by decide +kernel
theorem dX10_fork_77 : decode cX10_fork 77 = .ok (.iload 4, 2) := by decide +kernel
theorem dX10_fork_79 : decode cX10_fork 79 = .ok (.iconst 1, 1) := by decide +kernel
theorem dX10_fork_80 : decode cX10_fork 80 = .ok (.iload_n 1, 1) := by decide +kernel
theorem dX10_fork_81 : decode cX10_fork 81 = .ok (.iconst (-1), 1) := by decide +kernel
theorem dX10_fork_82 : decode cX10_fork 82 = .ok (.invokevirtual 88, 3) := by decide +kernel
theorem dX10_fork_85 : decode cX10_fork 85 = .ok (.istore 5, 2) := by decide +kernel
theorem dX10_fork_87 : decode cX10_fork 87 = .ok (.iload 5, 2) := by decide +kernel
theorem dX10_fork_89 : decode cX10_fork 89 = .ok (.iconst (-1), 1) := by decide +kernel
theorem dX10_fork_90 : decode cX10_fork 90 = .ok (.if_icmp .eq 28, 3) := by decide +kernel
theorem dX10_fork_93 : decode cX10_fork 93 = .ok (.aload_n 0, 1) := by decide +kernel
theorem dX10_fork_94 : decode cX10_fork 94 = .ok (.getfield 10, 3) := by decide +kernel
theorem dX10_fork_97 : decode cX10_fork 97 = .ok (.aload_n 0, 1) := by decide +kernel
theorem dX10_fork_98 : decode cX10_fork 98 = .ok (.getfield 10, 3) := by decide +kernel
theorem dX10_fork_101 : decode cX10_fork 101 = .ok (.getfield 63, 3) := by decide +kernel
theorem dX10_fork_104 : decode cX10_fork 104 = .ok (.iload_n 3, 1) := by decide +kernel
theorem dX10_fork_105 : decode cX10_fork 105 = .ok (.iconst 1, 1) := by decide +kernel
theorem dX10_fork_106 : decode cX10_fork 106 = .ok (.invokestatic 84, 3) := by decide +kernel
theorem dX10_fork_109 : decode cX10_fork 109 = .ok (.iload 4, 2) := by decide +kernel
theorem dX10_fork_111 : decode cX10_fork 111 = .ok (.iconst 1, 1) := by decide +kernel
theorem dX10_fork_112 : decode cX10_fork 112 = .ok (.iload_n 1, 1) := by decide +kernel
theorem dX10_fork_113 : decode cX10_fork 113 = .ok (.iconst (-1), 1) := by decide +kernel
theorem dX10_fork_114 : decode cX10_fork 114 = .ok (.invokevirtual 88, 3) := by decide +kernel
theorem dX10_fork_117 : decode cX10_fork 117 = .ok (.pop, 1) := by decide +kernel
theorem dX10_fork_118 : decode cX10_fork 118 = .ok (.aload_n 0, 1) := by decide +kernel
theorem dX10_fork_119 : decode cX10_fork 119 = .ok (.iload_n 2, 1) := by decide +kernel
theorem dX10_fork_120 : decode cX10_fork 120 = .ok (.iconst 2, 1) := by decide +kernel
theorem dX10_fork_121 : decode cX10_fork 121 = .ok (.iload_n 1, 1) := by decide +kernel
theorem dX10_fork_122 : decode cX10_fork 122 = .ok (.iconst (-1), 1) := by decide +kernel
theorem dX10_fork_123 : decode cX10_fork 123 = .ok (.invokevirtual 92, 3) := by decide +kernel
theorem dX10_fork_126 : decode cX10_fork 126 = .ok (.ifCond .eq 8, 3) := by decide +kernel
theorem dX10_fork_129 : decode cX10_fork 129 = .ok (.iload 5, 2) := by decide +kernel
theorem dX10_fork_131 : decode cX10_fork 131 = .ok (.goto 4, 3) := by decide +kernel
theorem dX10_fork_134 : decode cX10_fork 134 = .ok (.iconst (-1), 1) := by decide +kernel
theorem dX10_fork_135 : decode cX10_fork 135 = .ok (.ireturn, 1) := by decide +kernel
def cd_96 : dm_Code := [[dm_ald 1 0, dm_getf 4 7 0, dm_no, dm_no, dm_ild 5 1, dm_inv 8 27 1 2, dm_no, dm_no, dm_if_eq 11 32, dm_no, dm_no, dm_ald 12 0, dm_getf 15 7 0, dm_no, dm_no, dm_getf 18 2 0],
  [dm_no, dm_no, dm_ald 19 0, dm_getf 22 7 0, dm_no, dm_no, dm_ild 23 1, dm_inv 26 18 1 2, dm_no, dm_no, dm_ins 29 34 2, dm_no, dm_no, dm_if_ne 32 34, dm_no, dm_no],
  [dm_push 33 (.int (-1)), dm_ret .int, dm_ald 35 0, dm_getf 38 7 0, dm_no, dm_no, dm_inv 41 13 0 2, dm_no, dm_no, dm_ist 42 2, dm_ald 43 0, dm_getf 46 7 0, dm_no, dm_no, dm_ild 47 1, dm_inv 50 18 1 2],
  [dm_no, dm_no, dm_ist 51 3, dm_ald 52 0, dm_getf 55 7 0, dm_no, dm_no, dm_ild 56 1, dm_inv 59 19 1 2, dm_no, dm_no, dm_ist 61 4, dm_no, dm_ald 62 0, dm_getf 65 7 0, dm_no],
  [dm_no, dm_ald 66 0, dm_getf 69 7 0, dm_no, dm_no, dm_getf 72 2 0, dm_no, dm_no, dm_ild 73 3, dm_push 74 (.int 0), dm_ins 77 36 3, dm_no, dm_no, dm_ild 79 4, dm_no, dm_push 80 (.int 1)],
  [dm_ild 81 1, dm_push 82 (.int (-1)), dm_inv 85 15 5 2, dm_no, dm_no, dm_ist 87 5, dm_no, dm_ild 89 5, dm_no, dm_push 90 (.int (-1)), dm_ic_eq 93 118, dm_no, dm_no, dm_ald 94 0, dm_getf 97 7 0, dm_no],
  [dm_no, dm_ald 98 0, dm_getf 101 7 0, dm_no, dm_no, dm_getf 104 2 0, dm_no, dm_no, dm_ild 105 3, dm_push 106 (.int 1), dm_ins 109 36 3, dm_no, dm_no, dm_ild 111 4, dm_no, dm_push 112 (.int 1)],
  [dm_ild 113 1, dm_push 114 (.int (-1)), dm_inv 117 15 5 2, dm_no, dm_no, dm_pop 118, dm_ald 119 0, dm_ild 120 2, dm_push 121 (.int 2), dm_ild 122 1, dm_push 123 (.int (-1)), dm_inv 126 125 4 7, dm_no, dm_no, dm_if_eq 129 134, dm_no],
  [dm_no, dm_ild 131 5, dm_no, dm_goto 135, dm_no, dm_no, dm_push 135 (.int (-1)), dm_ret .int]]
theorem tr_96_0 : dm_AllR (dm_Good dm_tb RX10 cX10_fork 6 (some .int) false none) 0 [dm_ald 1 0, dm_getf 4 7 0, dm_no, dm_no, dm_ild 5 1, dm_inv 8 27 1 2, dm_no, dm_no, dm_if_eq 11 32, dm_no, dm_no, dm_ald 12 0, dm_getf 15 7 0, dm_no, dm_no, dm_getf 18 2 0] := dr_c (dg_aload_n (k := 0) rfl dX10_fork_0) <| dr_c (dg_getf (T := TX10) (C := RX10) (N := 11) dX10_fork_1 rfl (by decide) iw_X10 wd_310) <| dr_c (dg_no) <| dr_c (dg_no) <| dr_c (dg_iload_n (k := 1) rfl dX10_fork_4) <| dr_c (dg_inv dX10_fork_5 mo_27 rfl rfl wd_352 wd_353 wd_354 pd_27) <| dr_c (dg_no) <| dr_c (dg_no) <| dr_c (dg_if_eq (by decide) dX10_fork_8) <| dr_c (dg_no) <| dr_c (dg_no) <| dr_c (dg_aload_n (k := 0) rfl dX10_fork_11) <| dr_c (dg_getf (T := TX10) (C := RX10) (N := 11) dX10_fork_12 rfl (by decide) iw_X10 wd_310) <| dr_c (dg_no) <| dr_c (dg_no) <| dr_c (dg_getf (T := TX2) (C := RX2) (N := 10) dX10_fork_15 rfl (by decide) iw_X2 wd_131) <| dr_n
theorem tr_96_1 : dm_AllR (dm_Good dm_tb RX10 cX10_fork 6 (some .int) false none) 16 [dm_no, dm_no, dm_ald 19 0, dm_getf 22 7 0, dm_no, dm_no, dm_ild 23 1, dm_inv 26 18 1 2, dm_no, dm_no, dm_ins 29 34 2, dm_no, dm_no, dm_if_ne 32 34, dm_no, dm_no] := dr_c (dg_no) <| dr_c (dg_no) <| dr_c (dg_aload_n (k := 0) rfl dX10_fork_18) <| dr_c (dg_getf (T := TX10) (C := RX10) (N := 11) dX10_fork_19 rfl (by decide) iw_X10 wd_310) <| dr_c (dg_no) <| dr_c (dg_no) <| dr_c (dg_iload_n (k := 1) rfl dX10_fork_22) <| dr_c (dg_inv dX10_fork_23 mo_18 rfl rfl wd_384 wd_373 wd_374 pd_18) <| dr_c (dg_no) <| dr_c (dg_no) <| dr_c (dg_ins dX10_fork_26 mo_34 wd_385 wd_386 pd_34) <| dr_c (dg_no) <| dr_c (dg_no) <| dr_c (dg_if_ne (by decide) dX10_fork_29) <| dr_c (dg_no) <| dr_c (dg_no) <| dr_n
theorem tr_96_2 : dm_AllR (dm_Good dm_tb RX10 cX10_fork 6 (some .int) false none) 32 [dm_push 33 (.int (-1)), dm_ret .int, dm_ald 35 0, dm_getf 38 7 0, dm_no, dm_no, dm_inv 41 13 0 2, dm_no, dm_no, dm_ist 42 2, dm_ald 43 0, dm_getf 46 7 0, dm_no, dm_no, dm_ild 47 1, dm_inv 50 18 1 2] := dr_c (dg_iconst (by decide) dX10_fork_32) <| dr_c (dg_ret dX10_fork_33) <| dr_c (dg_aload_n (k := 0) rfl dX10_fork_34) <| dr_c (dg_getf (T := TX10) (C := RX10) (N := 11) dX10_fork_35 rfl (by decide) iw_X10 wd_310) <| dr_c (dg_no) <| dr_c (dg_no) <| dr_c (dg_inv dX10_fork_38 mo_13 rfl rfl wd_401 wd_402 wd_403 pd_13) <| dr_c (dg_no) <| dr_c (dg_no) <| dr_c (dg_istore_n (k := 2) rfl (by decide) dX10_fork_41) <| dr_c (dg_aload_n (k := 0) rfl dX10_fork_42) <| dr_c (dg_getf (T := TX10) (C := RX10) (N := 11) dX10_fork_43 rfl (by decide) iw_X10 wd_310) <| dr_c (dg_no) <| dr_c (dg_no) <| dr_c (dg_iload_n (k := 1) rfl dX10_fork_46) <| dr_c (dg_inv dX10_fork_47 mo_18 rfl rfl wd_384 wd_373 wd_374 pd_18) <| dr_n
theorem tr_96_3 : dm_AllR (dm_Good dm_tb RX10 cX10_fork 6 (some .int) false none) 48 [dm_no, dm_no, dm_ist 51 3, dm_ald 52 0, dm_getf 55 7 0, dm_no, dm_no, dm_ild 56 1, dm_inv 59 19 1 2, dm_no, dm_no, dm_ist 61 4, dm_no, dm_ald 62 0, dm_getf 65 7 0, dm_no] := dr_c (dg_no) <| dr_c (dg_no) <| dr_c (dg_istore_n (k := 3) rfl (by decide) dX10_fork_50) <| dr_c (dg_aload_n (k := 0) rfl dX10_fork_51) <| dr_c (dg_getf (T := TX10) (C := RX10) (N := 11) dX10_fork_52 rfl (by decide) iw_X10 wd_310) <| dr_c (dg_no) <| dr_c (dg_no) <| dr_c (dg_iload_n (k := 1) rfl dX10_fork_55) <| dr_c (dg_inv dX10_fork_56 mo_19 rfl rfl wd_405 wd_406 wd_407 pd_19) <| dr_c (dg_no) <| dr_c (dg_no) <| dr_c (dg_istore (by decide) dX10_fork_59) <| dr_c (dg_no) <| dr_c (dg_aload_n (k := 0) rfl dX10_fork_61) <| dr_c (dg_getf (T := TX10) (C := RX10) (N := 11) dX10_fork_62 rfl (by decide) iw_X10 wd_310) <| dr_c (dg_no) <| dr_n
theorem tr_96_4 : dm_AllR (dm_Good dm_tb RX10 cX10_fork 6 (some .int) false none) 64 [dm_no, dm_ald 66 0, dm_getf 69 7 0, dm_no, dm_no, dm_getf 72 2 0, dm_no, dm_no, dm_ild 73 3, dm_push 74 (.int 0), dm_ins 77 36 3, dm_no, dm_no, dm_ild 79 4, dm_no, dm_push 80 (.int 1)] := dr_c (dg_no) <| dr_c (dg_aload_n (k := 0) rfl dX10_fork_65) <| dr_c (dg_getf (T := TX10) (C := RX10) (N := 11) dX10_fork_66 rfl (by decide) iw_X10 wd_310) <| dr_c (dg_no) <| dr_c (dg_no) <| dr_c (dg_getf (T := TX2) (C := RX2) (N := 10) dX10_fork_69 rfl (by decide) iw_X2 wd_131) <| dr_c (dg_no) <| dr_c (dg_no) <| dr_c (dg_iload_n (k := 3) rfl dX10_fork_72) <| dr_c (dg_iconst (by decide) dX10_fork_73) <| dr_c (dg_ins dX10_fork_74 mo_36 wd_409 wd_410 pd_36) <| dr_c (dg_no) <| dr_c (dg_no) <| dr_c (dg_iload dX10_fork_77) <| dr_c (dg_no) <| dr_c (dg_iconst (by decide) dX10_fork_79) <| dr_n
theorem tr_96_5 : dm_AllR (dm_Good dm_tb RX10 cX10_fork 6 (some .int) false none) 80 [dm_ild 81 1, dm_push 82 (.int (-1)), dm_inv 85 15 5 2, dm_no, dm_no, dm_ist 87 5, dm_no, dm_ild 89 5, dm_no, dm_push 90 (.int (-1)), dm_ic_eq 93 118, dm_no, dm_no, dm_ald 94 0, dm_getf 97 7 0, dm_no] := dr_c (dg_iload_n (k := 1) rfl dX10_fork_80) <| dr_c (dg_iconst (by decide) dX10_fork_81) <| dr_c (dg_inv dX10_fork_82 mo_15 rfl rfl wd_426 wd_277 wd_278 pd_15) <| dr_c (dg_no) <| dr_c (dg_no) <| dr_c (dg_istore (by decide) dX10_fork_85) <| dr_c (dg_no) <| dr_c (dg_iload dX10_fork_87) <| dr_c (dg_no) <| dr_c (dg_iconst (by decide) dX10_fork_89) <| dr_c (dg_ic_eq (by decide) dX10_fork_90) <| dr_c (dg_no) <| dr_c (dg_no) <| dr_c (dg_aload_n (k := 0) rfl dX10_fork_93) <| dr_c (dg_getf (T := TX10) (C := RX10) (N := 11) dX10_fork_94 rfl (by decide) iw_X10 wd_310) <| dr_c (dg_no) <| dr_n
theorem tr_96_6 : dm_AllR (dm_Good dm_tb RX10 cX10_fork 6 (some .int) false none) 96 [dm_no, dm_ald 98 0, dm_getf 101 7 0, dm_no, dm_no, dm_getf 104 2 0, dm_no, dm_no, dm_ild 105 3, dm_push 106 (.int 1), dm_ins 109 36 3, dm_no, dm_no, dm_ild 111 4, dm_no, dm_push 112 (.int 1)] := dr_c (dg_no) <| dr_c (dg_aload_n (k := 0) rfl dX10_fork_97) <| dr_c (dg_getf (T := TX10) (C := RX10) (N := 11) dX10_fork_98 rfl (by decide) iw_X10 wd_310) <| dr_c (dg_no) <| dr_c (dg_no) <| dr_c (dg_getf (T := TX2) (C := RX2) (N := 10) dX10_fork_101 rfl (by decide) iw_X2 wd_131) <| dr_c (dg_no) <| dr_c (dg_no) <| dr_c (dg_iload_n (k := 3) rfl dX10_fork_104) <| dr_c (dg_iconst (by decide) dX10_fork_105) <| dr_c (dg_ins dX10_fork_106 mo_36 wd_409 wd_410 pd_36) <| dr_c (dg_no) <| dr_c (dg_no) <| dr_c (dg_iload dX10_fork_109) <| dr_c (dg_no) <| dr_c (dg_iconst (by decide) dX10_fork_111) <| dr_n
theorem tr_96_7 : dm_AllR (dm_Good dm_tb RX10 cX10_fork 6 (some .int) false none) 112 [dm_ild 113 1, dm_push 114 (.int (-1)), dm_inv 117 15 5 2, dm_no, dm_no, dm_pop 118, dm_ald 119 0, dm_ild 120 2, dm_push 121 (.int 2), dm_ild 122 1, dm_push 123 (.int (-1)), dm_inv 126 125 4 7, dm_no, dm_no, dm_if_eq 129 134, dm_no] := dr_c (dg_iload_n (k := 1) rfl dX10_fork_112) <| dr_c (dg_iconst (by decide) dX10_fork_113) <| dr_c (dg_inv dX10_fork_114 mo_15 rfl rfl wd_426 wd_277 wd_278 pd_15) <| dr_c (dg_no) <| dr_c (dg_no) <| dr_c (dg_pop dX10_fork_117) <| dr_c (dg_aload_n (k := 0) rfl dX10_fork_118) <| dr_c (dg_iload_n (k := 2) rfl dX10_fork_119) <| dr_c (dg_iconst (by decide) dX10_fork_120) <| dr_c (dg_iload_n (k := 1) rfl dX10_fork_121) <| dr_c (dg_iconst (by decide) dX10_fork_122) <| dr_c (dg_inv dX10_fork_123 mo_125 rfl rfl wd_427 wd_429 wd_2 pd_125) <| dr_c (dg_no) <| dr_c (dg_no) <| dr_c (dg_if_eq (by decide) dX10_fork_126) <| dr_c (dg_no) <| dr_n
theorem tr_96_8 : dm_AllR (dm_Good dm_tb RX10 cX10_fork 6 (some .int) false none) 128 [dm_no, dm_ild 131 5, dm_no, dm_goto 135, dm_no, dm_no, dm_push 135 (.int (-1)), dm_ret .int] := dr_c (dg_no) <| dr_c (dg_iload dX10_fork_129) <| dr_c (dg_no) <| dr_c (dg_goto (by decide) dX10_fork_131) <| dr_c (dg_no) <| dr_c (dg_no) <| dr_c (dg_iconst (by decide) dX10_fork_134) <| dr_c (dg_ret dX10_fork_135) <| dr_n
theorem tk_96 : dm_AllC (dm_Good dm_tb RX10 cX10_fork 6 (some .int) false none) 0 cd_96 := dc_c (by decide) tr_96_0 <| dc_c (by decide) tr_96_1 <| dc_c (by decide) tr_96_2 <| dc_c (by decide) tr_96_3 <| dc_c (by decide) tr_96_4 <| dc_c (by decide) tr_96_5 <| dc_c (by decide) tr_96_6 <| dc_c (by decide) tr_96_7 <| dc_c (by decide) tr_96_8 <| dc_n
theorem dX10_event_0 : decode cX10_event 0 = .ok (.aload_n 0, 1) := by decide +kernel
theorem dX10_event_1 : decode cX10_event 1 = .ok (.getfield 10, 3) := by decide +kernel
theorem dX10_event_4 : decode cX10_event 4 = .ok (.iload_n 1, 1) := by decide +kernel
theorem dX10_event_5 : decode cX10_event 5 = .ok (.invokevirtual 59, 3) := by decide +kernel
theorem dX10_event_8 : decode cX10_event 8 = .ok (.ifCond .ne 5, 3) := by decide +kernel
theorem dX10_event_11 : decode cX10_event 11 = .ok (.iconst (-1), 1) := by decide +kernel
theorem dX10_event_12 : decode cX10_event 12 = .ok (.ireturn, 1) := by decide +kernel
theorem dX10_event_13 : decode cX10_event 13 = .ok (.aload_n 0, 1) := by decide +kernel
theorem dX10_event_14 : decode cX10_event 14 = .ok (.getfield 10, 3) := by decide +kernel
theorem dX10_event_17 : decode cX10_event 17 = .ok (.invokevirtual 77, 3) := by decide +kernel
theorem dX10_event_20 : decode cX10_event 20 = .ok (.istore_n 2, 1) := by decide +kernel
theorem dX10_event_21 : decode cX10_event 21 = .ok (.aload_n 0, 1) := by decide +kernel
theorem dX10_event_22 : decode cX10_event 22 = .ok (.iload_n 1, 1) := by decide +kernel
theorem dX10_event_23 : decode cX10_event 23 = .ok (.invokevirtual 96, 3) := by decide +kernel
theorem dX10_event_26 : decode cX10_event 26 = .ok (.istore_n 3, 1) := by decide +kernel
theorem dX10_event_27 : decode cX10_event 27 = .ok (.aload_n 0, 1) := by decide +kernel
theorem dX10_event_28 : decode cX10_event 28 = .ok (.iload_n 2, 1) := by decide +kernel
theorem dX10_event_29 : decode cX10_event 29 = .ok (.iconst 1, 1) := by decide +kernel
theorem dX10_event_30 : decode cX10_event 30 = .ok (.iload_n 1, 1) := by decide +kernel
theorem dX10_event_31 : decode cX10_event 31 = .ok (.iconst (-1), 1) := by decide +kernel
theorem dX10_event_32 : decode cX10_event 32 = .ok (.invokevirtual 92, 3) := by decide +kernel
theorem dX10_event_35 : decode cX10_event 35 = .ok (.ifCond .eq 7, 3) := by decide +kernel
theorem dX10_event_38 : decode cX10_event 38 = .ok (.iload_n 3, 1) := by decide +kernel
theorem dX10_event_39 : decode cX10_event 39 = .ok (.goto 4, 3) := by decide +kernel
theorem dX10_event_42 : decode cX10_event 42 = .ok (.iconst (-1), 1) := by decide +kernel
theorem dX10_event_43 : decode cX10_event 43 = .ok (.ireturn, 1) := by decide +kernel
def cd_97 : dm_Code := [[dm_ald 1 0, dm_getf 4 7 0, dm_no, dm_no, dm_ild 5 1, dm_inv 8 27 1 2, dm_no, dm_no, dm_if_ne 11 13, dm_no, dm_no, dm_push 12 (.int (-1)), dm_ret .int, dm_ald 14 0, dm_getf 17 7 0, dm_no],
  [dm_no, dm_inv 20 13 0 2, dm_no, dm_no, dm_ist 21 2, dm_ald 22 0, dm_ild 23 1, dm_inv 26 128 1 7, dm_no, dm_no, dm_ist 27 3, dm_ald 28 0, dm_ild 29 2, dm_push 30 (.int 1), dm_ild 31 1, dm_push 32 (.int (-1))],
  [dm_inv 35 125 4 7, dm_no, dm_no, dm_if_eq 38 42, dm_no, dm_no, dm_ild 39 3, dm_goto 43, dm_no, dm_no, dm_push 43 (.int (-1)), dm_ret .int]]
theorem tr_97_0 : dm_AllR (dm_Good dm_tb RX10 cX10_event 4 (some .int) false none) 0 [dm_ald 1 0, dm_getf 4 7 0, dm_no, dm_no, dm_ild 5 1, dm_inv 8 27 1 2, dm_no, dm_no, dm_if_ne 11 13, dm_no, dm_no, dm_push 12 (.int (-1)), dm_ret .int, dm_ald 14 0, dm_getf 17 7 0, dm_no] := dr_c (dg_aload_n (k := 0) rfl dX10_event_0) <| dr_c (dg_getf (T := TX10) (C := RX10) (N := 11) dX10_event_1 rfl (by decide) iw_X10 wd_310) <| dr_c (dg_no) <| dr_c (dg_no) <| dr_c (dg_iload_n (k := 1) rfl dX10_event_4) <| dr_c (dg_inv dX10_event_5 mo_27 rfl rfl wd_352 wd_353 wd_354 pd_27) <| dr_c (dg_no) <| dr_c (dg_no) <| dr_c (dg_if_ne (by decide) dX10_event_8) <| dr_c (dg_no) <| dr_c (dg_no) <| dr_c (dg_iconst (by decide) dX10_event_11) <| dr_c (dg_ret dX10_event_12) <| dr_c (dg_aload_n (k := 0) rfl dX10_event_13) <| dr_c (dg_getf (T := TX10) (C := RX10) (N := 11) dX10_event_14 rfl (by decide) iw_X10 wd_310) <| dr_c (dg_no) <| dr_n
theorem tr_97_1 : dm_AllR (dm_Good dm_tb RX10 cX10_event 4 (some .int) false none) 16 [dm_no, dm_inv 20 13 0 2, dm_no, dm_no, dm_ist 21 2, dm_ald 22 0, dm_ild 23 1, dm_inv 26 128 1 7, dm_no, dm_no, dm_ist 27 3, dm_ald 28 0, dm_ild 29 2, dm_push 30 (.int 1), dm_ild 31 1, dm_push 32 (.int (-1))] := dr_c (dg_no) <| dr_c (dg_inv dX10_event_17 mo_13 rfl rfl wd_401 wd_402 wd_403 pd_13) <| dr_c (dg_no) <| dr_c (dg_no) <| dr_c (dg_istore_n (k := 2) rfl (by decide) dX10_event_20) <| dr_c (dg_aload_n (k := 0) rfl dX10_event_21) <| dr_c (dg_iload_n (k := 1) rfl dX10_event_22) <| dr_c (dg_inv dX10_event_23 mo_128 rfl rfl wd_457 wd_459 wd_3 pd_128) <| dr_c (dg_no) <| dr_c (dg_no) <| dr_c (dg_istore_n (k := 3) rfl (by decide) dX10_event_26) <| dr_c (dg_aload_n (k := 0) rfl dX10_event_27) <| dr_c (dg_iload_n (k := 2) rfl dX10_event_28) <| dr_c (dg_iconst (by decide) dX10_event_29) <| dr_c (dg_iload_n (k := 1) rfl dX10_event_30) <| dr_c (dg_iconst (by decide) dX10_event_31) <| dr_n
theorem tr_97_2 : dm_AllR (dm_Good dm_tb RX10 cX10_event 4 (some .int) false none) 32 [dm_inv 35 125 4 7, dm_no, dm_no, dm_if_eq 38 42, dm_no, dm_no, dm_ild 39 3, dm_goto 43, dm_no, dm_no, dm_push 43 (.int (-1)), dm_ret .int] := dr_c (dg_inv dX10_event_32 mo_125 rfl rfl wd_427 wd_429 wd_2 pd_125) <| dr_c (dg_no) <| dr_c (dg_no) <| dr_c (dg_if_eq (by decide) dX10_event_35) <| dr_c (dg_no) <| dr_c (dg_no) <| dr_c (dg_iload_n (k := 3) rfl dX10_event_38) <| dr_c (dg_goto (by decide) dX10_event_39) <| dr_c (dg_no) <| dr_c (dg_no) <| dr_c (dg_iconst (by decide) dX10_event_42) <| dr_c (dg_ret dX10_event_43) <| dr_n
theorem tk_97 : dm_AllC (dm_Good dm_tb RX10 cX10_event 4 (some .int) false none) 0 cd_97 := dc_c (by decide) tr_97_0 <| dc_c (by decide) tr_97_1 <| dc_c (by decide) tr_97_2 <| dc_n
theorem dX10_join_0 : decode cX10_join 0 = .ok (.aload_n 0, 1) := by decide +kernel
theorem dX10_join_1 : decode cX10_join 1 = .ok (.iload_n 1, 1) := by decide +kernel
theorem dX10_join_2 : decode cX10_join 2 = .ok (.iload_n 2, 1) := by decide +kernel
theorem dX10_join_3 : decode cX10_join 3 = .ok (.invokevirtual 99, 3) := by decide +kernel
theorem dX10_join_6 : decode cX10_join 6 = .ok (.ifCond .ne 5, 3) := by decide +kernel
theorem dX10_join_9 : decode cX10_join 9 = .ok (.iconst (-1), 1) := by decide +kernel
theorem dX10_join_10 : decode cX10_join 10 = .ok (.ireturn, 1) := by decide +kernel
theorem dX10_join_11 : decode cX10_join 11 = .ok (.aload_n 0, 1) := by decide +kernel
theorem dX10_join_12 : decode cX10_join 12 = .ok (.getfield 10, 3) := by decide +kernel
theorem dX10_join_15 : decode cX10_join 15 = .ok (.invokevirtual 77, 3) := by decide +kernel
theorem dX10_join_18 : decode cX10_join 18 = .ok (.istore_n 3, 1) := by decide +kernel
theorem dX10_join_19 : decode cX10_join 19 = .ok (.aload_n 0, 1) := by decide +kernel
theorem dX10_join_20 : decode cX10_join 20 = .ok (.iload_n 1, 1) := by decide +kernel
theorem dX10_join_21 : decode cX10_join 21 = .ok (.iload_n 2, 1) := by decide +kernel
theorem dX10_join_22 : decode cX10_join 22 = .ok (.iconst 3, 1) := by decide +kernel
theorem dX10_join_23 : decode cX10_join 23 = .ok (.invokevirtual 103, 3) := by decide +kernel
theorem dX10_join_26 : decode cX10_join 26 = .ok (.istore 4, 2) := by decide +kernel
theorem dX10_join_28 : decode cX10_join 28 = .ok (.aload_n 0, 1) := by decide +kernel
theorem dX10_join_29 : decode cX10_join 29 = .ok (.iload_n 3, 1) := by decide +kernel
theorem dX10_join_30 : decode cX10_join 30 = .ok (.iconst 1, 1) := by decide +kernel
theorem dX10_join_31 : decode cX10_join 31 = .ok (.iload_n 1, 1) := by decide +kernel
theorem dX10_join_32 : decode cX10_join 32 = .ok (.iload_n 2, 1) := by decide +kernel
theorem dX10_join_33 : decode cX10_join 33 = .ok (.invokevirtual 92, 3) := by decide +kernel
theorem dX10_join_36 : decode cX10_join 36 = .ok (.ifCond .eq 8, 3) := by decide +kernel
theorem dX10_join_39 : decode cX10_join 39 = .ok (.iload 4, 2) := by decide +kernel
theorem dX10_join_41 : decode cX10_join 41 = .ok (.goto 4, 3) := by decide +kernel
theorem dX10_join_44 : decode cX10_join 44 = .ok (.iconst (-1), 1) := by decide +kernel
theorem dX10_join_45 : decode cX10_join 45 = .ok (.ireturn, 1) := by decide +kernel
def cd_98 : dm_Code := [[dm_ald 1 0, dm_ild 2 1, dm_ild 3 2, dm_inv 6 126 2 7, dm_no, dm_no, dm_if_ne 9 11, dm_no, dm_no, dm_push 10 (.int (-1)), dm_ret .int, dm_ald 12 0, dm_getf 15 7 0, dm_no, dm_no, dm_inv 18 13 0 2],
  [dm_no, dm_no, dm_ist 19 3, dm_ald 20 0, dm_ild 21 1, dm_ild 22 2, dm_push 23 (.int 3), dm_inv 26 129 3 7, dm_no, dm_no, dm_ist 28 4, dm_no, dm_ald 29 0, dm_ild 30 3, dm_push 31 (.int 1), dm_ild 32 1],
  [dm_ild 33 2, dm_inv 36 125 4 7, dm_no, dm_no, dm_if_eq 39 44, dm_no, dm_no, dm_ild 41 4, dm_no, dm_goto 45, dm_no, dm_no, dm_push 45 (.int (-1)), dm_ret .int]]
theorem tr_98_0 : dm_AllR (dm_Good dm_tb RX10 cX10_join 5 (some .int) false none) 0 [dm_ald 1 0, dm_ild 2 1, dm_ild 3 2, dm_inv 6 126 2 7, dm_no, dm_no, dm_if_ne 9 11, dm_no, dm_no, dm_push 10 (.int (-1)), dm_ret .int, dm_ald 12 0, dm_getf 15 7 0, dm_no, dm_no, dm_inv 18 13 0 2] := dr_c (dg_aload_n (k := 0) rfl dX10_join_0) <| dr_c (dg_iload_n (k := 1) rfl dX10_join_1) <| dr_c (dg_iload_n (k := 2) rfl dX10_join_2) <| dr_c (dg_inv dX10_join_3 mo_126 rfl rfl wd_506 wd_508 wd_4 pd_126) <| dr_c (dg_no) <| dr_c (dg_no) <| dr_c (dg_if_ne (by decide) dX10_join_6) <| dr_c (dg_no) <| dr_c (dg_no) <| dr_c (dg_iconst (by decide) dX10_join_9) <| dr_c (dg_ret dX10_join_10) <| dr_c (dg_aload_n (k := 0) rfl dX10_join_11) <| dr_c (dg_getf (T := TX10) (C := RX10) (N := 11) dX10_join_12 rfl (by decide) iw_X10 wd_310) <| dr_c (dg_no) <| dr_c (dg_no) <| dr_c (dg_inv dX10_join_15 mo_13 rfl rfl wd_401 wd_402 wd_403 pd_13) <| dr_n
theorem tr_98_1 : dm_AllR (dm_Good dm_tb RX10 cX10_join 5 (some .int) false none) 16 [dm_no, dm_no, dm_ist 19 3, dm_ald 20 0, dm_ild 21 1, dm_ild 22 2, dm_push 23 (.int 3), dm_inv 26 129 3 7, dm_no, dm_no, dm_ist 28 4, dm_no, dm_ald 29 0, dm_ild 30 3, dm_push 31 (.int 1), dm_ild 32 1] := dr_c (dg_no) <| dr_c (dg_no) <| dr_c (dg_istore_n (k := 3) rfl (by decide) dX10_join_18) <| dr_c (dg_aload_n (k := 0) rfl dX10_join_19) <| dr_c (dg_iload_n (k := 1) rfl dX10_join_20) <| dr_c (dg_iload_n (k := 2) rfl dX10_join_21) <| dr_c (dg_iconst (by decide) dX10_join_22) <| dr_c (dg_inv dX10_join_23 mo_129 rfl rfl wd_511 wd_513 wd_5 pd_129) <| dr_c (dg_no) <| dr_c (dg_no) <| dr_c (dg_istore (by decide) dX10_join_26) <| dr_c (dg_no) <| dr_c (dg_aload_n (k := 0) rfl dX10_join_28) <| dr_c (dg_iload_n (k := 3) rfl dX10_join_29) <| dr_c (dg_iconst (by decide) dX10_join_30) <| dr_c (dg_iload_n (k := 1) rfl dX10_join_31) <| dr_n
theorem tr_98_2 : dm_AllR (dm_Good dm_tb RX10 cX10_join 5 (some .int) false none) 32 [dm_ild 33 2, dm_inv 36 125 4 7, dm_no, dm_no, dm_if_eq 39 44, dm_no, dm_no, dm_ild 41 4, dm_no, dm_goto 45, dm_no, dm_no, dm_push 45 (.int (-1)), dm_ret .int] := dr_c (dg_iload_n (k := 2) rfl dX10_join_32) <| dr_c (dg_inv dX10_join_33 mo_125 rfl rfl wd_427 wd_429 wd_2 pd_125) <| dr_c (dg_no) <| dr_c (dg_no) <| dr_c (dg_if_eq (by decide) dX10_join_36) <| dr_c (dg_no) <| dr_c (dg_no) <| dr_c (dg_iload dX10_join_39) <| dr_c (dg_no) <| dr_c (dg_goto (by decide) dX10_join_41) <| dr_c (dg_no) <| dr_c (dg_no) <| dr_c (dg_iconst (by decide) dX10_join_44) <| dr_c (dg_ret dX10_join_45) <| dr_n
theorem tk_98 : dm_AllC (dm_Good dm_tb RX10 cX10_join 5 (some .int) false none) 0 cd_98 := dc_c (by decide) tr_98_0 <| dc_c (by decide) tr_98_1 <| dc_c (by decide) tr_98_2 <| dc_n
theorem dX10_peek_0 : decode cX10_peek 0 = .ok (.aload_n 0, 1) := by decide +kernel
theorem dX10_peek_1 : decode cX10_peek 1 = .ok (.getfield 10, 3) := by decide +kernel
theorem dX10_peek_4 : decode cX10_peek 4 = .ok (.iload_n 1, 1) := by decide +kernel
theorem dX10_peek_5 : decode cX10_peek 5 = .ok (.invokevirtual 107, 3) := by decide +kernel
theorem dX10_peek_8 : decode cX10_peek 8 = .ok (.ifCond .ne 5, 3) := by decide +kernel
theorem dX10_peek_11 : decode cX10_peek 11 = .ok (.iconst (-1), 1) := by decide +kernel
theorem dX10_peek_12 : decode cX10_peek 12 = .ok (.ireturn, 1) := by decide +kernel
theorem dX10_peek_13 : decode cX10_peek 13 = .ok (.aload_n 0, 1) := by decide +kernel
theorem dX10_peek_14 : decode cX10_peek 14 = .ok (.getfield 10, 3) := by decide +kernel
theorem dX10_peek_17 : decode cX10_peek 17 = .ok (.invokevirtual 77, 3) := by decide +kernel
theorem dX10_peek_20 : decode cX10_peek 20 = .ok (.istore_n 2, 1) := by decide +kernel
theorem dX10_peek_21 : decode cX10_peek 21 = .ok (.aload_n 0, 1) := by decide +kernel
theorem dX10_peek_22 : decode cX10_peek 22 = .ok (.iload_n 1, 1) := by decide +kernel
theorem dX10_peek_23 : decode cX10_peek 23 = .ok (.invokevirtual 110, 3) := by decide +kernel
theorem dX10_peek_26 : decode cX10_peek 26 = .ok (.istore_n 3, 1) := by decide +kernel
theorem dX10_peek_27 : decode cX10_peek 27 = .ok (.aload_n 0, 1) := by decide +kernel
theorem dX10_peek_28 : decode cX10_peek 28 = .ok (.iload_n 2, 1) := by decide +kernel
theorem dX10_peek_29 : decode cX10_peek 29 = .ok (.iconst 1, 1) := by decide +kernel
theorem dX10_peek_30 : decode cX10_peek 30 = .ok (.iconst (-1), 1) := by decide +kernel
theorem dX10_peek_31 : decode cX10_peek 31 = .ok (.iconst (-1), 1) := by decide +kernel
theorem dX10_peek_32 : decode cX10_peek 32 = .ok (.invokevirtual 92, 3) := by decide +kernel
theorem dX10_peek_35 : decode cX10_peek 35 = .ok (.ifCond .eq 7, 3) := by decide +kernel
theorem dX10_peek_38 : decode cX10_peek 38 = .ok (.iload_n 3, 1) := by decide +kernel
theorem dX10_peek_39 : decode cX10_peek 39 = .ok (.goto 4, 3) := by decide +kernel
theorem dX10_peek_42 : decode cX10_peek 42 = .ok (.iconst (-1), 1) := by decide +kernel
theorem dX10_peek_43 : decode cX10_peek 43 = .ok (.ireturn, 1) := by decide +kernel
def cd_99 : dm_Code := [[dm_ald 1 0, dm_getf 4 7 0, dm_no, dm_no, dm_ild 5 1, dm_inv 8 26 1 2, dm_no, dm_no, dm_if_ne 11 13, dm_no, dm_no, dm_push 12 (.int (-1)), dm_ret .int, dm_ald 14 0, dm_getf 17 7 0, dm_no],
  [dm_no, dm_inv 20 13 0 2, dm_no, dm_no, dm_ist 21 2, dm_ald 22 0, dm_ild 23 1, dm_inv 26 130 1 7, dm_no, dm_no, dm_ist 27 3, dm_ald 28 0, dm_ild 29 2, dm_push 30 (.int 1), dm_push 31 (.int (-1)), dm_push 32 (.int (-1))],
  [dm_inv 35 125 4 7, dm_no, dm_no, dm_if_eq 38 42, dm_no, dm_no, dm_ild 39 3, dm_goto 43, dm_no, dm_no, dm_push 43 (.int (-1)), dm_ret .int]]
theorem tr_99_0 : dm_AllR (dm_Good dm_tb RX10 cX10_peek 4 (some .int) false none) 0 [dm_ald 1 0, dm_getf 4 7 0, dm_no, dm_no, dm_ild 5 1, dm_inv 8 26 1 2, dm_no, dm_no, dm_if_ne 11 13, dm_no, dm_no, dm_push 12 (.int (-1)), dm_ret .int, dm_ald 14 0, dm_getf 17 7 0, dm_no] := dr_c (dg_aload_n (k := 0) rfl dX10_peek_0) <| dr_c (dg_getf (T := TX10) (C := RX10) (N := 11) dX10_peek_1 rfl (by decide) iw_X10 wd_310) <| dr_c (dg_no) <| dr_c (dg_no) <| dr_c (dg_iload_n (k := 1) rfl dX10_peek_4) <| dr_c (dg_inv dX10_peek_5 mo_26 rfl rfl wd_510 wd_357 wd_358 pd_26) <| dr_c (dg_no) <| dr_c (dg_no) <| dr_c (dg_if_ne (by decide) dX10_peek_8) <| dr_c (dg_no) <| dr_c (dg_no) <| dr_c (dg_iconst (by decide) dX10_peek_11) <| dr_c (dg_ret dX10_peek_12) <| dr_c (dg_aload_n (k := 0) rfl dX10_peek_13) <| dr_c (dg_getf (T := TX10) (C := RX10) (N := 11) dX10_peek_14 rfl (by decide) iw_X10 wd_310) <| dr_c (dg_no) <| dr_n
theorem tr_99_1 : dm_AllR (dm_Good dm_tb RX10 cX10_peek 4 (some .int) false none) 16 [dm_no, dm_inv 20 13 0 2, dm_no, dm_no, dm_ist 21 2, dm_ald 22 0, dm_ild 23 1, dm_inv 26 130 1 7, dm_no, dm_no, dm_ist 27 3, dm_ald 28 0, dm_ild 29 2, dm_push 30 (.int 1), dm_push 31 (.int (-1)), dm_push 32 (.int (-1))] := dr_c (dg_no) <| dr_c (dg_inv dX10_peek_17 mo_13 rfl rfl wd_401 wd_402 wd_403 pd_13) <| dr_c (dg_no) <| dr_c (dg_no) <| dr_c (dg_istore_n (k := 2) rfl (by decide) dX10_peek_20) <| dr_c (dg_aload_n (k := 0) rfl dX10_peek_21) <| dr_c (dg_iload_n (k := 1) rfl dX10_peek_22) <| dr_c (dg_inv dX10_peek_23 mo_130 rfl rfl wd_525 wd_527 wd_6 pd_130) <| dr_c (dg_no) <| dr_c (dg_no) <| dr_c (dg_istore_n (k := 3) rfl (by decide) dX10_peek_26) <| dr_c (dg_aload_n (k := 0) rfl dX10_peek_27) <| dr_c (dg_iload_n (k := 2) rfl dX10_peek_28) <| dr_c (dg_iconst (by decide) dX10_peek_29) <| dr_c (dg_iconst (by decide) dX10_peek_30) <| dr_c (dg_iconst (by decide) dX10_peek_31) <| dr_n
theorem tr_99_2 : dm_AllR (dm_Good dm_tb RX10 cX10_peek 4 (some .int) false none) 32 [dm_inv 35 125 4 7, dm_no, dm_no, dm_if_eq 38 42, dm_no, dm_no, dm_ild 39 3, dm_goto 43, dm_no, dm_no, dm_push 43 (.int (-1)), dm_ret .int] := dr_c (dg_inv dX10_peek_32 mo_125 rfl rfl wd_427 wd_429 wd_2 pd_125) <| dr_c (dg_no) <| dr_c (dg_no) <| dr_c (dg_if_eq (by decide) dX10_peek_35) <| dr_c (dg_no) <| dr_c (dg_no) <| dr_c (dg_iload_n (k := 3) rfl dX10_peek_38) <| dr_c (dg_goto (by decide) dX10_peek_39) <| dr_c (dg_no) <| dr_c (dg_no) <| dr_c (dg_iconst (by decide) dX10_peek_42) <| dr_c (dg_ret dX10_peek_43) <| dr_n
theorem tk_99 : dm_AllC (dm_Good dm_tb RX10 cX10_peek 4 (some .int) false none) 0 cd_99 := dc_c (by decide) tr_99_0 <| dc_c (by decide) tr_99_1 <| dc_c (by decide) tr_99_2 <| dc_n
theorem dX10_send_0 : decode cX10_send 0 = .ok (.aload_n 0, 1) := by decide +kernel
theorem dX10_send_1 : decode cX10_send 1 = .ok (.getfield 10, 3) := by decide +kernel
theorem dX10_send_4 : decode cX10_send 4 = .ok (.iload_n 1, 1) := by decide +kernel
theorem dX10_send_5 : decode cX10_send 5 = .ok (.invokevirtual 59, 3) := by decide +kernel
theorem dX10_send_8 : decode cX10_send 8 = .ok (.ifCond .ne 5, 3) := by decide +kernel
theorem dX10_send_11 : decode cX10_send 11 = .ok (.iconst (-1), 1) := by decide +kernel
theorem dX10_send_12 : decode cX10_send 12 = .ok (.ireturn, 1) := by decide +kernel
theorem dX10_send_13 : decode cX10_send 13 = .ok (.aload_n 0, 1) := by decide +kernel
theorem dX10_send_14 : decode cX10_send 14 = .ok (.getfield 10, 3) := by decide +kernel
theorem dX10_send_17 : decode cX10_send 17 = .ok (.invokevirtual 77, 3) := by decide +kernel
theorem dX10_send_20 : decode cX10_send 20 = .ok (.istore_n 2, 1) := by decide +kernel
theorem dX10_send_21 : decode cX10_send 21 = .ok (.aload_n 0, 1) := by decide +kernel
theorem dX10_send_22 : decode cX10_send 22 = .ok (.iload_n 1, 1) := by decide +kernel
theorem dX10_send_23 : decode cX10_send 23 = .ok (.invokevirtual 96, 3) := by decide +kernel
theorem dX10_send_26 : decode cX10_send 26 = .ok (.istore_n 3, 1) := by decide +kernel
theorem dX10_send_27 : decode cX10_send 27 = .ok (.iload_n 3, 1) := by decide +kernel
theorem dX10_send_28 : decode cX10_send 28 = .ok (.iconst (-1), 1) := by decide +kernel
theorem dX10_send_29 : decode cX10_send 29 = .ok (.if_icmp .eq 9, 3) := by decide +kernel
theorem dX10_send_32 : decode cX10_send 32 = .ok (.aload_n 0, 1) := by decide +kernel
theorem dX10_send_33 : decode cX10_send 33 = .ok (.iload_n 3, 1) := by decide +kernel
theorem dX10_send_34 : decode cX10_send 34 = .ok (.invokevirtual 110, 3) := by decide +kernel
theorem dX10_send_37 : decode cX10_send 37 = .ok (.pop, 1) := by decide +kernel
theorem dX10_send_38 : decode cX10_send 38 = .ok (.aload_n 0, 1) := by decide +kernel
theorem dX10_send_39 : decode cX10_send 39 = .ok (.iload_n 2, 1) := by decide +kernel
theorem dX10_send_40 : decode cX10_send 40 = .ok (.iconst 2, 1) := by decide +kernel
theorem dX10_send_41 : decode cX10_send 41 = .ok (.iload_n 1, 1) := by decide +kernel
theorem dX10_send_42 : decode cX10_send 42 = .ok (.iconst (-1), 1) := by decide +kernel
theorem dX10_send_43 : decode cX10_send 43 = .ok (.invokevirtual 92, 3) := by decide +kernel
theorem dX10_send_46 : decode cX10_send 46 = .ok (.ifCond .eq 7, 3) := by decide +kernel
theorem dX10_send_49 : decode cX10_send 49 = .ok (.iload_n 3, 1) := by decide +kernel
theorem dX10_send_50 : decode cX10_send 50 = .ok (.goto 4, 3) := by decide +kernel
theorem dX10_send_53 : decode cX10_send 53 = .ok (.iconst (-1), 1) := by decide +kernel
theorem dX10_send_54 : decode cX10_send 54 = .ok (.ireturn, 1) := by decide +kernel
def cd_100 : dm_Code := [[dm_ald 1 0, dm_getf 4 7 0, dm_no, dm_no, dm_ild 5 1, dm_inv 8 27 1 2, dm_no, dm_no, dm_if_ne 11 13, dm_no, dm_no, dm_push 12 (.int (-1)), dm_ret .int, dm_ald 14 0, dm_getf 17 7 0, dm_no],
  [dm_no, dm_inv 20 13 0 2, dm_no, dm_no, dm_ist 21 2, dm_ald 22 0, dm_ild 23 1, dm_inv 26 128 1 7, dm_no, dm_no, dm_ist 27 3, dm_ild 28 3, dm_push 29 (.int (-1)), dm_ic_eq 32 38, dm_no, dm_no],
  [dm_ald 33 0, dm_ild 34 3, dm_inv 37 130 1 7, dm_no, dm_no, dm_pop 38, dm_ald 39 0, dm_ild 40 2, dm_push 41 (.int 2), dm_ild 42 1, dm_push 43 (.int (-1)), dm_inv 46 125 4 7, dm_no, dm_no, dm_if_eq 49 53, dm_no],
  [dm_no, dm_ild 50 3, dm_goto 54, dm_no, dm_no, dm_push 54 (.int (-1)), dm_ret .int]]
theorem tr_100_0 : dm_AllR (dm_Good dm_tb RX10 cX10_send 4 (some .int) false none) 0 [dm_ald 1 0, dm_getf 4 7 0, dm_no, dm_no, dm_ild 5 1, dm_inv 8 27 1 2, dm_no, dm_no, dm_if_ne 11 13, dm_no, dm_no, dm_push 12 (.int (-1)), dm_ret .int, dm_ald 14 0, dm_getf 17 7 0, dm_no] := dr_c (dg_aload_n (k := 0) rfl dX10_send_0) <| dr_c (dg_getf (T := TX10) (C := RX10) (N := 11) dX10_send_1 rfl (by decide) iw_X10 wd_310) <| dr_c (dg_no) <| dr_c (dg_no) <| dr_c (dg_iload_n (k := 1) rfl dX10_send_4) <| dr_c (dg_inv dX10_send_5 mo_27 rfl rfl wd_352 wd_353 wd_354 pd_27) <| dr_c (dg_no) <| dr_c (dg_no) <| dr_c (dg_if_ne (by decide) dX10_send_8) <| dr_c (dg_no) <| dr_c (dg_no) <| dr_c (dg_iconst (by decide) dX10_send_11) <| dr_c (dg_ret dX10_send_12) <| dr_c (dg_aload_n (k := 0) rfl dX10_send_13) <| dr_c (dg_getf (T := TX10) (C := RX10) (N := 11) dX10_send_14 rfl (by decide) iw_X10 wd_310) <| dr_c (dg_no) <| dr_n
theorem tr_100_1 : dm_AllR (dm_Good dm_tb RX10 cX10_send 4 (some .int) false none) 16 [dm_no, dm_inv 20 13 0 2, dm_no, dm_no, dm_ist 21 2, dm_ald 22 0, dm_ild 23 1, dm_inv 26 128 1 7, dm_no, dm_no, dm_ist 27 3, dm_ild 28 3, dm_push 29 (.int (-1)), dm_ic_eq 32 38, dm_no, dm_no] := dr_c (dg_no) <| dr_c (dg_inv dX10_send_17 mo_13 rfl rfl wd_401 wd_402 wd_403 pd_13) <| dr_c (dg_no) <| dr_c (dg_no) <| dr_c (dg_istore_n (k := 2) rfl (by decide) dX10_send_20) <| dr_c (dg_aload_n (k := 0) rfl dX10_send_21) <| dr_c (dg_iload_n (k := 1) rfl dX10_send_22) <| dr_c (dg_inv dX10_send_23 mo_128 rfl rfl wd_457 wd_459 wd_3 pd_128) <| dr_c (dg_no) <| dr_c (dg_no) <| dr_c (dg_istore_n (k := 3) rfl (by decide) dX10_send_26) <| dr_c (dg_iload_n (k := 3) rfl dX10_send_27) <| dr_c (dg_iconst (by decide) dX10_send_28) <| dr_c (dg_ic_eq (by decide) dX10_send_29) <| dr_c (dg_no) <| dr_c (dg_no) <| dr_n
theorem tr_100_2 : dm_AllR (dm_Good dm_tb RX10 cX10_send 4 (some .int) false none) 32 [dm_ald 33 0, dm_ild 34 3, dm_inv 37 130 1 7, dm_no, dm_no, dm_pop 38, dm_ald 39 0, dm_ild 40 2, dm_push 41 (.int 2), dm_ild 42 1, dm_push 43 (.int (-1)), dm_inv 46 125 4 7, dm_no, dm_no, dm_if_eq 49 53, dm_no] := dr_c (dg_aload_n (k := 0) rfl dX10_send_32) <| dr_c (dg_iload_n (k := 3) rfl dX10_send_33) <| dr_c (dg_inv dX10_send_34 mo_130 rfl rfl wd_525 wd_527 wd_6 pd_130) <| dr_c (dg_no) <| dr_c (dg_no) <| dr_c (dg_pop dX10_send_37) <| dr_c (dg_aload_n (k := 0) rfl dX10_send_38) <| dr_c (dg_iload_n (k := 2) rfl dX10_send_39) <| dr_c (dg_iconst (by decide) dX10_send_40) <| dr_c (dg_iload_n (k := 1) rfl dX10_send_41) <| dr_c (dg_iconst (by decide) dX10_send_42) <| dr_c (dg_inv dX10_send_43 mo_125 rfl rfl wd_427 wd_429 wd_2 pd_125) <| dr_c (dg_no) <| dr_c (dg_no) <| dr_c (dg_if_eq (by decide) dX10_send_46) <| dr_c (dg_no) <| dr_n
theorem tr_100_3 : dm_AllR (dm_Good dm_tb RX10 cX10_send 4 (some .int) false none) 48 [dm_no, dm_ild 50 3, dm_goto 54, dm_no, dm_no, dm_push 54 (.int (-1)), dm_ret .int] := dr_c (dg_no) <| dr_c (dg_iload_n (k := 3) rfl dX10_send_49) <| dr_c (dg_goto (by decide) dX10_send_50) <| dr_c (dg_no) <| dr_c (dg_no) <| dr_c (dg_iconst (by decide) dX10_send_53) <| dr_c (dg_ret dX10_send_54) <| dr_n
theorem tk_100 : dm_AllC (dm_Good dm_tb RX10 cX10_send 4 (some .int) false none) 0 cd_100 := dc_c (by decide) tr_100_0 <| dc_c (by decide) tr_100_1 <| dc_c (by decide) tr_100_2 <| dc_c (by decide) tr_100_3 <| dc_n
theorem dX10_take_0 : decode cX10_take 0 = .ok (.aload_n 0, 1) := by decide +kernel
theorem dX10_take_1 : decode cX10_take 1 = .ok (.iload_n 1, 1) := by decide +kernel
theorem dX10_take_2 : decode cX10_take 2 = .ok (.iload_n 2, 1) := by decide +kernel
theorem dX10_take_3 : decode cX10_take 3 = .ok (.invokevirtual 99, 3) := by decide +kernel
theorem dX10_take_6 : decode cX10_take 6 = .ok (.ifCond .eq 25, 3) := by decide +kernel
theorem dX10_take_9 : decode cX10_take 9 = .ok (.aload_n 0, 1) := by decide +kernel
theorem dX10_take_10 : decode cX10_take 10 = .ok (.getfield 10, 3) := by decide +kernel
theorem dX10_take_13 : decode cX10_take 13 = .ok (.iload_n 1, 1) := by decide +kernel
theorem dX10_take_14 : decode cX10_take 14 = .ok (.invokevirtual 59, 3) := by decide +kernel
theorem dX10_take_17 : decode cX10_take 17 = .ok (.ifCond .ne 16, 3) := by decide +kernel
theorem dX10_take_20 : decode cX10_take 20 = .ok (.aload_n 0, 1) := by decide +kernel
theorem dX10_take_21 : decode cX10_take 21 = .ok (.getfield 10, 3) := by decide +kernel
theorem dX10_take_24 : decode cX10_take 24 = .ok (.iload_n 2, 1) := by decide +kernel
theorem dX10_take_25 : decode cX10_take 25 = .ok (.invokevirtual 59, 3) := by decide +kernel
theorem dX10_take_28 : decode cX10_take 28 = .ok (.ifCond .ne 5, 3) := by decide +kernel
theorem dX10_take_31 : decode cX10_take 31 = .ok (.iconst (-1), 1) := by decide +kernel
theorem dX10_take_32 : decode cX10_take 32 = .ok (.ireturn, 1) := by decide +kernel
theorem dX10_take_33 : decode cX10_take 33 = .ok (.aload_n 0, 1) := by decide +kernel
theorem dX10_take_34 : decode cX10_take 34 = .ok (.getfield 10, 3) := by decide +kernel
theorem dX10_take_37 : decode cX10_take 37 = .ok (.invokevirtual 77, 3) := by decide +kernel
theorem dX10_take_40 : decode cX10_take 40 = .ok (.istore_n 3, 1) := by decide +kernel
theorem dX10_take_41 : decode cX10_take 41 = .ok (.aload_n 0, 1) := by decide +kernel
theorem dX10_take_42 : decode cX10_take 42 = .ok (.iload_n 1, 1) := by decide +kernel
theorem dX10_take_43 : decode cX10_take 43 = .ok (.iload_n 2, 1) := by decide +kernel
theorem dX10_take_44 : decode cX10_take 44 = .ok (.iconst 3, 1) := by decide +kernel
theorem dX10_take_45 : decode cX10_take 45 = .ok (.invokevirtual 103, 3) := by decide +kernel
theorem dX10_take_48 : decode cX10_take 48 = .ok (.istore 4, 2) := by decide +kernel
theorem dX10_take_50 : decode cX10_take 50 = .ok (.iload 4, 2) := by decide +kernel
theorem dX10_take_52 : decode cX10_take 52 = .ok (.iconst (-1), 1) := by decide +kernel
theorem dX10_take_53 : decode cX10_take 53 = .ok (.if_icmp .ne 7, 3) := by decide +kernel
theorem dX10_take_56 : decode cX10_take 56 = .ok (.iconst (-1), 1) := by decide +kernel
theorem dX10_take_57 : decode cX10_take 57 = .ok (.goto 9, 3) := by decide +kernel
theorem dX10_take_60 : decode cX10_take 60 = .ok (.aload_n 0, 1) := by decide +kernel
theorem dX10_take_61 : decode cX10_take 61 = .ok (.iload 4, 2) := by decide +kernel
theorem dX10_take_63 : decode cX10_take 63 = .ok (.invokevirtual 96, 3) := by decide +kernel
theorem dX10_take_66 : decode cX10_take 66 = .ok (.istore 5, 2) := by decide +kernel
theorem dX10_take_68 : decode cX10_take 68 = .ok (.aload_n 0, 1) := by decide +kernel
theorem dX10_take_69 : decode cX10_take 69 = .ok (.iload_n 3, 1) := by decide +kernel
theorem dX10_take_70 : decode cX10_take 70 = .ok (.iconst 2, 1) := by decide +kernel
theorem dX10_take_71 : decode cX10_take 71 = .ok (.iload_n 1, 1) := by decide +kernel
theorem dX10_take_72 : decode cX10_take 72 = .ok (.iload_n 2, 1) := by decide +kernel
theorem dX10_take_73 : decode cX10_take 73 = .ok (.invokevirtual 92, 3) := by decide +kernel
theorem dX10_take_76 : decode cX10_take 76 = .ok (.ifCond .ne 5, 3) := by decide +kernel
theorem dX10_take_79 : decode cX10_take 79 = .ok (.iconst (-1), 1) := by decide +kernel
theorem dX10_take_80 : decode cX10_take 80 = .ok (.ireturn, 1) := by decide +kernel
theorem dX10_take_81 : decode cX10_take 81 = .ok (.aload_n 0, 1) := by decide +kernel
theorem dX10_take_82 : decode cX10_take 82 = .ok (.getfield 10, 3) := by decide +kernel
theorem dX10_take_85 : decode cX10_take 85 = .ok (.iload 4, 2) := by decide +kernel
theorem dX10_take_87 : decode cX10_take 87 = .ok (.invokevirtual 113, 3) := by decide +kernel
theorem dX10_take_90 : decode cX10_take 90 = .ok (.iload 5, 2) := by decide +kernel
theorem dX10_take_92 : decode cX10_take 92 = .ok (.ireturn, 1) := by decide +kernel
def cd_101 : dm_Code := [[dm_ald 1 0, dm_ild 2 1, dm_ild 3 2, dm_inv 6 126 2 7, dm_no, dm_no, dm_if_eq 9 31, dm_no, dm_no, dm_ald 10 0, dm_getf 13 7 0, dm_no, dm_no, dm_ild 14 1, dm_inv 17 27 1 2, dm_no],
  [dm_no, dm_if_ne 20 33, dm_no, dm_no, dm_ald 21 0, dm_getf 24 7 0, dm_no, dm_no, dm_ild 25 2, dm_inv 28 27 1 2, dm_no, dm_no, dm_if_ne 31 33, dm_no, dm_no, dm_push 32 (.int (-1))],
  [dm_ret .int, dm_ald 34 0, dm_getf 37 7 0, dm_no, dm_no, dm_inv 40 13 0 2, dm_no, dm_no, dm_ist 41 3, dm_ald 42 0, dm_ild 43 1, dm_ild 44 2, dm_push 45 (.int 3), dm_inv 48 129 3 7, dm_no, dm_no],
  [dm_ist 50 4, dm_no, dm_ild 52 4, dm_no, dm_push 53 (.int (-1)), dm_ic_ne 56 60, dm_no, dm_no, dm_push 57 (.int (-1)), dm_goto 66, dm_no, dm_no, dm_ald 61 0, dm_ild 63 4, dm_no, dm_inv 66 128 1 7],
  [dm_no, dm_no, dm_ist 68 5, dm_no, dm_ald 69 0, dm_ild 70 3, dm_push 71 (.int 2), dm_ild 72 1, dm_ild 73 2, dm_inv 76 125 4 7, dm_no, dm_no, dm_if_ne 79 81, dm_no, dm_no, dm_push 80 (.int (-1))],
  [dm_ret .int, dm_ald 82 0, dm_getf 85 7 0, dm_no, dm_no, dm_ild 87 4, dm_no, dm_inv 90 29 1 2, dm_no, dm_no, dm_ild 92 5, dm_no, dm_ret .int]]
theorem tr_101_0 : dm_AllR (dm_Good dm_tb RX10 cX10_take 6 (some .int) false none) 0 [dm_ald 1 0, dm_ild 2 1, dm_ild 3 2, dm_inv 6 126 2 7, dm_no, dm_no, dm_if_eq 9 31, dm_no, dm_no, dm_ald 10 0, dm_getf 13 7 0, dm_no, dm_no, dm_ild 14 1, dm_inv 17 27 1 2, dm_no] := dr_c (dg_aload_n (k := 0) rfl dX10_take_0) <| dr_c (dg_iload_n (k := 1) rfl dX10_take_1) <| dr_c (dg_iload_n (k := 2) rfl dX10_take_2) <| dr_c (dg_inv dX10_take_3 mo_126 rfl rfl wd_506 wd_508 wd_4 pd_126) <| dr_c (dg_no) <| dr_c (dg_no) <| dr_c (dg_if_eq (by decide) dX10_take_6) <| dr_c (dg_no) <| dr_c (dg_no) <| dr_c (dg_aload_n (k := 0) rfl dX10_take_9) <| dr_c (dg_getf (T := TX10) (C := RX10) (N := 11) dX10_take_10 rfl (by decide) iw_X10 wd_310) <| dr_c (dg_no) <| dr_c (dg_no) <| dr_c (dg_iload_n (k := 1) rfl dX10_take_13) <| dr_c (dg_inv dX10_take_14 mo_27 rfl rfl wd_352 wd_353 wd_354 pd_27) <| dr_c (dg_no) <| dr_n
theorem tr_101_1 : dm_AllR (dm_Good dm_tb RX10 cX10_take 6 (some .int) false none) 16 [dm_no, dm_if_ne 20 33, dm_no, dm_no, dm_ald 21 0, dm_getf 24 7 0, dm_no, dm_no, dm_ild 25 2, dm_inv 28 27 1 2, dm_no, dm_no, dm_if_ne 31 33, dm_no, dm_no, dm_push 32 (.int (-1))] := dr_c (dg_no) <| dr_c (dg_if_ne (by decide) dX10_take_17) <| dr_c (dg_no) <| dr_c (dg_no) <| dr_c (dg_aload_n (k := 0) rfl dX10_take_20) <| dr_c (dg_getf (T := TX10) (C := RX10) (N := 11) dX10_take_21 rfl (by decide) iw_X10 wd_310) <| dr_c (dg_no) <| dr_c (dg_no) <| dr_c (dg_iload_n (k := 2) rfl dX10_take_24) <| dr_c (dg_inv dX10_take_25 mo_27 rfl rfl wd_352 wd_353 wd_354 pd_27) <| dr_c (dg_no) <| dr_c (dg_no) <| dr_c (dg_if_ne (by decide) dX10_take_28) <| dr_c (dg_no) <| dr_c (dg_no) <| dr_c (dg_iconst (by decide) dX10_take_31) <| dr_n
theorem tr_101_2 : dm_AllR (dm_Good dm_tb RX10 cX10_take 6 (some .int) false none) 32 [dm_ret .int, dm_ald 34 0, dm_getf 37 7 0, dm_no, dm_no, dm_inv 40 13 0 2, dm_no, dm_no, dm_ist 41 3, dm_ald 42 0, dm_ild 43 1, dm_ild 44 2, dm_push 45 (.int 3), dm_inv 48 129 3 7, dm_no, dm_no] := dr_c (dg_ret dX10_take_32) <| dr_c (dg_aload_n (k := 0) rfl dX10_take_33) <| dr_c (dg_getf (T := TX10) (C := RX10) (N := 11) dX10_take_34 rfl (by decide) iw_X10 wd_310) <| dr_c (dg_no) <| dr_c (dg_no) <| dr_c (dg_inv dX10_take_37 mo_13 rfl rfl wd_401 wd_402 wd_403 pd_13) <| dr_c (dg_no) <| dr_c (dg_no) <| dr_c (dg_istore_n (k := 3) rfl (by decide) dX10_take_40) <| dr_c (dg_aload_n (k := 0) rfl dX10_take_41) <| dr_c (dg_iload_n (k := 1) rfl dX10_take_42) <| dr_c (dg_iload_n (k := 2) rfl dX10_take_43) <| dr_c (dg_iconst (by decide) dX10_take_44) <| dr_c (dg_inv dX10_take_45 mo_129 rfl rfl wd_511 wd_513 wd_5 pd_129) <| dr_c (dg_no) <| dr_c (dg_no) <| dr_n
theorem tr_101_3 : dm_AllR (dm_Good dm_tb RX10 cX10_take 6 (some .int) false none) 48 [dm_ist 50 4, dm_no, dm_ild 52 4, dm_no, dm_push 53 (.int (-1)), dm_ic_ne 56 60, dm_no, dm_no, dm_push 57 (.int (-1)), dm_goto 66, dm_no, dm_no, dm_ald 61 0, dm_ild 63 4, dm_no, dm_inv 66 128 1 7] := dr_c (dg_istore (by decide) dX10_take_48) <| dr_c (dg_no) <| dr_c (dg_iload dX10_take_50) <| dr_c (dg_no) <| dr_c (dg_iconst (by decide) dX10_take_52) <| dr_c (dg_ic_ne (by decide) dX10_take_53) <| dr_c (dg_no) <| dr_c (dg_no) <| dr_c (dg_iconst (by decide) dX10_take_56) <| dr_c (dg_goto (by decide) dX10_take_57) <| dr_c (dg_no) <| dr_c (dg_no) <| dr_c (dg_aload_n (k := 0) rfl dX10_take_60) <| dr_c (dg_iload dX10_take_61) <| dr_c (dg_no) <| dr_c (dg_inv dX10_take_63 mo_128 rfl rfl wd_457 wd_459 wd_3 pd_128) <| dr_n
theorem tr_101_4 : dm_AllR (dm_Good dm_tb RX10 cX10_take 6 (some .int) false none) 64 [dm_no, dm_no, dm_ist 68 5, dm_no, dm_ald 69 0, dm_ild 70 3, dm_push 71 (.int 2), dm_ild 72 1, dm_ild 73 2, dm_inv 76 125 4 7, dm_no, dm_no, dm_if_ne 79 81, dm_no, dm_no, dm_push 80 (.int (-1))] := dr_c (dg_no) <| dr_c (dg_no) <| dr_c (dg_istore (by decide) dX10_take_66) <| dr_c (dg_no) <| dr_c (dg_aload_n (k := 0) rfl dX10_take_68) <| dr_c (dg_iload_n (k := 3) rfl dX10_take_69) <| dr_c (dg_iconst (by decide) dX10_take_70) <| dr_c (dg_iload_n (k := 1) rfl dX10_take_71) <| dr_c (dg_iload_n (k := 2) rfl dX10_take_72) <| dr_c (dg_inv dX10_take_73 mo_125 rfl rfl wd_427 wd_429 wd_2 pd_125) <| dr_c (dg_no) <| dr_c (dg_no) <| dr_c (dg_if_ne (by decide) dX10_take_76) <| dr_c (dg_no) <| dr_c (dg_no) <| dr_c (dg_iconst (by decide) dX10_take_79) <| dr_n
theorem tr_101_5 : dm_AllR (dm_Good dm_tb RX10 cX10_take 6 (some .int) false none) 80 [dm_ret .int, dm_ald 82 0, dm_getf 85 7 0, dm_no, dm_no, dm_ild 87 4, dm_no, dm_inv 90 29 1 2, dm_no, dm_no, dm_ild 92 5, dm_no, dm_ret .int] := dr_c (dg_ret dX10_take_80) <| dr_c (dg_aload_n (k := 0) rfl dX10_take_81) <| dr_c (dg_getf (T := TX10) (C := RX10) (N := 11) dX10_take_82 rfl (by decide) iw_X10 wd_310) <| dr_c (dg_no) <| dr_c (dg_no) <| dr_c (dg_iload dX10_take_85) <| dr_c (dg_no) <| dr_c (dg_inv dX10_take_87 mo_29 rfl rfl wd_445 wd_446 wd_447 pd_29) <| dr_c (dg_no) <| dr_c (dg_no) <| dr_c (dg_iload dX10_take_90) <| dr_c (dg_no) <| dr_c (dg_ret dX10_take_92) <| dr_n
theorem tk_101 : dm_AllC (dm_Good dm_tb RX10 cX10_take 6 (some .int) false none) 0 cd_101 := dc_c (by decide) tr_101_0 <| dc_c (by decide) tr_101_1 <| dc_c (by decide) tr_101_2 <| dc_c (by decide) tr_101_3 <| dc_c (by decide) tr_101_4 <| dc_c (by decide) tr_101_5 <| dc_n
theorem dX10_lose_0 : decode cX10_lose 0 = .ok (.aload_n 0, 1) := by decide +kernel
theorem dX10_lose_1 : decode cX10_lose 1 = .ok (.getfield 10, 3) := by decide +kernel
theorem dX10_lose_4 : decode cX10_lose 4 = .ok (.iload_n 1, 1) := by decide +kernel
theorem dX10_lose_5 : decode cX10_lose 5 = .ok (.invokevirtual 59, 3) := by decide +kernel
theorem dX10_lose_8 : decode cX10_lose 8 = .ok (.ifCond .ne 5, 3) := by decide +kernel
theorem dX10_lose_11 : decode cX10_lose 11 = .ok (.iconst 0, 1) := by decide +kernel
theorem dX10_lose_12 : decode cX10_lose 12 = .ok (.ireturn, 1) := by decide +kernel
theorem dX10_lose_13 : decode cX10_lose 13 = .ok (.aload_n 0, 1) := by decide +kernel
theorem dX10_lose_14 : decode cX10_lose 14 = .ok (.getfield 22, 3) := by decide +kernel
theorem dX10_lose_17 : decode cX10_lose 17 = .ok (.aload_n 0, 1) := by decide +kernel
theorem dX10_lose_18 : decode cX10_lose 18 = .ok (.getfield 10, 3) := by decide +kernel
theorem dX10_lose_21 : decode cX10_lose 21 = .ok (.aload_n 0, 1) := by decide +kernel
theorem dX10_lose_22 : decode cX10_lose 22 = .ok (.getfield 10, 3) := by decide +kernel
theorem dX10_lose_25 : decode cX10_lose 25 = .ok (.invokevirtual 77, 3) := by decide +kernel
theorem dX10_lose_28 : decode cX10_lose 28 = .ok (.iload_n 1, 1) := by decide +kernel
theorem dX10_lose_29 : decode cX10_lose 29 = .ok (.iconst (-1), 1) := by decide +kernel
theorem dX10_lose_30 : decode cX10_lose 30 = .ok (.invokevirtual 117, 3) := by decide +kernel
theorem dX10_lose_33 : decode cX10_lose 33 = .ok (.aload_n 0, 1) := by decide +kernel
theorem dX10_lose_34 : decode cX10_lose 34 = .ok (.getfield 10, 3) := by decide +kernel
theorem dX10_lose_37 : decode cX10_lose 37 = .ok (.iload_n 1, 1) := by decide +kernel
theorem dX10_lose_38 : decode cX10_lose 38 = .ok (.iconst 2, 1) := by decide +kernel
theorem dX10_lose_39 : decode cX10_lose 39 = .ok (.invokevirtual 121, 3) := by decide +kernel
theorem dX10_lose_42 : decode cX10_lose 42 = .ok (.iconst 1, 1) := by decide +kernel
theorem dX10_lose_43 : decode cX10_lose 43 = .ok (.ireturn, 1) := by decide +kernel
def cd_102 : dm_Code := [[dm_ald 1 0, dm_getf 4 7 0, dm_no, dm_no, dm_ild 5 1, dm_inv 8 27 1 2, dm_no, dm_no, dm_if_ne 11 13, dm_no, dm_no, dm_push 12 (.int 0), dm_ret .boolean, dm_ald 14 0, dm_getf 17 7 2, dm_no],
  [dm_no, dm_ald 18 0, dm_getf 21 7 0, dm_no, dm_no, dm_ald 22 0, dm_getf 25 7 0, dm_no, dm_no, dm_inv 28 13 0 2, dm_no, dm_no, dm_ild 29 1, dm_push 30 (.int (-1)), dm_inv 33 3 4 0, dm_no],
  [dm_no, dm_ald 34 0, dm_getf 37 7 0, dm_no, dm_no, dm_ild 38 1, dm_push 39 (.int 2), dm_inv 42 24 2 2, dm_no, dm_no, dm_push 43 (.int 1), dm_ret .boolean]]
theorem tr_102_0 : dm_AllR (dm_Good dm_tb RX10 cX10_lose 2 (some .boolean) false none) 0 [dm_ald 1 0, dm_getf 4 7 0, dm_no, dm_no, dm_ild 5 1, dm_inv 8 27 1 2, dm_no, dm_no, dm_if_ne 11 13, dm_no, dm_no, dm_push 12 (.int 0), dm_ret .boolean, dm_ald 14 0, dm_getf 17 7 2, dm_no] := dr_c (dg_aload_n (k := 0) rfl dX10_lose_0) <| dr_c (dg_getf (T := TX10) (C := RX10) (N := 11) dX10_lose_1 rfl (by decide) iw_X10 wd_310) <| dr_c (dg_no) <| dr_c (dg_no) <| dr_c (dg_iload_n (k := 1) rfl dX10_lose_4) <| dr_c (dg_inv dX10_lose_5 mo_27 rfl rfl wd_352 wd_353 wd_354 pd_27) <| dr_c (dg_no) <| dr_c (dg_no) <| dr_c (dg_if_ne (by decide) dX10_lose_8) <| dr_c (dg_no) <| dr_c (dg_no) <| dr_c (dg_iconst (by decide) dX10_lose_11) <| dr_c (dg_ret dX10_lose_12) <| dr_c (dg_aload_n (k := 0) rfl dX10_lose_13) <| dr_c (dg_getf (T := TX10) (C := RX10) (N := 11) dX10_lose_14 rfl (by decide) iw_X10 wd_312) <| dr_c (dg_no) <| dr_n
theorem tr_102_1 : dm_AllR (dm_Good dm_tb RX10 cX10_lose 2 (some .boolean) false none) 16 [dm_no, dm_ald 18 0, dm_getf 21 7 0, dm_no, dm_no, dm_ald 22 0, dm_getf 25 7 0, dm_no, dm_no, dm_inv 28 13 0 2, dm_no, dm_no, dm_ild 29 1, dm_push 30 (.int (-1)), dm_inv 33 3 4 0, dm_no] := dr_c (dg_no) <| dr_c (dg_aload_n (k := 0) rfl dX10_lose_17) <| dr_c (dg_getf (T := TX10) (C := RX10) (N := 11) dX10_lose_18 rfl (by decide) iw_X10 wd_310) <| dr_c (dg_no) <| dr_c (dg_no) <| dr_c (dg_aload_n (k := 0) rfl dX10_lose_21) <| dr_c (dg_getf (T := TX10) (C := RX10) (N := 11) dX10_lose_22 rfl (by decide) iw_X10 wd_310) <| dr_c (dg_no) <| dr_c (dg_no) <| dr_c (dg_inv dX10_lose_25 mo_13 rfl rfl wd_401 wd_402 wd_403 pd_13) <| dr_c (dg_no) <| dr_c (dg_no) <| dr_c (dg_iload_n (k := 1) rfl dX10_lose_28) <| dr_c (dg_iconst (by decide) dX10_lose_29) <| dr_c (dg_inv dX10_lose_30 mo_3 rfl rfl wd_439 wd_440 wd_441 pd_3) <| dr_c (dg_no) <| dr_n
theorem tr_102_2 : dm_AllR (dm_Good dm_tb RX10 cX10_lose 2 (some .boolean) false none) 32 [dm_no, dm_ald 34 0, dm_getf 37 7 0, dm_no, dm_no, dm_ild 38 1, dm_push 39 (.int 2), dm_inv 42 24 2 2, dm_no, dm_no, dm_push 43 (.int 1), dm_ret .boolean] := dr_c (dg_no) <| dr_c (dg_aload_n (k := 0) rfl dX10_lose_33) <| dr_c (dg_getf (T := TX10) (C := RX10) (N := 11) dX10_lose_34 rfl (by decide) iw_X10 wd_310) <| dr_c (dg_no) <| dr_c (dg_no) <| dr_c (dg_iload_n (k := 1) rfl dX10_lose_37) <| dr_c (dg_iconst (by decide) dX10_lose_38) <| dr_c (dg_inv dX10_lose_39 mo_24 rfl rfl wd_541 wd_450 wd_451 pd_24) <| dr_c (dg_no) <| dr_c (dg_no) <| dr_c (dg_iconst (by decide) dX10_lose_42) <| dr_c (dg_ret dX10_lose_43) <| dr_n
theorem tk_102 : dm_AllC (dm_Good dm_tb RX10 cX10_lose 2 (some .boolean) false none) 0 cd_102 := dc_c (by decide) tr_102_0 <| dc_c (by decide) tr_102_1 <| dc_c (by decide) tr_102_2 <| dc_n
theorem dX10_home_0 : decode cX10_home 0 = .ok (.aload_n 0, 1) := by decide +kernel
theorem dX10_home_1 : decode cX10_home 1 = .ok (.getfield 10, 3) := by decide +kernel
theorem dX10_home_4 : decode cX10_home 4 = .ok (.iload_n 1, 1) := by decide +kernel
theorem dX10_home_5 : decode cX10_home 5 = .ok (.invokevirtual 107, 3) := by decide +kernel
theorem dX10_home_8 : decode cX10_home 8 = .ok (.ifCond .eq 23, 3) := by decide +kernel
theorem dX10_home_11 : decode cX10_home 11 = .ok (.aload_n 0, 1) := by decide +kernel
theorem dX10_home_12 : decode cX10_home 12 = .ok (.getfield 10, 3) := by decide +kernel
theorem dX10_home_15 : decode cX10_home 15 = .ok (.iload_n 2, 1) := by decide +kernel
theorem dX10_home_16 : decode cX10_home 16 = .ok (.invokevirtual 125, 3) := by decide +kernel
theorem dX10_home_19 : decode cX10_home 19 = .ok (.ifCond .eq 12, 3) := by decide +kernel
theorem dX10_home_22 : decode cX10_home 22 = .ok (.aload_n 0, 1) := by decide +kernel
theorem dX10_home_23 : decode cX10_home 23 = .ok (.iload_n 2, 1) := by decide +kernel
theorem dX10_home_24 : decode cX10_home 24 = .ok (.iload_n 1, 1) := by decide +kernel
theorem dX10_home_25 : decode cX10_home 25 = .ok (.invokevirtual 128, 3) := by decide +kernel
theorem dX10_home_28 : decode cX10_home 28 = .ok (.ifCond .ne 5, 3) := by decide +kernel
theorem dX10_home_31 : decode cX10_home 31 = .ok (.iconst (-1), 1) := by decide +kernel
theorem dX10_home_32 : decode cX10_home 32 = .ok (.ireturn, 1) := by decide +kernel
theorem dX10_home_33 : decode cX10_home 33 = .ok (.aload_n 0, 1) := by decide +kernel
theorem dX10_home_34 : decode cX10_home 34 = .ok (.getfield 10, 3) := by decide +kernel
theorem dX10_home_37 : decode cX10_home 37 = .ok (.invokevirtual 77, 3) := by decide +kernel
theorem dX10_home_40 : decode cX10_home 40 = .ok (.istore_n 3, 1) := by decide +kernel
theorem dX10_home_41 : decode cX10_home 41 = .ok (.aload_n 0, 1) := by decide +kernel
theorem dX10_home_42 : decode cX10_home 42 = .ok (.iload_n 1, 1) := by decide +kernel
theorem dX10_home_43 : decode cX10_home 43 = .ok (.iload_n 2, 1) := by decide +kernel
theorem dX10_home_44 : decode cX10_home 44 = .ok (.iconst 5, 1) := by decide +kernel
theorem dX10_home_45 : decode cX10_home 45 = .ok (.invokevirtual 103, 3) := by decide +kernel
theorem dX10_home_48 : decode cX10_home 48 = .ok (.istore 4, 2) := by decide +kernel
theorem dX10_home_50 : decode cX10_home 50 = .ok (.aload_n 0, 1) := by decide +kernel
theorem dX10_home_51 : decode cX10_home 51 = .ok (.iload_n 3, 1) := by decide +kernel
theorem dX10_home_52 : decode cX10_home 52 = .ok (.iconst 1, 1) := by decide +kernel
theorem dX10_home_53 : decode cX10_home 53 = .ok (.iload_n 1, 1) := by decide +kernel
theorem dX10_home_54 : decode cX10_home 54 = .ok (.iload_n 2, 1) := by decide +kernel
theorem dX10_home_55 : decode cX10_home 55 = .ok (.invokevirtual 92, 3) := by decide +kernel
theorem dX10_home_58 : decode cX10_home 58 = .ok (.ifCond .eq 8, 3) := by decide +kernel
theorem dX10_home_61 : decode cX10_home 61 = .ok (.iload 4, 2) := by decide +kernel
theorem dX10_home_63 : decode cX10_home 63 = .ok (.goto 4, 3) := by decide +kernel
theorem dX10_home_66 : decode cX10_home 66 = .ok (.iconst (-1), 1) := by decide +kernel
theorem dX10_home_67 : decode cX10_home 67 = .ok (.ireturn, 1) := by decide +kernel
def cd_103 : dm_Code := [[dm_ald 1 0, dm_getf 4 7 0, dm_no, dm_no, dm_ild 5 1, dm_inv 8 26 1 2, dm_no, dm_no, dm_if_eq 11 31, dm_no, dm_no, dm_ald 12 0, dm_getf 15 7 0, dm_no, dm_no, dm_ild 16 2],
  [dm_inv 19 28 1 2, dm_no, dm_no, dm_if_eq 22 31, dm_no, dm_no, dm_ald 23 0, dm_ild 24 2, dm_ild 25 1, dm_inv 28 127 2 7, dm_no, dm_no, dm_if_ne 31 33, dm_no, dm_no, dm_push 32 (.int (-1))],
  [dm_ret .int, dm_ald 34 0, dm_getf 37 7 0, dm_no, dm_no, dm_inv 40 13 0 2, dm_no, dm_no, dm_ist 41 3, dm_ald 42 0, dm_ild 43 1, dm_ild 44 2, dm_push 45 (.int 5), dm_inv 48 129 3 7, dm_no, dm_no],
  [dm_ist 50 4, dm_no, dm_ald 51 0, dm_ild 52 3, dm_push 53 (.int 1), dm_ild 54 1, dm_ild 55 2, dm_inv 58 125 4 7, dm_no, dm_no, dm_if_eq 61 66, dm_no, dm_no, dm_ild 63 4, dm_no, dm_goto 67],
  [dm_no, dm_no, dm_push 67 (.int (-1)), dm_ret .int]]
theorem tr_103_0 : dm_AllR (dm_Good dm_tb RX10 cX10_home 5 (some .int) false none) 0 [dm_ald 1 0, dm_getf 4 7 0, dm_no, dm_no, dm_ild 5 1, dm_inv 8 26 1 2, dm_no, dm_no, dm_if_eq 11 31, dm_no, dm_no, dm_ald 12 0, dm_getf 15 7 0, dm_no, dm_no, dm_ild 16 2] := dr_c (dg_aload_n (k := 0) rfl dX10_home_0) <| dr_c (dg_getf (T := TX10) (C := RX10) (N := 11) dX10_home_1 rfl (by decide) iw_X10 wd_310) <| dr_c (dg_no) <| dr_c (dg_no) <| dr_c (dg_iload_n (k := 1) rfl dX10_home_4) <| dr_c (dg_inv dX10_home_5 mo_26 rfl rfl wd_510 wd_357 wd_358 pd_26) <| dr_c (dg_no) <| dr_c (dg_no) <| dr_c (dg_if_eq (by decide) dX10_home_8) <| dr_c (dg_no) <| dr_c (dg_no) <| dr_c (dg_aload_n (k := 0) rfl dX10_home_11) <| dr_c (dg_getf (T := TX10) (C := RX10) (N := 11) dX10_home_12 rfl (by decide) iw_X10 wd_310) <| dr_c (dg_no) <| dr_c (dg_no) <| dr_c (dg_iload_n (k := 2) rfl dX10_home_15) <| dr_n
theorem tr_103_1 : dm_AllR (dm_Good dm_tb RX10 cX10_home 5 (some .int) false none) 16 [dm_inv 19 28 1 2, dm_no, dm_no, dm_if_eq 22 31, dm_no, dm_no, dm_ald 23 0, dm_ild 24 2, dm_ild 25 1, dm_inv 28 127 2 7, dm_no, dm_no, dm_if_ne 31 33, dm_no, dm_no, dm_push 32 (.int (-1))] := dr_c (dg_inv dX10_home_16 mo_28 rfl rfl wd_546 wd_547 wd_548 pd_28) <| dr_c (dg_no) <| dr_c (dg_no) <| dr_c (dg_if_eq (by decide) dX10_home_19) <| dr_c (dg_no) <| dr_c (dg_no) <| dr_c (dg_aload_n (k := 0) rfl dX10_home_22) <| dr_c (dg_iload_n (k := 2) rfl dX10_home_23) <| dr_c (dg_iload_n (k := 1) rfl dX10_home_24) <| dr_c (dg_inv dX10_home_25 mo_127 rfl rfl wd_550 wd_552 wd_7 pd_127) <| dr_c (dg_no) <| dr_c (dg_no) <| dr_c (dg_if_ne (by decide) dX10_home_28) <| dr_c (dg_no) <| dr_c (dg_no) <| dr_c (dg_iconst (by decide) dX10_home_31) <| dr_n
theorem tr_103_2 : dm_AllR (dm_Good dm_tb RX10 cX10_home 5 (some .int) false none) 32 [dm_ret .int, dm_ald 34 0, dm_getf 37 7 0, dm_no, dm_no, dm_inv 40 13 0 2, dm_no, dm_no, dm_ist 41 3, dm_ald 42 0, dm_ild 43 1, dm_ild 44 2, dm_push 45 (.int 5), dm_inv 48 129 3 7, dm_no, dm_no] := dr_c (dg_ret dX10_home_32) <| dr_c (dg_aload_n (k := 0) rfl dX10_home_33) <| dr_c (dg_getf (T := TX10) (C := RX10) (N := 11) dX10_home_34 rfl (by decide) iw_X10 wd_310) <| dr_c (dg_no) <| dr_c (dg_no) <| dr_c (dg_inv dX10_home_37 mo_13 rfl rfl wd_401 wd_402 wd_403 pd_13) <| dr_c (dg_no) <| dr_c (dg_no) <| dr_c (dg_istore_n (k := 3) rfl (by decide) dX10_home_40) <| dr_c (dg_aload_n (k := 0) rfl dX10_home_41) <| dr_c (dg_iload_n (k := 1) rfl dX10_home_42) <| dr_c (dg_iload_n (k := 2) rfl dX10_home_43) <| dr_c (dg_iconst (by decide) dX10_home_44) <| dr_c (dg_inv dX10_home_45 mo_129 rfl rfl wd_511 wd_513 wd_5 pd_129) <| dr_c (dg_no) <| dr_c (dg_no) <| dr_n
theorem tr_103_3 : dm_AllR (dm_Good dm_tb RX10 cX10_home 5 (some .int) false none) 48 [dm_ist 50 4, dm_no, dm_ald 51 0, dm_ild 52 3, dm_push 53 (.int 1), dm_ild 54 1, dm_ild 55 2, dm_inv 58 125 4 7, dm_no, dm_no, dm_if_eq 61 66, dm_no, dm_no, dm_ild 63 4, dm_no, dm_goto 67] := dr_c (dg_istore (by decide) dX10_home_48) <| dr_c (dg_no) <| dr_c (dg_aload_n (k := 0) rfl dX10_home_50) <| dr_c (dg_iload_n (k := 3) rfl dX10_home_51) <| dr_c (dg_iconst (by decide) dX10_home_52) <| dr_c (dg_iload_n (k := 1) rfl dX10_home_53) <| dr_c (dg_iload_n (k := 2) rfl dX10_home_54) <| dr_c (dg_inv dX10_home_55 mo_125 rfl rfl wd_427 wd_429 wd_2 pd_125) <| dr_c (dg_no) <| dr_c (dg_no) <| dr_c (dg_if_eq (by decide) dX10_home_58) <| dr_c (dg_no) <| dr_c (dg_no) <| dr_c (dg_iload dX10_home_61) <| dr_c (dg_no) <| dr_c (dg_goto (by decide) dX10_home_63) <| dr_n
theorem tr_103_4 : dm_AllR (dm_Good dm_tb RX10 cX10_home 5 (some .int) false none) 64 [dm_no, dm_no, dm_push 67 (.int (-1)), dm_ret .int] := dr_c (dg_no) <| dr_c (dg_no) <| dr_c (dg_iconst (by decide) dX10_home_66) <| dr_c (dg_ret dX10_home_67) <| dr_n
theorem tk_103 : dm_AllC (dm_Good dm_tb RX10 cX10_home 5 (some .int) false none) 0 cd_103 := dc_c (by decide) tr_103_0 <| dc_c (by decide) tr_103_1 <| dc_c (by decide) tr_103_2 <| dc_c (by decide) tr_103_3 <| dc_c (by decide) tr_103_4 <| dc_n
theorem dX10_undo_0 : decode cX10_undo 0 = .ok (.aload_n 0, 1) := by decide +kernel
theorem dX10_undo_1 : decode cX10_undo 1 = .ok (.getfield 22, 3) := by decide +kernel
theorem dX10_undo_4 : decode cX10_undo 4 = .ok (.aload_n 0, 1) := by decide +kernel
theorem dX10_undo_5 : decode cX10_undo 5 = .ok (.getfield 10, 3) := by decide +kernel
theorem dX10_undo_8 : decode cX10_undo 8 = .ok (.invokevirtual 131, 3) := by decide +kernel
theorem dX10_undo_11 : decode cX10_undo 11 = .ok (.ireturn, 1) := by decide +kernel
def cd_104 : dm_Code := [[dm_ald 1 0, dm_getf 4 7 2, dm_no, dm_no, dm_ald 5 0, dm_getf 8 7 0, dm_no, dm_no, dm_inv 11 4 1 0, dm_no, dm_no, dm_ret .boolean]]
theorem tr_104_0 : dm_AllR (dm_Good dm_tb RX10 cX10_undo 1 (some .boolean) false none) 0 [dm_ald 1 0, dm_getf 4 7 2, dm_no, dm_no, dm_ald 5 0, dm_getf 8 7 0, dm_no, dm_no, dm_inv 11 4 1 0, dm_no, dm_no, dm_ret .boolean] := dr_c (dg_aload_n (k := 0) rfl dX10_undo_0) <| dr_c (dg_getf (T := TX10) (C := RX10) (N := 11) dX10_undo_1 rfl (by decide) iw_X10 wd_312) <| dr_c (dg_no) <| dr_c (dg_no) <| dr_c (dg_aload_n (k := 0) rfl dX10_undo_4) <| dr_c (dg_getf (T := TX10) (C := RX10) (N := 11) dX10_undo_5 rfl (by decide) iw_X10 wd_310) <| dr_c (dg_no) <| dr_c (dg_no) <| dr_c (dg_inv dX10_undo_8 mo_4 rfl rfl wd_568 wd_569 wd_570 pd_4) <| dr_c (dg_no) <| dr_c (dg_no) <| dr_c (dg_ret dX10_undo_11) <| dr_n
theorem tk_104 : dm_AllC (dm_Good dm_tb RX10 cX10_undo 1 (some .boolean) false none) 0 cd_104 := dc_c (by decide) tr_104_0 <| dc_n
theorem dX10_relation_0 : decode cX10_relation 0 = .ok (.aload_n 0, 1) := by decide +kernel
theorem dX10_relation_1 : decode cX10_relation 1 = .ok (.getfield 10, 3) := by decide +kernel
theorem dX10_relation_4 : decode cX10_relation 4 = .ok (.iload_n 1, 1) := by decide +kernel
theorem dX10_relation_5 : decode cX10_relation 5 = .ok (.invokevirtual 135, 3) := by decide +kernel
theorem dX10_relation_8 : decode cX10_relation 8 = .ok (.ifCond .eq 14, 3) := by decide +kernel
theorem dX10_relation_11 : decode cX10_relation 11 = .ok (.aload_n 0, 1) := by decide +kernel
theorem dX10_relation_12 : decode cX10_relation 12 = .ok (.getfield 10, 3) := by decide +kernel
theorem dX10_relation_15 : decode cX10_relation 15 = .ok (.iload_n 2, 1) := by decide +kernel
theorem dX10_relation_16 : decode cX10_relation 16 = .ok (.invokevirtual 135, 3) := by decide +kernel
theorem dX10_relation_19 : decode cX10_relation 19 = .ok (.ifCond .ne 5, 3) := by decide +kernel
theorem dX10_relation_22 : decode cX10_relation 22 = .ok (.iconst (-1), 1) := by decide +kernel
theorem dX10_relation_23 : decode cX10_relation 23 = .ok (.ireturn, 1) := by decide +kernel
theorem dX10_relation_24 : decode cX10_relation 24 = .ok (.aload_n 0, 1) := by decide +kernel
theorem dX10_relation_25 : decode cX10_relation 25 = .ok (.iload_n 1, 1) := by decide +kernel
theorem dX10_relation_26 : decode cX10_relation 26 = .ok (.iload_n 2, 1) := by decide +kernel
theorem dX10_relation_27 : decode cX10_relation 27 = .ok (.invokevirtual 128, 3) := by decide +kernel
theorem dX10_relation_30 : decode cX10_relation 30 = .ok (.istore_n 3, 1) := by decide +kernel
theorem dX10_relation_31 : decode cX10_relation 31 = .ok (.aload_n 0, 1) := by decide +kernel
theorem dX10_relation_32 : decode cX10_relation 32 = .ok (.iload_n 2, 1) := by decide +kernel
theorem dX10_relation_33 : decode cX10_relation 33 = .ok (.iload_n 1, 1) := by decide +kernel
theorem dX10_relation_34 : decode cX10_relation 34 = .ok (.invokevirtual 128, 3) := by decide +kernel
theorem dX10_relation_37 : decode cX10_relation 37 = .ok (.istore 4, 2) := by decide +kernel
theorem dX10_relation_39 : decode cX10_relation 39 = .ok (.iload_n 3, 1) := by decide +kernel
theorem dX10_relation_40 : decode cX10_relation 40 = .ok (.ifCond .eq 10, 3) := by decide +kernel
theorem dX10_relation_43 : decode cX10_relation 43 = .ok (.iload 4, 2) := by decide +kernel
theorem dX10_relation_45 : decode cX10_relation 45 = .ok (.ifCond .eq 5, 3) := by decide +kernel
theorem dX10_relation_48 : decode cX10_relation 48 = .ok (.iconst 0, 1) := by decide +kernel
theorem dX10_relation_49 : decode cX10_relation 49 = .ok (.ireturn, 1) := by decide +kernel
theorem dX10_relation_50 : decode cX10_relation 50 = .ok (.iload_n 3, 1) := by decide +kernel
theorem dX10_relation_51 : decode cX10_relation 51 = .ok (.ifCond .eq 5, 3) := by decide +kernel
theorem dX10_relation_54 : decode cX10_relation 54 = .ok (.iconst 1, 1) := by decide +kernel
theorem dX10_relation_55 : decode cX10_relation 55 = .ok (.ireturn, 1) := by decide +kernel
theorem dX10_relation_56 : decode cX10_relation 56 = .ok (.iload 4, 2) := by decide +kernel
theorem dX10_relation_58 : decode cX10_relation 58 = .ok (.ifCond .eq 7, 3) := by decide +kernel
theorem dX10_relation_61 : decode cX10_relation 61 = .ok (.iconst 2, 1) := by decide +kernel
theorem dX10_relation_62 : decode cX10_relation 62 = .ok (.goto 4, 3) := by decide +kernel
theorem dX10_relation_65 : decode cX10_relation 65 = .ok (.iconst 3, 1) := by decide +kernel
theorem dX10_relation_66 : decode cX10_relation 66 = .ok (.ireturn, 1) := by decide +kernel
def cd_105 : dm_Code := [[dm_ald 1 0, dm_getf 4 7 0, dm_no, dm_no, dm_ild 5 1, dm_inv 8 17 1 2, dm_no, dm_no, dm_if_eq 11 22, dm_no, dm_no, dm_ald 12 0, dm_getf 15 7 0, dm_no, dm_no, dm_ild 16 2],
  [dm_inv 19 17 1 2, dm_no, dm_no, dm_if_ne 22 24, dm_no, dm_no, dm_push 23 (.int (-1)), dm_ret .int, dm_ald 25 0, dm_ild 26 1, dm_ild 27 2, dm_inv 30 127 2 7, dm_no, dm_no, dm_ist 31 3, dm_ald 32 0],
  [dm_ild 33 2, dm_ild 34 1, dm_inv 37 127 2 7, dm_no, dm_no, dm_ist 39 4, dm_no, dm_ild 40 3, dm_if_eq 43 50, dm_no, dm_no, dm_ild 45 4, dm_no, dm_if_eq 48 50, dm_no, dm_no],
  [dm_push 49 (.int 0), dm_ret .int, dm_ild 51 3, dm_if_eq 54 56, dm_no, dm_no, dm_push 55 (.int 1), dm_ret .int, dm_ild 58 4, dm_no, dm_if_eq 61 65, dm_no, dm_no, dm_push 62 (.int 2), dm_goto 66, dm_no],
  [dm_no, dm_push 66 (.int 3), dm_ret .int]]
theorem tr_105_0 : dm_AllR (dm_Good dm_tb RX10 cX10_relation 5 (some .int) false none) 0 [dm_ald 1 0, dm_getf 4 7 0, dm_no, dm_no, dm_ild 5 1, dm_inv 8 17 1 2, dm_no, dm_no, dm_if_eq 11 22, dm_no, dm_no, dm_ald 12 0, dm_getf 15 7 0, dm_no, dm_no, dm_ild 16 2] := dr_c (dg_aload_n (k := 0) rfl dX10_relation_0) <| dr_c (dg_getf (T := TX10) (C := RX10) (N := 11) dX10_relation_1 rfl (by decide) iw_X10 wd_310) <| dr_c (dg_no) <| dr_c (dg_no) <| dr_c (dg_iload_n (k := 1) rfl dX10_relation_4) <| dr_c (dg_inv dX10_relation_5 mo_17 rfl rfl wd_579 wd_361 wd_362 pd_17) <| dr_c (dg_no) <| dr_c (dg_no) <| dr_c (dg_if_eq (by decide) dX10_relation_8) <| dr_c (dg_no) <| dr_c (dg_no) <| dr_c (dg_aload_n (k := 0) rfl dX10_relation_11) <| dr_c (dg_getf (T := TX10) (C := RX10) (N := 11) dX10_relation_12 rfl (by decide) iw_X10 wd_310) <| dr_c (dg_no) <| dr_c (dg_no) <| dr_c (dg_iload_n (k := 2) rfl dX10_relation_15) <| dr_n
theorem tr_105_1 : dm_AllR (dm_Good dm_tb RX10 cX10_relation 5 (some .int) false none) 16 [dm_inv 19 17 1 2, dm_no, dm_no, dm_if_ne 22 24, dm_no, dm_no, dm_push 23 (.int (-1)), dm_ret .int, dm_ald 25 0, dm_ild 26 1, dm_ild 27 2, dm_inv 30 127 2 7, dm_no, dm_no, dm_ist 31 3, dm_ald 32 0] := dr_c (dg_inv dX10_relation_16 mo_17 rfl rfl wd_579 wd_361 wd_362 pd_17) <| dr_c (dg_no) <| dr_c (dg_no) <| dr_c (dg_if_ne (by decide) dX10_relation_19) <| dr_c (dg_no) <| dr_c (dg_no) <| dr_c (dg_iconst (by decide) dX10_relation_22) <| dr_c (dg_ret dX10_relation_23) <| dr_c (dg_aload_n (k := 0) rfl dX10_relation_24) <| dr_c (dg_iload_n (k := 1) rfl dX10_relation_25) <| dr_c (dg_iload_n (k := 2) rfl dX10_relation_26) <| dr_c (dg_inv dX10_relation_27 mo_127 rfl rfl wd_550 wd_552 wd_7 pd_127) <| dr_c (dg_no) <| dr_c (dg_no) <| dr_c (dg_istore_n (k := 3) rfl (by decide) dX10_relation_30) <| dr_c (dg_aload_n (k := 0) rfl dX10_relation_31) <| dr_n
theorem tr_105_2 : dm_AllR (dm_Good dm_tb RX10 cX10_relation 5 (some .int) false none) 32 [dm_ild 33 2, dm_ild 34 1, dm_inv 37 127 2 7, dm_no, dm_no, dm_ist 39 4, dm_no, dm_ild 40 3, dm_if_eq 43 50, dm_no, dm_no, dm_ild 45 4, dm_no, dm_if_eq 48 50, dm_no, dm_no] := dr_c (dg_iload_n (k := 2) rfl dX10_relation_32) <| dr_c (dg_iload_n (k := 1) rfl dX10_relation_33) <| dr_c (dg_inv dX10_relation_34 mo_127 rfl rfl wd_550 wd_552 wd_7 pd_127) <| dr_c (dg_no) <| dr_c (dg_no) <| dr_c (dg_istore (by decide) dX10_relation_37) <| dr_c (dg_no) <| dr_c (dg_iload_n (k := 3) rfl dX10_relation_39) <| dr_c (dg_if_eq (by decide) dX10_relation_40) <| dr_c (dg_no) <| dr_c (dg_no) <| dr_c (dg_iload dX10_relation_43) <| dr_c (dg_no) <| dr_c (dg_if_eq (by decide) dX10_relation_45) <| dr_c (dg_no) <| dr_c (dg_no) <| dr_n
theorem tr_105_3 : dm_AllR (dm_Good dm_tb RX10 cX10_relation 5 (some .int) false none) 48 [dm_push 49 (.int 0), dm_ret .int, dm_ild 51 3, dm_if_eq 54 56, dm_no, dm_no, dm_push 55 (.int 1), dm_ret .int, dm_ild 58 4, dm_no, dm_if_eq 61 65, dm_no, dm_no, dm_push 62 (.int 2), dm_goto 66, dm_no] := dr_c (dg_iconst (by decide) dX10_relation_48) <| dr_c (dg_ret dX10_relation_49) <| dr_c (dg_iload_n (k := 3) rfl dX10_relation_50) <| dr_c (dg_if_eq (by decide) dX10_relation_51) <| dr_c (dg_no) <| dr_c (dg_no) <| dr_c (dg_iconst (by decide) dX10_relation_54) <| dr_c (dg_ret dX10_relation_55) <| dr_c (dg_iload dX10_relation_56) <| dr_c (dg_no) <| dr_c (dg_if_eq (by decide) dX10_relation_58) <| dr_c (dg_no) <| dr_c (dg_no) <| dr_c (dg_iconst (by decide) dX10_relation_61) <| dr_c (dg_goto (by decide) dX10_relation_62) <| dr_c (dg_no) <| dr_n
theorem tr_105_4 : dm_AllR (dm_Good dm_tb RX10 cX10_relation 5 (some .int) false none) 64 [dm_no, dm_push 66 (.int 3), dm_ret .int] := dr_c (dg_no) <| dr_c (dg_iconst (by decide) dX10_relation_65) <| dr_c (dg_ret dX10_relation_66) <| dr_n
theorem tk_105 : dm_AllC (dm_Good dm_tb RX10 cX10_relation 5 (some .int) false none) 0 cd_105 := dc_c (by decide) tr_105_0 <| dc_c (by decide) tr_105_1 <| dc_c (by decide) tr_105_2 <| dc_c (by decide) tr_105_3 <| dc_c (by decide) tr_105_4 <| dc_n
theorem dX10_unseen_0 : decode cX10_unseen 0 = .ok (.aload_n 0, 1) := by decide +kernel
theorem dX10_unseen_1 : decode cX10_unseen 1 = .ok (.getfield 10, 3) := by decide +kernel
theorem dX10_unseen_4 : decode cX10_unseen 4 = .ok (.iload_n 1, 1) := by decide +kernel
theorem dX10_unseen_5 : decode cX10_unseen 5 = .ok (.invokevirtual 135, 3) := by decide +kernel
theorem dX10_unseen_8 : decode cX10_unseen 8 = .ok (.ifCond .eq 30, 3) := by decide +kernel
theorem dX10_unseen_11 : decode cX10_unseen 11 = .ok (.aload_n 0, 1) := by decide +kernel
theorem dX10_unseen_12 : decode cX10_unseen 12 = .ok (.getfield 10, 3) := by decide +kernel
theorem dX10_unseen_15 : decode cX10_unseen 15 = .ok (.iload_n 2, 1) := by decide +kernel
theorem dX10_unseen_16 : decode cX10_unseen 16 = .ok (.invokevirtual 135, 3) := by decide +kernel
theorem dX10_unseen_19 : decode cX10_unseen 19 = .ok (.ifCond .eq 19, 3) := by decide +kernel
theorem dX10_unseen_22 : decode cX10_unseen 22 = .ok (.aload_n 0, 1) := by decide +kernel
theorem dX10_unseen_23 : decode cX10_unseen 23 = .ok (.getfield 29, 3) := by decide +kernel
theorem dX10_unseen_26 : decode cX10_unseen 26 = .ok (.aload_n 0, 1) := by decide +kernel
theorem dX10_unseen_27 : decode cX10_unseen 27 = .ok (.getfield 10, 3) := by decide +kernel
theorem dX10_unseen_30 : decode cX10_unseen 30 = .ok (.iload_n 1, 1) := by decide +kernel
theorem dX10_unseen_31 : decode cX10_unseen 31 = .ok (.iload_n 2, 1) := by decide +kernel
theorem dX10_unseen_32 : decode cX10_unseen 32 = .ok (.invokevirtual 138, 3) := by decide +kernel
theorem dX10_unseen_35 : decode cX10_unseen 35 = .ok (.goto 4, 3) := by decide +kernel
theorem dX10_unseen_38 : decode cX10_unseen 38 = .ok (.iconst (-1), 1) := by decide +kernel
theorem dX10_unseen_39 : decode cX10_unseen 39 = .ok (.ireturn, 1) := by decide +kernel
def cd_106 : dm_Code := [[dm_ald 1 0, dm_getf 4 7 0, dm_no, dm_no, dm_ild 5 1, dm_inv 8 17 1 2, dm_no, dm_no, dm_if_eq 11 38, dm_no, dm_no, dm_ald 12 0, dm_getf 15 7 0, dm_no, dm_no, dm_ild 16 2],
  [dm_inv 19 17 1 2, dm_no, dm_no, dm_if_eq 22 38, dm_no, dm_no, dm_ald 23 0, dm_getf 26 7 3, dm_no, dm_no, dm_ald 27 0, dm_getf 30 7 0, dm_no, dm_no, dm_ild 31 1, dm_ild 32 2],
  [dm_inv 35 51 3 4, dm_no, dm_no, dm_goto 39, dm_no, dm_no, dm_push 39 (.int (-1)), dm_ret .int]]
theorem tr_106_0 : dm_AllR (dm_Good dm_tb RX10 cX10_unseen 3 (some .int) false none) 0 [dm_ald 1 0, dm_getf 4 7 0, dm_no, dm_no, dm_ild 5 1, dm_inv 8 17 1 2, dm_no, dm_no, dm_if_eq 11 38, dm_no, dm_no, dm_ald 12 0, dm_getf 15 7 0, dm_no, dm_no, dm_ild 16 2] := dr_c (dg_aload_n (k := 0) rfl dX10_unseen_0) <| dr_c (dg_getf (T := TX10) (C := RX10) (N := 11) dX10_unseen_1 rfl (by decide) iw_X10 wd_310) <| dr_c (dg_no) <| dr_c (dg_no) <| dr_c (dg_iload_n (k := 1) rfl dX10_unseen_4) <| dr_c (dg_inv dX10_unseen_5 mo_17 rfl rfl wd_579 wd_361 wd_362 pd_17) <| dr_c (dg_no) <| dr_c (dg_no) <| dr_c (dg_if_eq (by decide) dX10_unseen_8) <| dr_c (dg_no) <| dr_c (dg_no) <| dr_c (dg_aload_n (k := 0) rfl dX10_unseen_11) <| dr_c (dg_getf (T := TX10) (C := RX10) (N := 11) dX10_unseen_12 rfl (by decide) iw_X10 wd_310) <| dr_c (dg_no) <| dr_c (dg_no) <| dr_c (dg_iload_n (k := 2) rfl dX10_unseen_15) <| dr_n
theorem tr_106_1 : dm_AllR (dm_Good dm_tb RX10 cX10_unseen 3 (some .int) false none) 16 [dm_inv 19 17 1 2, dm_no, dm_no, dm_if_eq 22 38, dm_no, dm_no, dm_ald 23 0, dm_getf 26 7 3, dm_no, dm_no, dm_ald 27 0, dm_getf 30 7 0, dm_no, dm_no, dm_ild 31 1, dm_ild 32 2] := dr_c (dg_inv dX10_unseen_16 mo_17 rfl rfl wd_579 wd_361 wd_362 pd_17) <| dr_c (dg_no) <| dr_c (dg_no) <| dr_c (dg_if_eq (by decide) dX10_unseen_19) <| dr_c (dg_no) <| dr_c (dg_no) <| dr_c (dg_aload_n (k := 0) rfl dX10_unseen_22) <| dr_c (dg_getf (T := TX10) (C := RX10) (N := 11) dX10_unseen_23 rfl (by decide) iw_X10 wd_313) <| dr_c (dg_no) <| dr_c (dg_no) <| dr_c (dg_aload_n (k := 0) rfl dX10_unseen_26) <| dr_c (dg_getf (T := TX10) (C := RX10) (N := 11) dX10_unseen_27 rfl (by decide) iw_X10 wd_310) <| dr_c (dg_no) <| dr_c (dg_no) <| dr_c (dg_iload_n (k := 1) rfl dX10_unseen_30) <| dr_c (dg_iload_n (k := 2) rfl dX10_unseen_31) <| dr_n
theorem tr_106_2 : dm_AllR (dm_Good dm_tb RX10 cX10_unseen 3 (some .int) false none) 32 [dm_inv 35 51 3 4, dm_no, dm_no, dm_goto 39, dm_no, dm_no, dm_push 39 (.int (-1)), dm_ret .int] := dr_c (dg_inv dX10_unseen_32 mo_51 rfl rfl wd_584 wd_585 wd_586 pd_51) <| dr_c (dg_no) <| dr_c (dg_no) <| dr_c (dg_goto (by decide) dX10_unseen_35) <| dr_c (dg_no) <| dr_c (dg_no) <| dr_c (dg_iconst (by decide) dX10_unseen_38) <| dr_c (dg_ret dX10_unseen_39) <| dr_n
theorem tk_106 : dm_AllC (dm_Good dm_tb RX10 cX10_unseen 3 (some .int) false none) 0 cd_106 := dc_c (by decide) tr_106_0 <| dc_c (by decide) tr_106_1 <| dc_c (by decide) tr_106_2 <| dc_n
theorem dX10_meets_0 : decode cX10_meets 0 = .ok (.aload_n 0, 1) := by decide +kernel
theorem dX10_meets_1 : decode cX10_meets 1 = .ok (.getfield 10, 3) := by decide +kernel
theorem dX10_meets_4 : decode cX10_meets 4 = .ok (.iload_n 1, 1) := by decide +kernel
theorem dX10_meets_5 : decode cX10_meets 5 = .ok (.invokevirtual 135, 3) := by decide +kernel
theorem dX10_meets_8 : decode cX10_meets 8 = .ok (.ifCond .eq 47, 3) := by decide +kernel
theorem dX10_meets_11 : decode cX10_meets 11 = .ok (.aload_n 0, 1) := by decide +kernel
theorem dX10_meets_12 : decode cX10_meets 12 = .ok (.getfield 10, 3) := by decide +kernel
theorem dX10_meets_15 : decode cX10_meets 15 = .ok (.iload_n 2, 1) := by decide +kernel
theorem dX10_meets_16 : decode cX10_meets 16 = .ok (.invokevirtual 135, 3) := by decide +kernel
theorem dX10_meets_19 : decode cX10_meets 19 = .ok (.ifCond .eq 36, 3) := by decide +kernel
theorem dX10_meets_22 : decode cX10_meets 22 = .ok (.aload_n 0, 1) := by decide +kernel
theorem dX10_meets_23 : decode cX10_meets 23 = .ok (.getfield 10, 3) := by decide +kernel
theorem dX10_meets_26 : decode cX10_meets 26 = .ok (.getfield 63, 3) := by decide +kernel
theorem dX10_meets_29 : decode cX10_meets 29 = .ok (.aload_n 0, 1) := by decide +kernel
theorem dX10_meets_30 : decode cX10_meets 30 = .ok (.getfield 10, 3) := by decide +kernel
theorem dX10_meets_33 : decode cX10_meets 33 = .ok (.iload_n 1, 1) := by decide +kernel
theorem dX10_meets_34 : decode cX10_meets 34 = .ok (.invokevirtual 67, 3) := by decide +kernel
theorem dX10_meets_37 : decode cX10_meets 37 = .ok (.aload_n 0, 1) := by decide +kernel
theorem dX10_meets_38 : decode cX10_meets 38 = .ok (.getfield 10, 3) := by decide +kernel
theorem dX10_meets_41 : decode cX10_meets 41 = .ok (.iload_n 2, 1) := by decide +kernel
theorem dX10_meets_42 : decode cX10_meets 42 = .ok (.invokevirtual 67, 3) := by decide +kernel
theorem dX10_meets_45 : decode cX10_meets 45 = .ok (.invokestatic 142, 3) := by decide +kernel
theorem dX10_meets_48 : decode cX10_meets 48 = .ok (.ifCond .eq 7, 3) := by decide +kernel
theorem dX10_meets_51 : decode cX10_meets 51 = .ok (.iconst 1, 1) := by decide +kernel
theorem dX10_meets_52 : decode cX10_meets 52 = .ok (.goto 4, 3) := by decide +kernel
theorem dX10_meets_55 : decode cX10_meets 55 = .ok (.iconst 0, 1) := by decide +kernel
theorem dX10_meets_56 : decode cX10_meets 56 = .ok (.ireturn, 1) := by decide +kernel
def cd_107 : dm_Code := [[dm_ald 1 0, dm_getf 4 7 0, dm_no, dm_no, dm_ild 5 1, dm_inv 8 17 1 2, dm_no, dm_no, dm_if_eq 11 55, dm_no, dm_no, dm_ald 12 0, dm_getf 15 7 0, dm_no, dm_no, dm_ild 16 2],
  [dm_inv 19 17 1 2, dm_no, dm_no, dm_if_eq 22 55, dm_no, dm_no, dm_ald 23 0, dm_getf 26 7 0, dm_no, dm_no, dm_getf 29 2 0, dm_no, dm_no, dm_ald 30 0, dm_getf 33 7 0, dm_no],
  [dm_no, dm_ild 34 1, dm_inv 37 18 1 2, dm_no, dm_no, dm_ald 38 0, dm_getf 41 7 0, dm_no, dm_no, dm_ild 42 2, dm_inv 45 18 1 2, dm_no, dm_no, dm_ins 48 69 3, dm_no, dm_no],
  [dm_if_eq 51 55, dm_no, dm_no, dm_push 52 (.int 1), dm_goto 56, dm_no, dm_no, dm_push 56 (.int 0), dm_ret .boolean]]
theorem tr_107_0 : dm_AllR (dm_Good dm_tb RX10 cX10_meets 3 (some .boolean) false none) 0 [dm_ald 1 0, dm_getf 4 7 0, dm_no, dm_no, dm_ild 5 1, dm_inv 8 17 1 2, dm_no, dm_no, dm_if_eq 11 55, dm_no, dm_no, dm_ald 12 0, dm_getf 15 7 0, dm_no, dm_no, dm_ild 16 2] := dr_c (dg_aload_n (k := 0) rfl dX10_meets_0) <| dr_c (dg_getf (T := TX10) (C := RX10) (N := 11) dX10_meets_1 rfl (by decide) iw_X10 wd_310) <| dr_c (dg_no) <| dr_c (dg_no) <| dr_c (dg_iload_n (k := 1) rfl dX10_meets_4) <| dr_c (dg_inv dX10_meets_5 mo_17 rfl rfl wd_579 wd_361 wd_362 pd_17) <| dr_c (dg_no) <| dr_c (dg_no) <| dr_c (dg_if_eq (by decide) dX10_meets_8) <| dr_c (dg_no) <| dr_c (dg_no) <| dr_c (dg_aload_n (k := 0) rfl dX10_meets_11) <| dr_c (dg_getf (T := TX10) (C := RX10) (N := 11) dX10_meets_12 rfl (by decide) iw_X10 wd_310) <| dr_c (dg_no) <| dr_c (dg_no) <| dr_c (dg_iload_n (k := 2) rfl dX10_meets_15) <| dr_n
theorem tr_107_1 : dm_AllR (dm_Good dm_tb RX10 cX10_meets 3 (some .boolean) false none) 16 [dm_inv 19 17 1 2, dm_no, dm_no, dm_if_eq 22 55, dm_no, dm_no, dm_ald 23 0, dm_getf 26 7 0, dm_no, dm_no, dm_getf 29 2 0, dm_no, dm_no, dm_ald 30 0, dm_getf 33 7 0, dm_no] := dr_c (dg_inv dX10_meets_16 mo_17 rfl rfl wd_579 wd_361 wd_362 pd_17) <| dr_c (dg_no) <| dr_c (dg_no) <| dr_c (dg_if_eq (by decide) dX10_meets_19) <| dr_c (dg_no) <| dr_c (dg_no) <| dr_c (dg_aload_n (k := 0) rfl dX10_meets_22) <| dr_c (dg_getf (T := TX10) (C := RX10) (N := 11) dX10_meets_23 rfl (by decide) iw_X10 wd_310) <| dr_c (dg_no) <| dr_c (dg_no) <| dr_c (dg_getf (T := TX2) (C := RX2) (N := 10) dX10_meets_26 rfl (by decide) iw_X2 wd_131) <| dr_c (dg_no) <| dr_c (dg_no) <| dr_c (dg_aload_n (k := 0) rfl dX10_meets_29) <| dr_c (dg_getf (T := TX10) (C := RX10) (N := 11) dX10_meets_30 rfl (by decide) iw_X10 wd_310) <| dr_c (dg_no) <| dr_n
theorem tr_107_2 : dm_AllR (dm_Good dm_tb RX10 cX10_meets 3 (some .boolean) false none) 32 [dm_no, dm_ild 34 1, dm_inv 37 18 1 2, dm_no, dm_no, dm_ald 38 0, dm_getf 41 7 0, dm_no, dm_no, dm_ild 42 2, dm_inv 45 18 1 2, dm_no, dm_no, dm_ins 48 69 3, dm_no, dm_no] := dr_c (dg_no) <| dr_c (dg_iload_n (k := 1) rfl dX10_meets_33) <| dr_c (dg_inv dX10_meets_34 mo_18 rfl rfl wd_384 wd_373 wd_374 pd_18) <| dr_c (dg_no) <| dr_c (dg_no) <| dr_c (dg_aload_n (k := 0) rfl dX10_meets_37) <| dr_c (dg_getf (T := TX10) (C := RX10) (N := 11) dX10_meets_38 rfl (by decide) iw_X10 wd_310) <| dr_c (dg_no) <| dr_c (dg_no) <| dr_c (dg_iload_n (k := 2) rfl dX10_meets_41) <| dr_c (dg_inv dX10_meets_42 mo_18 rfl rfl wd_384 wd_373 wd_374 pd_18) <| dr_c (dg_no) <| dr_c (dg_no) <| dr_c (dg_ins dX10_meets_45 mo_69 wd_613 wd_614 pd_69) <| dr_c (dg_no) <| dr_c (dg_no) <| dr_n
theorem tr_107_3 : dm_AllR (dm_Good dm_tb RX10 cX10_meets 3 (some .boolean) false none) 48 [dm_if_eq 51 55, dm_no, dm_no, dm_push 52 (.int 1), dm_goto 56, dm_no, dm_no, dm_push 56 (.int 0), dm_ret .boolean] := dr_c (dg_if_eq (by decide) dX10_meets_48) <| dr_c (dg_no) <| dr_c (dg_no) <| dr_c (dg_iconst (by decide) dX10_meets_51) <| dr_c (dg_goto (by decide) dX10_meets_52) <| dr_c (dg_no) <| dr_c (dg_no) <| dr_c (dg_iconst (by decide) dX10_meets_55) <| dr_c (dg_ret dX10_meets_56) <| dr_n
theorem tk_107 : dm_AllC (dm_Good dm_tb RX10 cX10_meets 3 (some .boolean) false none) 0 cd_107 := dc_c (by decide) tr_107_0 <| dc_c (by decide) tr_107_1 <| dc_c (by decide) tr_107_2 <| dc_c (by decide) tr_107_3 <| dc_n
theorem dX10_height_0 : decode cX10_height 0 = .ok (.aload_n 0, 1) := by decide +kernel
theorem dX10_height_1 : decode cX10_height 1 = .ok (.getfield 10, 3) := by decide +kernel
theorem dX10_height_4 : decode cX10_height 4 = .ok (.iload_n 1, 1) := by decide +kernel
theorem dX10_height_5 : decode cX10_height 5 = .ok (.invokevirtual 135, 3) := by decide +kernel
theorem dX10_height_8 : decode cX10_height 8 = .ok (.ifCond .eq 12, 3) := by decide +kernel
theorem dX10_height_11 : decode cX10_height 11 = .ok (.lload_n 2, 1) := by decide +kernel
theorem dX10_height_12 : decode cX10_height 12 = .ok (.iload 4, 2) := by decide +kernel
theorem dX10_height_14 : decode cX10_height 14 = .ok (.invokestatic 148, 3) := by decide +kernel
theorem dX10_height_17 : decode cX10_height 17 = .ok (.ifCond .ne 13, 3) := by decide +kernel
theorem dX10_height_20 : decode cX10_height 20 = .ok (.new 152, 3) := by decide +kernel
theorem dX10_height_23 : decode cX10_height 23 = .ok (.dup, 1) := by decide +kernel
theorem dX10_height_24 : decode cX10_height 24 = .ok (.ldc 154, 2) := by decide +kernel
theorem dX10_height_26 : decode cX10_height 26 = .ok (.invokespecial 156, 3) := by decide +kernel
theorem dX10_height_29 : decode cX10_height 29 = .ok (.athrow, 1) := by decide +kernel
theorem dX10_height_30 : decode cX10_height 30 = .ok (.aload_n 0, 1) := by decide +kernel
theorem dX10_height_31 : decode cX10_height 31 = .ok (.getfield 10, 3) := by decide +kernel
theorem dX10_height_34 : decode cX10_height 34 = .ok (.getfield 63, 3) := by decide +kernel
theorem dX10_height_37 : decode cX10_height 37 = .ok (.aload_n 0, 1) := by decide +kernel
theorem dX10_height_38 : decode cX10_height 38 = .ok (.getfield 10, 3) := by decide +kernel
theorem dX10_height_41 : decode cX10_height 41 = .ok (.iload_n 1, 1) := by decide +kernel
theorem dX10_height_42 : decode cX10_height 42 = .ok (.invokevirtual 81, 3) := by decide +kernel
theorem dX10_height_45 : decode cX10_height 45 = .ok (.lload_n 2, 1) := by decide +kernel
theorem dX10_height_46 : decode cX10_height 46 = .ok (.iload 4, 2) := by decide +kernel
theorem dX10_height_48 : decode cX10_height 48 = .ok (.invokevirtual 159, 3) := by decide +kernel
theorem dX10_height_51 : decode cX10_height 51 = .ok (.ireturn, 1) := by decide +kernel
def cd_108 : dm_Code := [[dm_ald 1 0, dm_getf 4 7 0, dm_no, dm_no, dm_ild 5 1, dm_inv 8 17 1 2, dm_no, dm_no, dm_if_eq 11 20, dm_no, dm_no, dm_lld 12 2, dm_ild 14 4, dm_no, dm_ins 17 133 2, dm_no],
  [dm_no, dm_if_ne 20 30, dm_no, dm_no, dm_no, dm_no, dm_no, dm_dup 24, dm_no, dm_no, dm_no, dm_no, dm_no, dm_no, dm_ald 31 0, dm_getf 34 7 0],
  [dm_no, dm_no, dm_getf 37 2 0, dm_no, dm_no, dm_ald 38 0, dm_getf 41 7 0, dm_no, dm_no, dm_ild 42 1, dm_inv 45 19 1 2, dm_no, dm_no, dm_lld 46 2, dm_ild 48 4, dm_no],
  [dm_inv 51 87 3 6, dm_no, dm_no, dm_ret .int]]
theorem tr_108_0 : dm_AllR (dm_Good dm_tb RX10 cX10_height 5 (some .int) false none) 0 [dm_ald 1 0, dm_getf 4 7 0, dm_no, dm_no, dm_ild 5 1, dm_inv 8 17 1 2, dm_no, dm_no, dm_if_eq 11 20, dm_no, dm_no, dm_lld 12 2, dm_ild 14 4, dm_no, dm_ins 17 133 2, dm_no] := dr_c (dg_aload_n (k := 0) rfl dX10_height_0) <| dr_c (dg_getf (T := TX10) (C := RX10) (N := 11) dX10_height_1 rfl (by decide) iw_X10 wd_310) <| dr_c (dg_no) <| dr_c (dg_no) <| dr_c (dg_iload_n (k := 1) rfl dX10_height_4) <| dr_c (dg_inv dX10_height_5 mo_17 rfl rfl wd_579 wd_361 wd_362 pd_17) <| dr_c (dg_no) <| dr_c (dg_no) <| dr_c (dg_if_eq (by decide) dX10_height_8) <| dr_c (dg_no) <| dr_c (dg_no) <| dr_c (dg_lload_n (k := 2) rfl dX10_height_11) <| dr_c (dg_iload dX10_height_12) <| dr_c (dg_no) <| dr_c (dg_ins dX10_height_14 mo_133 wd_688 wd_689 pd_133) <| dr_c (dg_no) <| dr_n
theorem tr_108_1 : dm_AllR (dm_Good dm_tb RX10 cX10_height 5 (some .int) false none) 16 [dm_no, dm_if_ne 20 30, dm_no, dm_no, dm_no, dm_no, dm_no, dm_dup 24, dm_no, dm_no, dm_no, dm_no, dm_no, dm_no, dm_ald 31 0, dm_getf 34 7 0] := dr_c (dg_no) <| dr_c (dg_if_ne (by decide) dX10_height_17) <| dr_c (dg_no) <| dr_c (dg_no) <| dr_c (dg_no) <| dr_c (dg_no) <| dr_c (dg_no) <| dr_c (dg_dup dX10_height_23) <| dr_c (dg_no) <| dr_c (dg_no) <| dr_c (dg_no) <| dr_c (dg_no) <| dr_c (dg_no) <| dr_c (dg_no) <| dr_c (dg_aload_n (k := 0) rfl dX10_height_30) <| dr_c (dg_getf (T := TX10) (C := RX10) (N := 11) dX10_height_31 rfl (by decide) iw_X10 wd_310) <| dr_n
theorem tr_108_2 : dm_AllR (dm_Good dm_tb RX10 cX10_height 5 (some .int) false none) 32 [dm_no, dm_no, dm_getf 37 2 0, dm_no, dm_no, dm_ald 38 0, dm_getf 41 7 0, dm_no, dm_no, dm_ild 42 1, dm_inv 45 19 1 2, dm_no, dm_no, dm_lld 46 2, dm_ild 48 4, dm_no] := dr_c (dg_no) <| dr_c (dg_no) <| dr_c (dg_getf (T := TX2) (C := RX2) (N := 10) dX10_height_34 rfl (by decide) iw_X2 wd_131) <| dr_c (dg_no) <| dr_c (dg_no) <| dr_c (dg_aload_n (k := 0) rfl dX10_height_37) <| dr_c (dg_getf (T := TX10) (C := RX10) (N := 11) dX10_height_38 rfl (by decide) iw_X10 wd_310) <| dr_c (dg_no) <| dr_c (dg_no) <| dr_c (dg_iload_n (k := 1) rfl dX10_height_41) <| dr_c (dg_inv dX10_height_42 mo_19 rfl rfl wd_405 wd_406 wd_407 pd_19) <| dr_c (dg_no) <| dr_c (dg_no) <| dr_c (dg_lload_n (k := 2) rfl dX10_height_45) <| dr_c (dg_iload dX10_height_46) <| dr_c (dg_no) <| dr_n
theorem tr_108_3 : dm_AllR (dm_Good dm_tb RX10 cX10_height 5 (some .int) false none) 48 [dm_inv 51 87 3 6, dm_no, dm_no, dm_ret .int] := dr_c (dg_inv dX10_height_48 mo_87 rfl rfl wd_695 wd_696 wd_697 pd_87) <| dr_c (dg_no) <| dr_c (dg_no) <| dr_c (dg_ret dX10_height_51) <| dr_n
theorem tk_108 : dm_AllC (dm_Good dm_tb RX10 cX10_height 5 (some .int) false none) 0 cd_108 := dc_c (by decide) tr_108_0 <| dc_c (by decide) tr_108_1 <| dc_c (by decide) tr_108_2 <| dc_c (by decide) tr_108_3 <| dc_n
theorem dX10_owns_0 : decode cX10_owns 0 = .ok (.aload_n 0, 1) := by decide +kernel
theorem dX10_owns_1 : decode cX10_owns 1 = .ok (.getfield 10, 3) := by decide +kernel
theorem dX10_owns_4 : decode cX10_owns 4 = .ok (.iload_n 1, 1) := by decide +kernel
theorem dX10_owns_5 : decode cX10_owns 5 = .ok (.invokevirtual 135, 3) := by decide +kernel
theorem dX10_owns_8 : decode cX10_owns 8 = .ok (.ifCond .eq 12, 3) := by decide +kernel
theorem dX10_owns_11 : decode cX10_owns 11 = .ok (.lload_n 2, 1) := by decide +kernel
theorem dX10_owns_12 : decode cX10_owns 12 = .ok (.iload 4, 2) := by decide +kernel
theorem dX10_owns_14 : decode cX10_owns 14 = .ok (.invokestatic 148, 3) := by decide +kernel
theorem dX10_owns_17 : decode cX10_owns 17 = .ok (.ifCond .ne 13, 3) := by decide +kernel
theorem dX10_owns_20 : decode cX10_owns 20 = .ok (.new 152, 3) := by decide +kernel
theorem dX10_owns_23 : decode cX10_owns 23 = .ok (.dup, 1) := by decide +kernel
theorem dX10_owns_24 : decode cX10_owns 24 = .ok (.ldc 154, 2) := by decide +kernel
theorem dX10_owns_26 : decode cX10_owns 26 = .ok (.invokespecial 156, 3) := by decide +kernel
theorem dX10_owns_29 : decode cX10_owns 29 = .ok (.athrow, 1) := by decide +kernel
theorem dX10_owns_30 : decode cX10_owns 30 = .ok (.aload_n 0, 1) := by decide +kernel
theorem dX10_owns_31 : decode cX10_owns 31 = .ok (.getfield 10, 3) := by decide +kernel
theorem dX10_owns_34 : decode cX10_owns 34 = .ok (.getfield 63, 3) := by decide +kernel
theorem dX10_owns_37 : decode cX10_owns 37 = .ok (.aload_n 0, 1) := by decide +kernel
theorem dX10_owns_38 : decode cX10_owns 38 = .ok (.getfield 10, 3) := by decide +kernel
theorem dX10_owns_41 : decode cX10_owns 41 = .ok (.iload_n 1, 1) := by decide +kernel
theorem dX10_owns_42 : decode cX10_owns 42 = .ok (.invokevirtual 67, 3) := by decide +kernel
theorem dX10_owns_45 : decode cX10_owns 45 = .ok (.lload_n 2, 1) := by decide +kernel
theorem dX10_owns_46 : decode cX10_owns 46 = .ok (.iload 4, 2) := by decide +kernel
theorem dX10_owns_48 : decode cX10_owns 48 = .ok (.invokevirtual 159, 3) := by decide +kernel
theorem dX10_owns_51 : decode cX10_owns 51 = .ok (.iconst 1, 1) := by decide +kernel
theorem dX10_owns_52 : decode cX10_owns 52 = .ok (.if_icmp .ne 7, 3) := by decide +kernel
theorem dX10_owns_55 : decode cX10_owns 55 = .ok (.iconst 1, 1) := by decide +kernel
theorem dX10_owns_56 : decode cX10_owns 56 = .ok (.goto 4, 3) := by decide +kernel
theorem dX10_owns_59 : decode cX10_owns 59 = .ok (.iconst 0, 1) := by decide +kernel
theorem dX10_owns_60 : decode cX10_owns 60 = .ok (.ireturn, 1) := by decide +kernel
def cd_109 : dm_Code := [[dm_ald 1 0, dm_getf 4 7 0, dm_no, dm_no, dm_ild 5 1, dm_inv 8 17 1 2, dm_no, dm_no, dm_if_eq 11 20, dm_no, dm_no, dm_lld 12 2, dm_ild 14 4, dm_no, dm_ins 17 133 2, dm_no],
  [dm_no, dm_if_ne 20 30, dm_no, dm_no, dm_no, dm_no, dm_no, dm_dup 24, dm_no, dm_no, dm_no, dm_no, dm_no, dm_no, dm_ald 31 0, dm_getf 34 7 0],
  [dm_no, dm_no, dm_getf 37 2 0, dm_no, dm_no, dm_ald 38 0, dm_getf 41 7 0, dm_no, dm_no, dm_ild 42 1, dm_inv 45 18 1 2, dm_no, dm_no, dm_lld 46 2, dm_ild 48 4, dm_no],
  [dm_inv 51 87 3 6, dm_no, dm_no, dm_push 52 (.int 1), dm_ic_ne 55 59, dm_no, dm_no, dm_push 56 (.int 1), dm_goto 60, dm_no, dm_no, dm_push 60 (.int 0), dm_ret .boolean]]
theorem tr_109_0 : dm_AllR (dm_Good dm_tb RX10 cX10_owns 5 (some .boolean) false none) 0 [dm_ald 1 0, dm_getf 4 7 0, dm_no, dm_no, dm_ild 5 1, dm_inv 8 17 1 2, dm_no, dm_no, dm_if_eq 11 20, dm_no, dm_no, dm_lld 12 2, dm_ild 14 4, dm_no, dm_ins 17 133 2, dm_no] := dr_c (dg_aload_n (k := 0) rfl dX10_owns_0) <| dr_c (dg_getf (T := TX10) (C := RX10) (N := 11) dX10_owns_1 rfl (by decide) iw_X10 wd_310) <| dr_c (dg_no) <| dr_c (dg_no) <| dr_c (dg_iload_n (k := 1) rfl dX10_owns_4) <| dr_c (dg_inv dX10_owns_5 mo_17 rfl rfl wd_579 wd_361 wd_362 pd_17) <| dr_c (dg_no) <| dr_c (dg_no) <| dr_c (dg_if_eq (by decide) dX10_owns_8) <| dr_c (dg_no) <| dr_c (dg_no) <| dr_c (dg_lload_n (k := 2) rfl dX10_owns_11) <| dr_c (dg_iload dX10_owns_12) <| dr_c (dg_no) <| dr_c (dg_ins dX10_owns_14 mo_133 wd_688 wd_689 pd_133) <| dr_c (dg_no) <| dr_n
theorem tr_109_1 : dm_AllR (dm_Good dm_tb RX10 cX10_owns 5 (some .boolean) false none) 16 [dm_no, dm_if_ne 20 30, dm_no, dm_no, dm_no, dm_no, dm_no, dm_dup 24, dm_no, dm_no, dm_no, dm_no, dm_no, dm_no, dm_ald 31 0, dm_getf 34 7 0] := dr_c (dg_no) <| dr_c (dg_if_ne (by decide) dX10_owns_17) <| dr_c (dg_no) <| dr_c (dg_no) <| dr_c (dg_no) <| dr_c (dg_no) <| dr_c (dg_no) <| dr_c (dg_dup dX10_owns_23) <| dr_c (dg_no) <| dr_c (dg_no) <| dr_c (dg_no) <| dr_c (dg_no) <| dr_c (dg_no) <| dr_c (dg_no) <| dr_c (dg_aload_n (k := 0) rfl dX10_owns_30) <| dr_c (dg_getf (T := TX10) (C := RX10) (N := 11) dX10_owns_31 rfl (by decide) iw_X10 wd_310) <| dr_n
theorem tr_109_2 : dm_AllR (dm_Good dm_tb RX10 cX10_owns 5 (some .boolean) false none) 32 [dm_no, dm_no, dm_getf 37 2 0, dm_no, dm_no, dm_ald 38 0, dm_getf 41 7 0, dm_no, dm_no, dm_ild 42 1, dm_inv 45 18 1 2, dm_no, dm_no, dm_lld 46 2, dm_ild 48 4, dm_no] := dr_c (dg_no) <| dr_c (dg_no) <| dr_c (dg_getf (T := TX2) (C := RX2) (N := 10) dX10_owns_34 rfl (by decide) iw_X2 wd_131) <| dr_c (dg_no) <| dr_c (dg_no) <| dr_c (dg_aload_n (k := 0) rfl dX10_owns_37) <| dr_c (dg_getf (T := TX10) (C := RX10) (N := 11) dX10_owns_38 rfl (by decide) iw_X10 wd_310) <| dr_c (dg_no) <| dr_c (dg_no) <| dr_c (dg_iload_n (k := 1) rfl dX10_owns_41) <| dr_c (dg_inv dX10_owns_42 mo_18 rfl rfl wd_384 wd_373 wd_374 pd_18) <| dr_c (dg_no) <| dr_c (dg_no) <| dr_c (dg_lload_n (k := 2) rfl dX10_owns_45) <| dr_c (dg_iload dX10_owns_46) <| dr_c (dg_no) <| dr_n
theorem tr_109_3 : dm_AllR (dm_Good dm_tb RX10 cX10_owns 5 (some .boolean) false none) 48 [dm_inv 51 87 3 6, dm_no, dm_no, dm_push 52 (.int 1), dm_ic_ne 55 59, dm_no, dm_no, dm_push 56 (.int 1), dm_goto 60, dm_no, dm_no, dm_push 60 (.int 0), dm_ret .boolean] := dr_c (dg_inv dX10_owns_48 mo_87 rfl rfl wd_695 wd_696 wd_697 pd_87) <| dr_c (dg_no) <| dr_c (dg_no) <| dr_c (dg_iconst (by decide) dX10_owns_51) <| dr_c (dg_ic_ne (by decide) dX10_owns_52) <| dr_c (dg_no) <| dr_c (dg_no) <| dr_c (dg_iconst (by decide) dX10_owns_55) <| dr_c (dg_goto (by decide) dX10_owns_56) <| dr_c (dg_no) <| dr_c (dg_no) <| dr_c (dg_iconst (by decide) dX10_owns_59) <| dr_c (dg_ret dX10_owns_60) <| dr_n
theorem tk_109 : dm_AllC (dm_Good dm_tb RX10 cX10_owns 5 (some .boolean) false none) 0 cd_109 := dc_c (by decide) tr_109_0 <| dc_c (by decide) tr_109_1 <| dc_c (by decide) tr_109_2 <| dc_c (by decide) tr_109_3 <| dc_n
theorem dX10_stamp_0 : decode cX10_stamp 0 = .ok (.aload_n 0, 1) := by decide +kernel
theorem dX10_stamp_1 : decode cX10_stamp 1 = .ok (.getfield 10, 3) := by decide +kernel
theorem dX10_stamp_4 : decode cX10_stamp 4 = .ok (.iload_n 1, 1) := by decide +kernel
theorem dX10_stamp_5 : decode cX10_stamp 5 = .ok (.invokevirtual 135, 3) := by decide +kernel
theorem dX10_stamp_8 : decode cX10_stamp 8 = .ok (.ifCond .ne 5, 3) := by decide +kernel
theorem dX10_stamp_11 : decode cX10_stamp 11 = .ok (.iconst (-1), 1) := by decide +kernel
theorem dX10_stamp_12 : decode cX10_stamp 12 = .ok (.ireturn, 1) := by decide +kernel
theorem dX10_stamp_13 : decode cX10_stamp 13 = .ok (.iload_n 2, 1) := by decide +kernel
theorem dX10_stamp_14 : decode cX10_stamp 14 = .ok (.tableswitch 214 0 10 #[58, 75, 94, 113, 122, 131, 140, 146, 165, 184, 201], 58) := by decide +kernel
theorem dX10_stamp_72 : decode cX10_stamp 72 = .ok (.aload_n 0, 1) := by decide +kernel
theorem dX10_stamp_73 : decode cX10_stamp 73 = .ok (.getfield 10, 3) := by decide +kernel
theorem dX10_stamp_76 : decode cX10_stamp 76 = .ok (.iload_n 1, 1) := by decide +kernel
theorem dX10_stamp_77 : decode cX10_stamp 77 = .ok (.invokevirtual 107, 3) := by decide +kernel
theorem dX10_stamp_80 : decode cX10_stamp 80 = .ok (.ifCond .eq 7, 3) := by decide +kernel
theorem dX10_stamp_83 : decode cX10_stamp 83 = .ok (.iconst 1, 1) := by decide +kernel
theorem dX10_stamp_84 : decode cX10_stamp 84 = .ok (.goto 4, 3) := by decide +kernel
theorem dX10_stamp_87 : decode cX10_stamp 87 = .ok (.iconst 0, 1) := by decide +kernel
theorem dX10_stamp_88 : decode cX10_stamp 88 = .ok (.ireturn, 1) := by decide +kernel
theorem dX10_stamp_89 : decode cX10_stamp 89 = .ok (.aload_n 0, 1) := by decide +kernel
theorem dX10_stamp_90 : decode cX10_stamp 90 = .ok (.getfield 10, 3) := by decide +kernel
theorem dX10_stamp_93 : decode cX10_stamp 93 = .ok (.getfield 63, 3) := by decide +kernel
theorem dX10_stamp_96 : decode cX10_stamp 96 = .ok (.aload_n 0, 1) := by decide +kernel
theorem dX10_stamp_97 : decode cX10_stamp 97 = .ok (.getfield 10, 3) := by decide +kernel
theorem dX10_stamp_100 : decode cX10_stamp 100 = .ok (.iload_n 1, 1) := by decide +kernel
theorem dX10_stamp_101 : decode cX10_stamp 101 = .ok (.invokevirtual 67, 3) := by decide +kernel
theorem dX10_stamp_104 : decode cX10_stamp 104 = .ok (.invokevirtual 165, 3) := by decide +kernel
theorem dX10_stamp_107 : decode cX10_stamp 107 = .ok (.ireturn, 1) := by decide +kernel
theorem dX10_stamp_108 : decode cX10_stamp 108 = .ok (.aload_n 0, 1) := by decide +kernel
theorem dX10_stamp_109 : decode cX10_stamp 109 = .ok (.getfield 10, 3) := by decide +kernel
theorem dX10_stamp_112 : decode cX10_stamp 112 = .ok (.getfield 63, 3) := by decide +kernel
theorem dX10_stamp_115 : decode cX10_stamp 115 = .ok (.aload_n 0, 1) := by decide +kernel
theorem dX10_stamp_116 : decode cX10_stamp 116 = .ok (.getfield 10, 3) := by decide +kernel
theorem dX10_stamp_119 : decode cX10_stamp 119 = .ok (.iload_n 1, 1) := by decide +kernel
theorem dX10_stamp_120 : decode cX10_stamp 120 = .ok (.invokevirtual 81, 3) := by decide +kernel
theorem dX10_stamp_123 : decode cX10_stamp 123 = .ok (.invokevirtual 165, 3) := by decide +kernel
theorem dX10_stamp_126 : decode cX10_stamp 126 = .ok (.ireturn, 1) := by decide +kernel
theorem dX10_stamp_127 : decode cX10_stamp 127 = .ok (.aload_n 0, 1) := by decide +kernel
theorem dX10_stamp_128 : decode cX10_stamp 128 = .ok (.getfield 10, 3) := by decide +kernel
theorem dX10_stamp_131 : decode cX10_stamp 131 = .ok (.iload_n 1, 1) := by decide +kernel
theorem dX10_stamp_132 : decode cX10_stamp 132 = .ok (.invokevirtual 168, 3) := by decide +kernel
theorem dX10_stamp_135 : decode cX10_stamp 135 = .ok (.ireturn, 1) := by decide +kernel
theorem dX10_stamp_136 : decode cX10_stamp 136 = .ok (.aload_n 0, 1) := by decide +kernel
theorem dX10_stamp_137 : decode cX10_stamp 137 = .ok (.getfield 10, 3) := by decide +kernel
theorem dX10_stamp_140 : decode cX10_stamp 140 = .ok (.iload_n 1, 1) := by decide +kernel
theorem dX10_stamp_141 : decode cX10_stamp 141 = .ok (.invokevirtual 171, 3) := by decide +kernel
theorem dX10_stamp_144 : decode cX10_stamp 144 = .ok (.ireturn, 1) := by decide +kernel
theorem dX10_stamp_145 : decode cX10_stamp 145 = .ok (.aload_n 0, 1) := by decide +kernel
theorem dX10_stamp_146 : decode cX10_stamp 146 = .ok (.getfield 10, 3) := by decide +kernel
theorem dX10_stamp_149 : decode cX10_stamp 149 = .ok (.iload_n 1, 1) := by decide +kernel
theorem dX10_stamp_150 : decode cX10_stamp 150 = .ok (.invokevirtual 174, 3) := by decide +kernel
theorem dX10_stamp_153 : decode cX10_stamp 153 = .ok (.ireturn, 1) := by decide +kernel
theorem dX10_stamp_154 : decode cX10_stamp 154 = .ok (.aload_n 0, 1) := by decide +kernel
theorem dX10_stamp_155 : decode cX10_stamp 155 = .ok (.iload_n 1, 1) := by decide +kernel
theorem dX10_stamp_156 : decode cX10_stamp 156 = .ok (.invokevirtual 177, 3) := by decide +kernel
theorem dX10_stamp_159 : decode cX10_stamp 159 = .ok (.ireturn, 1) := by decide +kernel
theorem dX10_stamp_160 : decode cX10_stamp 160 = .ok (.aload_n 0, 1) := by decide +kernel
theorem dX10_stamp_161 : decode cX10_stamp 161 = .ok (.getfield 10, 3) := by decide +kernel
theorem dX10_stamp_164 : decode cX10_stamp 164 = .ok (.getfield 63, 3) := by decide +kernel
theorem dX10_stamp_167 : decode cX10_stamp 167 = .ok (.aload_n 0, 1) := by decide +kernel
theorem dX10_stamp_168 : decode cX10_stamp 168 = .ok (.getfield 10, 3) := by decide +kernel
theorem dX10_stamp_171 : decode cX10_stamp 171 = .ok (.iload_n 1, 1) := by decide +kernel
theorem dX10_stamp_172 : decode cX10_stamp 172 = .ok (.invokevirtual 81, 3) := by decide +kernel
theorem dX10_stamp_175 : decode cX10_stamp 175 = .ok (.invokevirtual 180, 3) := by decide +kernel
theorem dX10_stamp_178 : decode cX10_stamp 178 = .ok (.ireturn, 1) := by decide +kernel
theorem dX10_stamp_179 : decode cX10_stamp 179 = .ok (.aload_n 0, 1) := by decide +kernel
theorem dX10_stamp_180 : decode cX10_stamp 180 = .ok (.getfield 10, 3) := by decide +kernel
theorem dX10_stamp_183 : decode cX10_stamp 183 = .ok (.getfield 63, 3) := by decide +kernel
theorem dX10_stamp_186 : decode cX10_stamp 186 = .ok (.aload_n 0, 1) := by decide +kernel
theorem dX10_stamp_187 : decode cX10_stamp 187 = .ok (.getfield 10, 3) := by decide +kernel
theorem dX10_stamp_190 : decode cX10_stamp 190 = .ok (.iload_n 1, 1) := by decide +kernel
theorem dX10_stamp_191 : decode cX10_stamp 191 = .ok (.invokevirtual 81, 3) := by decide +kernel
theorem dX10_stamp_194 : decode cX10_stamp 194 = .ok (.invokevirtual 183, 3) := by decide +kernel
theorem dX10_stamp_197 : decode cX10_stamp 197 = .ok (.ireturn, 1) := by decide +kernel
theorem dX10_stamp_198 : decode cX10_stamp 198 = .ok (.aload_n 0, 1) := by decide +kernel
theorem dX10_stamp_199 : decode cX10_stamp 199 = .ok (.getfield 10, 3) := by decide +kernel
theorem dX10_stamp_202 : decode cX10_stamp 202 = .ok (.iload_n 1, 1) := by decide +kernel
theorem dX10_stamp_203 : decode cX10_stamp 203 = .ok (.invokevirtual 125, 3) := by decide +kernel
theorem dX10_stamp_206 : decode cX10_stamp 206 = .ok (.ifCond .eq 7, 3) := by decide +kernel
theorem dX10_stamp_209 : decode cX10_stamp 209 = .ok (.iconst 1, 1) := by decide +kernel
theorem dX10_stamp_210 : decode cX10_stamp 210 = .ok (.goto 4, 3) := by decide +kernel
theorem dX10_stamp_213 : decode cX10_stamp 213 = .ok (.iconst 0, 1) := by decide +kernel
theorem dX10_stamp_214 : decode cX10_stamp 214 = .ok (.ireturn, 1) := by decide +kernel
theorem dX10_stamp_215 : decode cX10_stamp 215 = .ok (.aload_n 0, 1) := by decide +kernel
theorem dX10_stamp_216 : decode cX10_stamp 216 = .ok (.getfield 29, 3) := by decide +kernel
theorem dX10_stamp_219 : decode cX10_stamp 219 = .ok (.aload_n 0, 1) := by decide +kernel
theorem dX10_stamp_220 : decode cX10_stamp 220 = .ok (.getfield 10, 3) := by decide +kernel
theorem dX10_stamp_223 : decode cX10_stamp 223 = .ok (.iload_n 1, 1) := by decide +kernel
theorem dX10_stamp_224 : decode cX10_stamp 224 = .ok (.invokevirtual 186, 3) := by decide +kernel
theorem dX10_stamp_227 : decode cX10_stamp 227 = .ok (.ireturn, 1) := by decide +kernel
theorem dX10_stamp_228 : decode cX10_stamp 228 = .ok (.iconst (-1), 1) := by decide +kernel
theorem dX10_stamp_229 : decode cX10_stamp 229 = .ok (.ireturn, 1) := by decide +kernel
def cd_110 : dm_Code := [[dm_ald 1 0, dm_getf 4 7 0, dm_no, dm_no, dm_ild 5 1, dm_inv 8 17 1 2, dm_no, dm_no, dm_if_ne 11 13, dm_no, dm_no, dm_push 12 (.int (-1)), dm_ret .int, dm_ild 14 2, dm_tsw 0 10 228 [72, 89, 108, 127, 136, 145, 154, 160, 179, 198, 215], dm_no],
  [dm_no, dm_no, dm_no, dm_no, dm_no, dm_no, dm_no, dm_no, dm_no, dm_no, dm_no, dm_no, dm_no, dm_no, dm_no, dm_no],
  [dm_no, dm_no, dm_no, dm_no, dm_no, dm_no, dm_no, dm_no, dm_no, dm_no, dm_no, dm_no, dm_no, dm_no, dm_no, dm_no],
  [dm_no, dm_no, dm_no, dm_no, dm_no, dm_no, dm_no, dm_no, dm_no, dm_no, dm_no, dm_no, dm_no, dm_no, dm_no, dm_no],
  [dm_no, dm_no, dm_no, dm_no, dm_no, dm_no, dm_no, dm_no, dm_ald 73 0, dm_getf 76 7 0, dm_no, dm_no, dm_ild 77 1, dm_inv 80 26 1 2, dm_no, dm_no],
  [dm_if_eq 83 87, dm_no, dm_no, dm_push 84 (.int 1), dm_goto 88, dm_no, dm_no, dm_push 88 (.int 0), dm_ret .int, dm_ald 90 0, dm_getf 93 7 0, dm_no, dm_no, dm_getf 96 2 0, dm_no, dm_no],
  [dm_ald 97 0, dm_getf 100 7 0, dm_no, dm_no, dm_ild 101 1, dm_inv 104 18 1 2, dm_no, dm_no, dm_inv 107 84 1 6, dm_no, dm_no, dm_ret .int, dm_ald 109 0, dm_getf 112 7 0, dm_no, dm_no],
  [dm_getf 115 2 0, dm_no, dm_no, dm_ald 116 0, dm_getf 119 7 0, dm_no, dm_no, dm_ild 120 1, dm_inv 123 19 1 2, dm_no, dm_no, dm_inv 126 84 1 6, dm_no, dm_no, dm_ret .int, dm_ald 128 0],
  [dm_getf 131 7 0, dm_no, dm_no, dm_ild 132 1, dm_inv 135 20 1 2, dm_no, dm_no, dm_ret .int, dm_ald 137 0, dm_getf 140 7 0, dm_no, dm_no, dm_ild 141 1, dm_inv 144 21 1 2, dm_no, dm_no],
  [dm_ret .int, dm_ald 146 0, dm_getf 149 7 0, dm_no, dm_no, dm_ild 150 1, dm_inv 153 22 1 2, dm_no, dm_no, dm_ret .int, dm_ald 155 0, dm_ild 156 1, dm_inv 159 132 1 7, dm_no, dm_no, dm_ret .int],
  [dm_ald 161 0, dm_getf 164 7 0, dm_no, dm_no, dm_getf 167 2 0, dm_no, dm_no, dm_ald 168 0, dm_getf 171 7 0, dm_no, dm_no, dm_ild 172 1, dm_inv 175 19 1 2, dm_no, dm_no, dm_inv 178 75 1 6],
  [dm_no, dm_no, dm_ret .int, dm_ald 180 0, dm_getf 183 7 0, dm_no, dm_no, dm_getf 186 2 0, dm_no, dm_no, dm_ald 187 0, dm_getf 190 7 0, dm_no, dm_no, dm_ild 191 1, dm_inv 194 19 1 2],
  [dm_no, dm_no, dm_inv 197 88 1 6, dm_no, dm_no, dm_ret .int, dm_ald 199 0, dm_getf 202 7 0, dm_no, dm_no, dm_ild 203 1, dm_inv 206 28 1 2, dm_no, dm_no, dm_if_eq 209 213, dm_no],
  [dm_no, dm_push 210 (.int 1), dm_goto 214, dm_no, dm_no, dm_push 214 (.int 0), dm_ret .int, dm_ald 216 0, dm_getf 219 7 3, dm_no, dm_no, dm_ald 220 0, dm_getf 223 7 0, dm_no, dm_no, dm_ild 224 1],
  [dm_inv 227 50 2 4, dm_no, dm_no, dm_ret .int, dm_push 229 (.int (-1)), dm_ret .int]]
theorem tr_110_0 : dm_AllR (dm_Good dm_tb RX10 cX10_stamp 3 (some .int) false none) 0 [dm_ald 1 0, dm_getf 4 7 0, dm_no, dm_no, dm_ild 5 1, dm_inv 8 17 1 2, dm_no, dm_no, dm_if_ne 11 13, dm_no, dm_no, dm_push 12 (.int (-1)), dm_ret .int, dm_ild 14 2, dm_tsw 0 10 228 [72, 89, 108, 127, 136, 145, 154, 160, 179, 198, 215], dm_no] := dr_c (dg_aload_n (k := 0) rfl dX10_stamp_0) <| dr_c (dg_getf (T := TX10) (C := RX10) (N := 11) dX10_stamp_1 rfl (by decide) iw_X10 wd_310) <| dr_c (dg_no) <| dr_c (dg_no) <| dr_c (dg_iload_n (k := 1) rfl dX10_stamp_4) <| dr_c (dg_inv dX10_stamp_5 mo_17 rfl rfl wd_579 wd_361 wd_362 pd_17) <| dr_c (dg_no) <| dr_c (dg_no) <| dr_c (dg_if_ne (by decide) dX10_stamp_8) <| dr_c (dg_no) <| dr_c (dg_no) <| dr_c (dg_iconst (by decide) dX10_stamp_11) <| dr_c (dg_ret dX10_stamp_12) <| dr_c (dg_iload_n (k := 2) rfl dX10_stamp_13) <| dr_c (dg_tsw dX10_stamp_14 (by decide) (by decide)) <| dr_c (dg_no) <| dr_n
theorem tr_110_1 : dm_AllR (dm_Good dm_tb RX10 cX10_stamp 3 (some .int) false none) 16 [dm_no, dm_no, dm_no, dm_no, dm_no, dm_no, dm_no, dm_no, dm_no, dm_no, dm_no, dm_no, dm_no, dm_no, dm_no, dm_no] := dr_c (dg_no) <| dr_c (dg_no) <| dr_c (dg_no) <| dr_c (dg_no) <| dr_c (dg_no) <| dr_c (dg_no) <| dr_c (dg_no) <| dr_c (dg_no) <| dr_c (dg_no) <| dr_c (dg_no) <| dr_c (dg_no) <| dr_c (dg_no) <| dr_c (dg_no) <| dr_c (dg_no) <| dr_c (dg_no) <| dr_c (dg_no) <| dr_n
theorem tr_110_2 : dm_AllR (dm_Good dm_tb RX10 cX10_stamp 3 (some .int) false none) 32 [dm_no, dm_no, dm_no, dm_no, dm_no, dm_no, dm_no, dm_no, dm_no, dm_no, dm_no, dm_no, dm_no, dm_no, dm_no, dm_no] := dr_c (dg_no) <| dr_c (dg_no) <| dr_c (dg_no) <| dr_c (dg_no) <| dr_c (dg_no) <| dr_c (dg_no) <| dr_c (dg_no) <| dr_c (dg_no) <| dr_c (dg_no) <| dr_c (dg_no) <| dr_c (dg_no) <| dr_c (dg_no) <| dr_c (dg_no) <| dr_c (dg_no) <| dr_c (dg_no) <| dr_c (dg_no) <| dr_n
theorem tr_110_3 : dm_AllR (dm_Good dm_tb RX10 cX10_stamp 3 (some .int) false none) 48 [dm_no, dm_no, dm_no, dm_no, dm_no, dm_no, dm_no, dm_no, dm_no, dm_no, dm_no, dm_no, dm_no, dm_no, dm_no, dm_no] := dr_c (dg_no) <| dr_c (dg_no) <| dr_c (dg_no) <| dr_c (dg_no) <| dr_c (dg_no) <| dr_c (dg_no) <| dr_c (dg_no) <| dr_c (dg_no) <| dr_c (dg_no) <| dr_c (dg_no) <| dr_c (dg_no) <| dr_c (dg_no) <| dr_c (dg_no) <| dr_c (dg_no) <| dr_c (dg_no) <| dr_c (dg_no) <| dr_n
theorem tr_110_4 : dm_AllR (dm_Good dm_tb RX10 cX10_stamp 3 (some .int) false none) 64 [dm_no, dm_no, dm_no, dm_no, dm_no, dm_no, dm_no, dm_no, dm_ald 73 0, dm_getf 76 7 0, dm_no, dm_no, dm_ild 77 1, dm_inv 80 26 1 2, dm_no, dm_no] := dr_c (dg_no) <| dr_c (dg_no) <| dr_c (dg_no) <| dr_c (dg_no) <| dr_c (dg_no) <| dr_c (dg_no) <| dr_c (dg_no) <| dr_c (dg_no) <| dr_c (dg_aload_n (k := 0) rfl dX10_stamp_72) <| dr_c (dg_getf (T := TX10) (C := RX10) (N := 11) dX10_stamp_73 rfl (by decide) iw_X10 wd_310) <| dr_c (dg_no) <| dr_c (dg_no) <| dr_c (dg_iload_n (k := 1) rfl dX10_stamp_76) <| dr_c (dg_inv dX10_stamp_77 mo_26 rfl rfl wd_510 wd_357 wd_358 pd_26) <| dr_c (dg_no) <| dr_c (dg_no) <| dr_n
theorem tr_110_5 : dm_AllR (dm_Good dm_tb RX10 cX10_stamp 3 (some .int) false none) 80 [dm_if_eq 83 87, dm_no, dm_no, dm_push 84 (.int 1), dm_goto 88, dm_no, dm_no, dm_push 88 (.int 0), dm_ret .int, dm_ald 90 0, dm_getf 93 7 0, dm_no, dm_no, dm_getf 96 2 0, dm_no, dm_no] := dr_c (dg_if_eq (by decide) dX10_stamp_80) <| dr_c (dg_no) <| dr_c (dg_no) <| dr_c (dg_iconst (by decide) dX10_stamp_83) <| dr_c (dg_goto (by decide) dX10_stamp_84) <| dr_c (dg_no) <| dr_c (dg_no) <| dr_c (dg_iconst (by decide) dX10_stamp_87) <| dr_c (dg_ret dX10_stamp_88) <| dr_c (dg_aload_n (k := 0) rfl dX10_stamp_89) <| dr_c (dg_getf (T := TX10) (C := RX10) (N := 11) dX10_stamp_90 rfl (by decide) iw_X10 wd_310) <| dr_c (dg_no) <| dr_c (dg_no) <| dr_c (dg_getf (T := TX2) (C := RX2) (N := 10) dX10_stamp_93 rfl (by decide) iw_X2 wd_131) <| dr_c (dg_no) <| dr_c (dg_no) <| dr_n
theorem tr_110_6 : dm_AllR (dm_Good dm_tb RX10 cX10_stamp 3 (some .int) false none) 96 [dm_ald 97 0, dm_getf 100 7 0, dm_no, dm_no, dm_ild 101 1, dm_inv 104 18 1 2, dm_no, dm_no, dm_inv 107 84 1 6, dm_no, dm_no, dm_ret .int, dm_ald 109 0, dm_getf 112 7 0, dm_no, dm_no] := dr_c (dg_aload_n (k := 0) rfl dX10_stamp_96) <| dr_c (dg_getf (T := TX10) (C := RX10) (N := 11) dX10_stamp_97 rfl (by decide) iw_X10 wd_310) <| dr_c (dg_no) <| dr_c (dg_no) <| dr_c (dg_iload_n (k := 1) rfl dX10_stamp_100) <| dr_c (dg_inv dX10_stamp_101 mo_18 rfl rfl wd_384 wd_373 wd_374 pd_18) <| dr_c (dg_no) <| dr_c (dg_no) <| dr_c (dg_inv dX10_stamp_104 mo_84 rfl rfl wd_624 wd_289 wd_290 pd_84) <| dr_c (dg_no) <| dr_c (dg_no) <| dr_c (dg_ret dX10_stamp_107) <| dr_c (dg_aload_n (k := 0) rfl dX10_stamp_108) <| dr_c (dg_getf (T := TX10) (C := RX10) (N := 11) dX10_stamp_109 rfl (by decide) iw_X10 wd_310) <| dr_c (dg_no) <| dr_c (dg_no) <| dr_n
theorem tr_110_7 : dm_AllR (dm_Good dm_tb RX10 cX10_stamp 3 (some .int) false none) 112 [dm_getf 115 2 0, dm_no, dm_no, dm_ald 116 0, dm_getf 119 7 0, dm_no, dm_no, dm_ild 120 1, dm_inv 123 19 1 2, dm_no, dm_no, dm_inv 126 84 1 6, dm_no, dm_no, dm_ret .int, dm_ald 128 0] := dr_c (dg_getf (T := TX2) (C := RX2) (N := 10) dX10_stamp_112 rfl (by decide) iw_X2 wd_131) <| dr_c (dg_no) <| dr_c (dg_no) <| dr_c (dg_aload_n (k := 0) rfl dX10_stamp_115) <| dr_c (dg_getf (T := TX10) (C := RX10) (N := 11) dX10_stamp_116 rfl (by decide) iw_X10 wd_310) <| dr_c (dg_no) <| dr_c (dg_no) <| dr_c (dg_iload_n (k := 1) rfl dX10_stamp_119) <| dr_c (dg_inv dX10_stamp_120 mo_19 rfl rfl wd_405 wd_406 wd_407 pd_19) <| dr_c (dg_no) <| dr_c (dg_no) <| dr_c (dg_inv dX10_stamp_123 mo_84 rfl rfl wd_624 wd_289 wd_290 pd_84) <| dr_c (dg_no) <| dr_c (dg_no) <| dr_c (dg_ret dX10_stamp_126) <| dr_c (dg_aload_n (k := 0) rfl dX10_stamp_127) <| dr_n
theorem tr_110_8 : dm_AllR (dm_Good dm_tb RX10 cX10_stamp 3 (some .int) false none) 128 [dm_getf 131 7 0, dm_no, dm_no, dm_ild 132 1, dm_inv 135 20 1 2, dm_no, dm_no, dm_ret .int, dm_ald 137 0, dm_getf 140 7 0, dm_no, dm_no, dm_ild 141 1, dm_inv 144 21 1 2, dm_no, dm_no] := dr_c (dg_getf (T := TX10) (C := RX10) (N := 11) dX10_stamp_128 rfl (by decide) iw_X10 wd_310) <| dr_c (dg_no) <| dr_c (dg_no) <| dr_c (dg_iload_n (k := 1) rfl dX10_stamp_131) <| dr_c (dg_inv dX10_stamp_132 mo_20 rfl rfl wd_625 wd_603 wd_604 pd_20) <| dr_c (dg_no) <| dr_c (dg_no) <| dr_c (dg_ret dX10_stamp_135) <| dr_c (dg_aload_n (k := 0) rfl dX10_stamp_136) <| dr_c (dg_getf (T := TX10) (C := RX10) (N := 11) dX10_stamp_137 rfl (by decide) iw_X10 wd_310) <| dr_c (dg_no) <| dr_c (dg_no) <| dr_c (dg_iload_n (k := 1) rfl dX10_stamp_140) <| dr_c (dg_inv dX10_stamp_141 mo_21 rfl rfl wd_626 wd_595 wd_596 pd_21) <| dr_c (dg_no) <| dr_c (dg_no) <| dr_n
theorem tr_110_9 : dm_AllR (dm_Good dm_tb RX10 cX10_stamp 3 (some .int) false none) 144 [dm_ret .int, dm_ald 146 0, dm_getf 149 7 0, dm_no, dm_no, dm_ild 150 1, dm_inv 153 22 1 2, dm_no, dm_no, dm_ret .int, dm_ald 155 0, dm_ild 156 1, dm_inv 159 132 1 7, dm_no, dm_no, dm_ret .int] := dr_c (dg_ret dX10_stamp_144) <| dr_c (dg_aload_n (k := 0) rfl dX10_stamp_145) <| dr_c (dg_getf (T := TX10) (C := RX10) (N := 11) dX10_stamp_146 rfl (by decide) iw_X10 wd_310) <| dr_c (dg_no) <| dr_c (dg_no) <| dr_c (dg_iload_n (k := 1) rfl dX10_stamp_149) <| dr_c (dg_inv dX10_stamp_150 mo_22 rfl rfl wd_627 wd_599 wd_600 pd_22) <| dr_c (dg_no) <| dr_c (dg_no) <| dr_c (dg_ret dX10_stamp_153) <| dr_c (dg_aload_n (k := 0) rfl dX10_stamp_154) <| dr_c (dg_iload_n (k := 1) rfl dX10_stamp_155) <| dr_c (dg_inv dX10_stamp_156 mo_132 rfl rfl wd_628 wd_630 wd_8 pd_132) <| dr_c (dg_no) <| dr_c (dg_no) <| dr_c (dg_ret dX10_stamp_159) <| dr_n
theorem tr_110_10 : dm_AllR (dm_Good dm_tb RX10 cX10_stamp 3 (some .int) false none) 160 [dm_ald 161 0, dm_getf 164 7 0, dm_no, dm_no, dm_getf 167 2 0, dm_no, dm_no, dm_ald 168 0, dm_getf 171 7 0, dm_no, dm_no, dm_ild 172 1, dm_inv 175 19 1 2, dm_no, dm_no, dm_inv 178 75 1 6] := dr_c (dg_aload_n (k := 0) rfl dX10_stamp_160) <| dr_c (dg_getf (T := TX10) (C := RX10) (N := 11) dX10_stamp_161 rfl (by decide) iw_X10 wd_310) <| dr_c (dg_no) <| dr_c (dg_no) <| dr_c (dg_getf (T := TX2) (C := RX2) (N := 10) dX10_stamp_164 rfl (by decide) iw_X2 wd_131) <| dr_c (dg_no) <| dr_c (dg_no) <| dr_c (dg_aload_n (k := 0) rfl dX10_stamp_167) <| dr_c (dg_getf (T := TX10) (C := RX10) (N := 11) dX10_stamp_168 rfl (by decide) iw_X10 wd_310) <| dr_c (dg_no) <| dr_c (dg_no) <| dr_c (dg_iload_n (k := 1) rfl dX10_stamp_171) <| dr_c (dg_inv dX10_stamp_172 mo_19 rfl rfl wd_405 wd_406 wd_407 pd_19) <| dr_c (dg_no) <| dr_c (dg_no) <| dr_c (dg_inv dX10_stamp_175 mo_75 rfl rfl wd_657 wd_381 wd_382 pd_75) <| dr_n
theorem tr_110_11 : dm_AllR (dm_Good dm_tb RX10 cX10_stamp 3 (some .int) false none) 176 [dm_no, dm_no, dm_ret .int, dm_ald 180 0, dm_getf 183 7 0, dm_no, dm_no, dm_getf 186 2 0, dm_no, dm_no, dm_ald 187 0, dm_getf 190 7 0, dm_no, dm_no, dm_ild 191 1, dm_inv 194 19 1 2] := dr_c (dg_no) <| dr_c (dg_no) <| dr_c (dg_ret dX10_stamp_178) <| dr_c (dg_aload_n (k := 0) rfl dX10_stamp_179) <| dr_c (dg_getf (T := TX10) (C := RX10) (N := 11) dX10_stamp_180 rfl (by decide) iw_X10 wd_310) <| dr_c (dg_no) <| dr_c (dg_no) <| dr_c (dg_getf (T := TX2) (C := RX2) (N := 10) dX10_stamp_183 rfl (by decide) iw_X2 wd_131) <| dr_c (dg_no) <| dr_c (dg_no) <| dr_c (dg_aload_n (k := 0) rfl dX10_stamp_186) <| dr_c (dg_getf (T := TX10) (C := RX10) (N := 11) dX10_stamp_187 rfl (by decide) iw_X10 wd_310) <| dr_c (dg_no) <| dr_c (dg_no) <| dr_c (dg_iload_n (k := 1) rfl dX10_stamp_190) <| dr_c (dg_inv dX10_stamp_191 mo_19 rfl rfl wd_405 wd_406 wd_407 pd_19) <| dr_n
theorem tr_110_12 : dm_AllR (dm_Good dm_tb RX10 cX10_stamp 3 (some .int) false none) 192 [dm_no, dm_no, dm_inv 197 88 1 6, dm_no, dm_no, dm_ret .int, dm_ald 199 0, dm_getf 202 7 0, dm_no, dm_no, dm_ild 203 1, dm_inv 206 28 1 2, dm_no, dm_no, dm_if_eq 209 213, dm_no] := dr_c (dg_no) <| dr_c (dg_no) <| dr_c (dg_inv dX10_stamp_194 mo_88 rfl rfl wd_658 wd_468 wd_469 pd_88) <| dr_c (dg_no) <| dr_c (dg_no) <| dr_c (dg_ret dX10_stamp_197) <| dr_c (dg_aload_n (k := 0) rfl dX10_stamp_198) <| dr_c (dg_getf (T := TX10) (C := RX10) (N := 11) dX10_stamp_199 rfl (by decide) iw_X10 wd_310) <| dr_c (dg_no) <| dr_c (dg_no) <| dr_c (dg_iload_n (k := 1) rfl dX10_stamp_202) <| dr_c (dg_inv dX10_stamp_203 mo_28 rfl rfl wd_546 wd_547 wd_548 pd_28) <| dr_c (dg_no) <| dr_c (dg_no) <| dr_c (dg_if_eq (by decide) dX10_stamp_206) <| dr_c (dg_no) <| dr_n
theorem tr_110_13 : dm_AllR (dm_Good dm_tb RX10 cX10_stamp 3 (some .int) false none) 208 [dm_no, dm_push 210 (.int 1), dm_goto 214, dm_no, dm_no, dm_push 214 (.int 0), dm_ret .int, dm_ald 216 0, dm_getf 219 7 3, dm_no, dm_no, dm_ald 220 0, dm_getf 223 7 0, dm_no, dm_no, dm_ild 224 1] := dr_c (dg_no) <| dr_c (dg_iconst (by decide) dX10_stamp_209) <| dr_c (dg_goto (by decide) dX10_stamp_210) <| dr_c (dg_no) <| dr_c (dg_no) <| dr_c (dg_iconst (by decide) dX10_stamp_213) <| dr_c (dg_ret dX10_stamp_214) <| dr_c (dg_aload_n (k := 0) rfl dX10_stamp_215) <| dr_c (dg_getf (T := TX10) (C := RX10) (N := 11) dX10_stamp_216 rfl (by decide) iw_X10 wd_313) <| dr_c (dg_no) <| dr_c (dg_no) <| dr_c (dg_aload_n (k := 0) rfl dX10_stamp_219) <| dr_c (dg_getf (T := TX10) (C := RX10) (N := 11) dX10_stamp_220 rfl (by decide) iw_X10 wd_310) <| dr_c (dg_no) <| dr_c (dg_no) <| dr_c (dg_iload_n (k := 1) rfl dX10_stamp_223) <| dr_n
theorem tr_110_14 : dm_AllR (dm_Good dm_tb RX10 cX10_stamp 3 (some .int) false none) 224 [dm_inv 227 50 2 4, dm_no, dm_no, dm_ret .int, dm_push 229 (.int (-1)), dm_ret .int] := dr_c (dg_inv dX10_stamp_224 mo_50 rfl rfl wd_659 wd_660 wd_661 pd_50) <| dr_c (dg_no) <| dr_c (dg_no) <| dr_c (dg_ret dX10_stamp_227) <| dr_c (dg_iconst (by decide) dX10_stamp_228) <| dr_c (dg_ret dX10_stamp_229) <| dr_n
theorem tk_110 : dm_AllC (dm_Good dm_tb RX10 cX10_stamp 3 (some .int) false none) 0 cd_110 := dc_c (by decide) tr_110_0 <| dc_c (by decide) tr_110_1 <| dc_c (by decide) tr_110_2 <| dc_c (by decide) tr_110_3 <| dc_c (by decide) tr_110_4 <| dc_c (by decide) tr_110_5 <| dc_c (by decide) tr_110_6 <| dc_c (by decide) tr_110_7 <| dc_c (by decide) tr_110_8 <| dc_c (by decide) tr_110_9 <| dc_c (by decide) tr_110_10 <| dc_c (by decide) tr_110_11 <| dc_c (by decide) tr_110_12 <| dc_c (by decide) tr_110_13 <| dc_c (by decide) tr_110_14 <| dc_n
theorem dX10_witness_0 : decode cX10_witness 0 = .ok (.aload_n 0, 1) := by decide +kernel
theorem dX10_witness_1 : decode cX10_witness 1 = .ok (.iload_n 1, 1) := by decide +kernel
theorem dX10_witness_2 : decode cX10_witness 2 = .ok (.iload_n 2, 1) := by decide +kernel
theorem dX10_witness_3 : decode cX10_witness 3 = .ok (.invokevirtual 190, 3) := by decide +kernel
theorem dX10_witness_6 : decode cX10_witness 6 = .ok (.iconst 3, 1) := by decide +kernel
theorem dX10_witness_7 : decode cX10_witness 7 = .ok (.if_icmp .ne 12, 3) := by decide +kernel
theorem dX10_witness_10 : decode cX10_witness 10 = .ok (.iload_n 3, 1) := by decide +kernel
theorem dX10_witness_11 : decode cX10_witness 11 = .ok (.ifCond .lt 8, 3) := by decide +kernel
theorem dX10_witness_14 : decode cX10_witness 14 = .ok (.iload_n 3, 1) := by decide +kernel
theorem dX10_witness_15 : decode cX10_witness 15 = .ok (.iconst 1, 1) := by decide +kernel
theorem dX10_witness_16 : decode cX10_witness 16 = .ok (.if_icmp .le 5, 3) := by decide +kernel
theorem dX10_witness_19 : decode cX10_witness 19 = .ok (.iconst 0, 1) := by decide +kernel
theorem dX10_witness_20 : decode cX10_witness 20 = .ok (.ireturn, 1) := by decide +kernel
theorem dX10_witness_21 : decode cX10_witness 21 = .ok (.aload_n 0, 1) := by decide +kernel
theorem dX10_witness_22 : decode cX10_witness 22 = .ok (.getfield 10, 3) := by decide +kernel
theorem dX10_witness_25 : decode cX10_witness 25 = .ok (.iload_n 3, 1) := by decide +kernel
theorem dX10_witness_26 : decode cX10_witness 26 = .ok (.ifCond .ne 7, 3) := by decide +kernel
theorem dX10_witness_29 : decode cX10_witness 29 = .ok (.iload_n 1, 1) := by decide +kernel
theorem dX10_witness_30 : decode cX10_witness 30 = .ok (.goto 4, 3) := by decide +kernel
theorem dX10_witness_33 : decode cX10_witness 33 = .ok (.iload_n 2, 1) := by decide +kernel
theorem dX10_witness_34 : decode cX10_witness 34 = .ok (.invokevirtual 81, 3) := by decide +kernel
theorem dX10_witness_37 : decode cX10_witness 37 = .ok (.istore 4, 2) := by decide +kernel
theorem dX10_witness_39 : decode cX10_witness 39 = .ok (.aload_n 0, 1) := by decide +kernel
theorem dX10_witness_40 : decode cX10_witness 40 = .ok (.getfield 10, 3) := by decide +kernel
theorem dX10_witness_43 : decode cX10_witness 43 = .ok (.iload_n 3, 1) := by decide +kernel
theorem dX10_witness_44 : decode cX10_witness 44 = .ok (.ifCond .ne 7, 3) := by decide +kernel
theorem dX10_witness_47 : decode cX10_witness 47 = .ok (.iload_n 2, 1) := by decide +kernel
theorem dX10_witness_48 : decode cX10_witness 48 = .ok (.goto 4, 3) := by decide +kernel
theorem dX10_witness_51 : decode cX10_witness 51 = .ok (.iload_n 1, 1) := by decide +kernel
theorem dX10_witness_52 : decode cX10_witness 52 = .ok (.invokevirtual 81, 3) := by decide +kernel
theorem dX10_witness_55 : decode cX10_witness 55 = .ok (.istore 5, 2) := by decide +kernel
theorem dX10_witness_57 : decode cX10_witness 57 = .ok (.aload_n 0, 1) := by decide +kernel
theorem dX10_witness_58 : decode cX10_witness 58 = .ok (.getfield 10, 3) := by decide +kernel
theorem dX10_witness_61 : decode cX10_witness 61 = .ok (.getfield 63, 3) := by decide +kernel
theorem dX10_witness_64 : decode cX10_witness 64 = .ok (.iload 4, 2) := by decide +kernel
theorem dX10_witness_66 : decode cX10_witness 66 = .ok (.iload 5, 2) := by decide +kernel
theorem dX10_witness_68 : decode cX10_witness 68 = .ok (.invokestatic 194, 3) := by decide +kernel
theorem dX10_witness_71 : decode cX10_witness 71 = .ok (.lstore 6, 2) := by decide +kernel
theorem dX10_witness_73 : decode cX10_witness 73 = .ok (.aload_n 0, 1) := by decide +kernel
theorem dX10_witness_74 : decode cX10_witness 74 = .ok (.iconst 0, 1) := by decide +kernel
theorem dX10_witness_75 : decode cX10_witness 75 = .ok (.putfield 198, 3) := by decide +kernel
theorem dX10_witness_78 : decode cX10_witness 78 = .ok (.aload_n 0, 1) := by decide +kernel
theorem dX10_witness_79 : decode cX10_witness 79 = .ok (.getfield 198, 3) := by decide +kernel
theorem dX10_witness_82 : decode cX10_witness 82 = .ok (.bipush 60, 2) := by decide +kernel
theorem dX10_witness_84 : decode cX10_witness 84 = .ok (.if_icmp .ge 28, 3) := by decide +kernel
theorem dX10_witness_87 : decode cX10_witness 87 = .ok (.lload 6, 2) := by decide +kernel
theorem dX10_witness_89 : decode cX10_witness 89 = .ok (.aload_n 0, 1) := by decide +kernel
theorem dX10_witness_90 : decode cX10_witness 90 = .ok (.getfield 198, 3) := by decide +kernel
theorem dX10_witness_93 : decode cX10_witness 93 = .ok (.lshr, 1) := by decide +kernel
theorem dX10_witness_94 : decode cX10_witness 94 = .ok (.lconst 1, 1) := by decide +kernel
theorem dX10_witness_95 : decode cX10_witness 95 = .ok (.lcmp, 1) := by decide +kernel
theorem dX10_witness_96 : decode cX10_witness 96 = .ok (.ifCond .le 16, 3) := by decide +kernel
theorem dX10_witness_99 : decode cX10_witness 99 = .ok (.aload_n 0, 1) := by decide +kernel
theorem dX10_witness_100 : decode cX10_witness 100 = .ok (.dup, 1) := by decide +kernel
theorem dX10_witness_101 : decode cX10_witness 101 = .ok (.getfield 198, 3) := by decide +kernel
theorem dX10_witness_104 : decode cX10_witness 104 = .ok (.iconst 1, 1) := by decide +kernel
theorem dX10_witness_105 : decode cX10_witness 105 = .ok (.iadd, 1) := by decide +kernel
theorem dX10_witness_106 : decode cX10_witness 106 = .ok (.putfield 198, 3) := by decide +kernel
theorem dX10_witness_109 : decode cX10_witness 109 = .ok (.goto (-31), 3) := by decide +kernel
theorem dX10_witness_112 : decode cX10_witness 112 = .ok (.aload_n 0, 1) := by decide +kernel
theorem dX10_witness_113 : decode cX10_witness 113 = .ok (.lload 6, 2) := by decide +kernel
theorem dX10_witness_115 : decode cX10_witness 115 = .ok (.lconst 1, 1) := by decide +kernel
theorem dX10_witness_116 : decode cX10_witness 116 = .ok (.aload_n 0, 1) := by decide +kernel
theorem dX10_witness_117 : decode cX10_witness 117 = .ok (.getfield 198, 3) := by decide +kernel
theorem dX10_witness_120 : decode cX10_witness 120 = .ok (.lshl, 1) := by decide +kernel
theorem dX10_witness_121 : decode cX10_witness 121 = .ok (.lsub, 1) := by decide +kernel
theorem dX10_witness_122 : decode cX10_witness 122 = .ok (.putfield 202, 3) := by decide +kernel
theorem dX10_witness_125 : decode cX10_witness 125 = .ok (.iconst 1, 1) := by decide +kernel
theorem dX10_witness_126 : decode cX10_witness 126 = .ok (.ireturn, 1) := by decide +kernel
def cd_111 : dm_Code := [[dm_ald 1 0, dm_ild 2 1, dm_ild 3 2, dm_inv 6 105 2 7, dm_no, dm_no, dm_push 7 (.int 3), dm_ic_ne 10 19, dm_no, dm_no, dm_ild 11 3, dm_if_lt 14 19, dm_no, dm_no, dm_ild 15 3, dm_push 16 (.int 1)],
  [dm_ic_le 19 21, dm_no, dm_no, dm_push 20 (.int 0), dm_ret .boolean, dm_ald 22 0, dm_getf 25 7 0, dm_no, dm_no, dm_ild 26 3, dm_if_ne 29 33, dm_no, dm_no, dm_ild 30 1, dm_goto 34, dm_no],
  [dm_no, dm_ild 34 2, dm_inv 37 19 1 2, dm_no, dm_no, dm_ist 39 4, dm_no, dm_ald 40 0, dm_getf 43 7 0, dm_no, dm_no, dm_ild 44 3, dm_if_ne 47 51, dm_no, dm_no, dm_ild 48 2],
  [dm_goto 52, dm_no, dm_no, dm_ild 52 1, dm_inv 55 19 1 2, dm_no, dm_no, dm_ist 57 5, dm_no, dm_ald 58 0, dm_getf 61 7 0, dm_no, dm_no, dm_getf 64 2 0, dm_no, dm_no],
  [dm_ild 66 4, dm_no, dm_ild 68 5, dm_no, dm_ins 71 67 3, dm_no, dm_no, dm_lst 73 6, dm_no, dm_ald 74 0, dm_push 75 (.int 0), dm_putf 78 7 10 .int, dm_no, dm_no, dm_ald 79 0, dm_getf 82 7 10],
  [dm_no, dm_no, dm_push 84 (.int 60), dm_no, dm_ic_ge 87 112, dm_no, dm_no, dm_lld 89 6, dm_no, dm_ald 90 0, dm_getf 93 7 10, dm_no, dm_no, dm_li 94 (fun x y => x >>> (y.toInt64 &&& 63)), dm_push 95 (.long 1), dm_lc 96],
  [dm_if_le 99 112, dm_no, dm_no, dm_ald 100 0, dm_dup 101, dm_getf 104 7 10, dm_no, dm_no, dm_push 105 (.int 1), dm_ii 106 (fun x y => x + y), dm_putf 109 7 10 .int, dm_no, dm_no, dm_goto 78, dm_no, dm_no],
  [dm_ald 113 0, dm_lld 115 6, dm_no, dm_push 116 (.long 1), dm_ald 117 0, dm_getf 120 7 10, dm_no, dm_no, dm_li 121 (fun x y => x <<< (y.toInt64 &&& 63)), dm_ll 122 (fun x y => x - y), dm_putf 125 7 9 .long, dm_no, dm_no, dm_push 126 (.int 1), dm_ret .boolean]]
theorem tr_111_0 : dm_AllR (dm_Good dm_tb RX10 cX10_witness 8 (some .boolean) false none) 0 [dm_ald 1 0, dm_ild 2 1, dm_ild 3 2, dm_inv 6 105 2 7, dm_no, dm_no, dm_push 7 (.int 3), dm_ic_ne 10 19, dm_no, dm_no, dm_ild 11 3, dm_if_lt 14 19, dm_no, dm_no, dm_ild 15 3, dm_push 16 (.int 1)] := dr_c (dg_aload_n (k := 0) rfl dX10_witness_0) <| dr_c (dg_iload_n (k := 1) rfl dX10_witness_1) <| dr_c (dg_iload_n (k := 2) rfl dX10_witness_2) <| dr_c (dg_inv dX10_witness_3 mo_105 rfl rfl wd_667 wd_576 wd_577 pd_105) <| dr_c (dg_no) <| dr_c (dg_no) <| dr_c (dg_iconst (by decide) dX10_witness_6) <| dr_c (dg_ic_ne (by decide) dX10_witness_7) <| dr_c (dg_no) <| dr_c (dg_no) <| dr_c (dg_iload_n (k := 3) rfl dX10_witness_10) <| dr_c (dg_if_lt (by decide) dX10_witness_11) <| dr_c (dg_no) <| dr_c (dg_no) <| dr_c (dg_iload_n (k := 3) rfl dX10_witness_14) <| dr_c (dg_iconst (by decide) dX10_witness_15) <| dr_n
theorem tr_111_1 : dm_AllR (dm_Good dm_tb RX10 cX10_witness 8 (some .boolean) false none) 16 [dm_ic_le 19 21, dm_no, dm_no, dm_push 20 (.int 0), dm_ret .boolean, dm_ald 22 0, dm_getf 25 7 0, dm_no, dm_no, dm_ild 26 3, dm_if_ne 29 33, dm_no, dm_no, dm_ild 30 1, dm_goto 34, dm_no] := dr_c (dg_ic_le (by decide) dX10_witness_16) <| dr_c (dg_no) <| dr_c (dg_no) <| dr_c (dg_iconst (by decide) dX10_witness_19) <| dr_c (dg_ret dX10_witness_20) <| dr_c (dg_aload_n (k := 0) rfl dX10_witness_21) <| dr_c (dg_getf (T := TX10) (C := RX10) (N := 11) dX10_witness_22 rfl (by decide) iw_X10 wd_310) <| dr_c (dg_no) <| dr_c (dg_no) <| dr_c (dg_iload_n (k := 3) rfl dX10_witness_25) <| dr_c (dg_if_ne (by decide) dX10_witness_26) <| dr_c (dg_no) <| dr_c (dg_no) <| dr_c (dg_iload_n (k := 1) rfl dX10_witness_29) <| dr_c (dg_goto (by decide) dX10_witness_30) <| dr_c (dg_no) <| dr_n
theorem tr_111_2 : dm_AllR (dm_Good dm_tb RX10 cX10_witness 8 (some .boolean) false none) 32 [dm_no, dm_ild 34 2, dm_inv 37 19 1 2, dm_no, dm_no, dm_ist 39 4, dm_no, dm_ald 40 0, dm_getf 43 7 0, dm_no, dm_no, dm_ild 44 3, dm_if_ne 47 51, dm_no, dm_no, dm_ild 48 2] := dr_c (dg_no) <| dr_c (dg_iload_n (k := 2) rfl dX10_witness_33) <| dr_c (dg_inv dX10_witness_34 mo_19 rfl rfl wd_405 wd_406 wd_407 pd_19) <| dr_c (dg_no) <| dr_c (dg_no) <| dr_c (dg_istore (by decide) dX10_witness_37) <| dr_c (dg_no) <| dr_c (dg_aload_n (k := 0) rfl dX10_witness_39) <| dr_c (dg_getf (T := TX10) (C := RX10) (N := 11) dX10_witness_40 rfl (by decide) iw_X10 wd_310) <| dr_c (dg_no) <| dr_c (dg_no) <| dr_c (dg_iload_n (k := 3) rfl dX10_witness_43) <| dr_c (dg_if_ne (by decide) dX10_witness_44) <| dr_c (dg_no) <| dr_c (dg_no) <| dr_c (dg_iload_n (k := 2) rfl dX10_witness_47) <| dr_n
theorem tr_111_3 : dm_AllR (dm_Good dm_tb RX10 cX10_witness 8 (some .boolean) false none) 48 [dm_goto 52, dm_no, dm_no, dm_ild 52 1, dm_inv 55 19 1 2, dm_no, dm_no, dm_ist 57 5, dm_no, dm_ald 58 0, dm_getf 61 7 0, dm_no, dm_no, dm_getf 64 2 0, dm_no, dm_no] := dr_c (dg_goto (by decide) dX10_witness_48) <| dr_c (dg_no) <| dr_c (dg_no) <| dr_c (dg_iload_n (k := 1) rfl dX10_witness_51) <| dr_c (dg_inv dX10_witness_52 mo_19 rfl rfl wd_405 wd_406 wd_407 pd_19) <| dr_c (dg_no) <| dr_c (dg_no) <| dr_c (dg_istore (by decide) dX10_witness_55) <| dr_c (dg_no) <| dr_c (dg_aload_n (k := 0) rfl dX10_witness_57) <| dr_c (dg_getf (T := TX10) (C := RX10) (N := 11) dX10_witness_58 rfl (by decide) iw_X10 wd_310) <| dr_c (dg_no) <| dr_c (dg_no) <| dr_c (dg_getf (T := TX2) (C := RX2) (N := 10) dX10_witness_61 rfl (by decide) iw_X2 wd_131) <| dr_c (dg_no) <| dr_c (dg_no) <| dr_n
theorem tr_111_4 : dm_AllR (dm_Good dm_tb RX10 cX10_witness 8 (some .boolean) false none) 64 [dm_ild 66 4, dm_no, dm_ild 68 5, dm_no, dm_ins 71 67 3, dm_no, dm_no, dm_lst 73 6, dm_no, dm_ald 74 0, dm_push 75 (.int 0), dm_putf 78 7 10 .int, dm_no, dm_no, dm_ald 79 0, dm_getf 82 7 10] := dr_c (dg_iload dX10_witness_64) <| dr_c (dg_no) <| dr_c (dg_iload dX10_witness_66) <| dr_c (dg_no) <| dr_c (dg_ins dX10_witness_68 mo_67 wd_668 wd_669 pd_67) <| dr_c (dg_no) <| dr_c (dg_no) <| dr_c (dg_lstore (by decide) dX10_witness_71) <| dr_c (dg_no) <| dr_c (dg_aload_n (k := 0) rfl dX10_witness_73) <| dr_c (dg_iconst (by decide) dX10_witness_74) <| dr_c (dg_putf (T := TX10) (C := RX10) (N := 11) dX10_witness_75 rfl (by decide) iw_X10 tyX10_ok nmX10 wd_320 rfl rfl) <| dr_c (dg_no) <| dr_c (dg_no) <| dr_c (dg_aload_n (k := 0) rfl dX10_witness_78) <| dr_c (dg_getf (T := TX10) (C := RX10) (N := 11) dX10_witness_79 rfl (by decide) iw_X10 wd_320) <| dr_n
theorem tr_111_5 : dm_AllR (dm_Good dm_tb RX10 cX10_witness 8 (some .boolean) false none) 80 [dm_no, dm_no, dm_push 84 (.int 60), dm_no, dm_ic_ge 87 112, dm_no, dm_no, dm_lld 89 6, dm_no, dm_ald 90 0, dm_getf 93 7 10, dm_no, dm_no, dm_li 94 (fun x y => x >>> (y.toInt64 &&& 63)), dm_push 95 (.long 1), dm_lc 96] := dr_c (dg_no) <| dr_c (dg_no) <| dr_c (dg_bipush (by decide) dX10_witness_82) <| dr_c (dg_no) <| dr_c (dg_ic_ge (by decide) dX10_witness_84) <| dr_c (dg_no) <| dr_c (dg_no) <| dr_c (dg_lload dX10_witness_87) <| dr_c (dg_no) <| dr_c (dg_aload_n (k := 0) rfl dX10_witness_89) <| dr_c (dg_getf (T := TX10) (C := RX10) (N := 11) dX10_witness_90 rfl (by decide) iw_X10 wd_320) <| dr_c (dg_no) <| dr_c (dg_no) <| dr_c (dg_lshr dX10_witness_93) <| dr_c (dg_lconst (by decide) dX10_witness_94) <| dr_c (dg_lcmp dX10_witness_95) <| dr_n
theorem tr_111_6 : dm_AllR (dm_Good dm_tb RX10 cX10_witness 8 (some .boolean) false none) 96 [dm_if_le 99 112, dm_no, dm_no, dm_ald 100 0, dm_dup 101, dm_getf 104 7 10, dm_no, dm_no, dm_push 105 (.int 1), dm_ii 106 (fun x y => x + y), dm_putf 109 7 10 .int, dm_no, dm_no, dm_goto 78, dm_no, dm_no] := dr_c (dg_if_le (by decide) dX10_witness_96) <| dr_c (dg_no) <| dr_c (dg_no) <| dr_c (dg_aload_n (k := 0) rfl dX10_witness_99) <| dr_c (dg_dup dX10_witness_100) <| dr_c (dg_getf (T := TX10) (C := RX10) (N := 11) dX10_witness_101 rfl (by decide) iw_X10 wd_320) <| dr_c (dg_no) <| dr_c (dg_no) <| dr_c (dg_iconst (by decide) dX10_witness_104) <| dr_c (dg_iadd dX10_witness_105) <| dr_c (dg_putf (T := TX10) (C := RX10) (N := 11) dX10_witness_106 rfl (by decide) iw_X10 tyX10_ok nmX10 wd_320 rfl rfl) <| dr_c (dg_no) <| dr_c (dg_no) <| dr_c (dg_goto (by decide) dX10_witness_109) <| dr_c (dg_no) <| dr_c (dg_no) <| dr_n
theorem tr_111_7 : dm_AllR (dm_Good dm_tb RX10 cX10_witness 8 (some .boolean) false none) 112 [dm_ald 113 0, dm_lld 115 6, dm_no, dm_push 116 (.long 1), dm_ald 117 0, dm_getf 120 7 10, dm_no, dm_no, dm_li 121 (fun x y => x <<< (y.toInt64 &&& 63)), dm_ll 122 (fun x y => x - y), dm_putf 125 7 9 .long, dm_no, dm_no, dm_push 126 (.int 1), dm_ret .boolean] := dr_c (dg_aload_n (k := 0) rfl dX10_witness_112) <| dr_c (dg_lload dX10_witness_113) <| dr_c (dg_no) <| dr_c (dg_lconst (by decide) dX10_witness_115) <| dr_c (dg_aload_n (k := 0) rfl dX10_witness_116) <| dr_c (dg_getf (T := TX10) (C := RX10) (N := 11) dX10_witness_117 rfl (by decide) iw_X10 wd_320) <| dr_c (dg_no) <| dr_c (dg_no) <| dr_c (dg_lshl dX10_witness_120) <| dr_c (dg_lsub dX10_witness_121) <| dr_c (dg_putf (T := TX10) (C := RX10) (N := 11) dX10_witness_122 rfl (by decide) iw_X10 tyX10_ok nmX10 wd_319 rfl rfl) <| dr_c (dg_no) <| dr_c (dg_no) <| dr_c (dg_iconst (by decide) dX10_witness_125) <| dr_c (dg_ret dX10_witness_126) <| dr_n
theorem tk_111 : dm_AllC (dm_Good dm_tb RX10 cX10_witness 8 (some .boolean) false none) 0 cd_111 := dc_c (by decide) tr_111_0 <| dc_c (by decide) tr_111_1 <| dc_c (by decide) tr_111_2 <| dc_c (by decide) tr_111_3 <| dc_c (by decide) tr_111_4 <| dc_c (by decide) tr_111_5 <| dc_c (by decide) tr_111_6 <| dc_c (by decide) tr_111_7 <| dc_n
theorem dX10_place_0 : decode cX10_place 0 = .ok (.aload_n 0, 1) := by decide +kernel
theorem dX10_place_1 : decode cX10_place 1 = .ok (.getfield 202, 3) := by decide +kernel
theorem dX10_place_4 : decode cX10_place 4 = .ok (.lreturn, 1) := by decide +kernel
def cd_112 : dm_Code := [[dm_ald 1 0, dm_getf 4 7 9, dm_no, dm_no, dm_lret]]
theorem tr_112_0 : dm_AllR (dm_Good dm_tb RX10 cX10_place 1 (some .long) false none) 0 [dm_ald 1 0, dm_getf 4 7 9, dm_no, dm_no, dm_lret] := dr_c (dg_aload_n (k := 0) rfl dX10_place_0) <| dr_c (dg_getf (T := TX10) (C := RX10) (N := 11) dX10_place_1 rfl (by decide) iw_X10 wd_319) <| dr_c (dg_no) <| dr_c (dg_no) <| dr_c (dg_lret dX10_place_4) <| dr_n
theorem tk_112 : dm_AllC (dm_Good dm_tb RX10 cX10_place 1 (some .long) false none) 0 cd_112 := dc_c (by decide) tr_112_0 <| dc_n
theorem dX10_digits_0 : decode cX10_digits 0 = .ok (.aload_n 0, 1) := by decide +kernel
theorem dX10_digits_1 : decode cX10_digits 1 = .ok (.getfield 198, 3) := by decide +kernel
theorem dX10_digits_4 : decode cX10_digits 4 = .ok (.ireturn, 1) := by decide +kernel
def cd_113 : dm_Code := [[dm_ald 1 0, dm_getf 4 7 10, dm_no, dm_no, dm_ret .int]]
theorem tr_113_0 : dm_AllR (dm_Good dm_tb RX10 cX10_digits 1 (some .int) false none) 0 [dm_ald 1 0, dm_getf 4 7 10, dm_no, dm_no, dm_ret .int] := dr_c (dg_aload_n (k := 0) rfl dX10_digits_0) <| dr_c (dg_getf (T := TX10) (C := RX10) (N := 11) dX10_digits_1 rfl (by decide) iw_X10 wd_320) <| dr_c (dg_no) <| dr_c (dg_no) <| dr_c (dg_ret dX10_digits_4) <| dr_n
theorem tk_113 : dm_AllC (dm_Good dm_tb RX10 cX10_digits 1 (some .int) false none) 0 cd_113 := dc_c (by decide) tr_113_0 <| dc_n
theorem dX10_check_0 : decode cX10_check 0 = .ok (.aload_n 0, 1) := by decide +kernel
theorem dX10_check_1 : decode cX10_check 1 = .ok (.getfield 10, 3) := by decide +kernel
theorem dX10_check_4 : decode cX10_check 4 = .ok (.iload_n 1, 1) := by decide +kernel
theorem dX10_check_5 : decode cX10_check 5 = .ok (.invokevirtual 135, 3) := by decide +kernel
theorem dX10_check_8 : decode cX10_check 8 = .ok (.ifCond .eq 33, 3) := by decide +kernel
theorem dX10_check_11 : decode cX10_check 11 = .ok (.aload_n 0, 1) := by decide +kernel
theorem dX10_check_12 : decode cX10_check 12 = .ok (.getfield 10, 3) := by decide +kernel
theorem dX10_check_15 : decode cX10_check 15 = .ok (.iload_n 2, 1) := by decide +kernel
theorem dX10_check_16 : decode cX10_check 16 = .ok (.invokevirtual 135, 3) := by decide +kernel
theorem dX10_check_19 : decode cX10_check 19 = .ok (.ifCond .eq 22, 3) := by decide +kernel
theorem dX10_check_22 : decode cX10_check 22 = .ok (.lload_n 3, 1) := by decide +kernel
theorem dX10_check_23 : decode cX10_check 23 = .ok (.iload 5, 2) := by decide +kernel
theorem dX10_check_25 : decode cX10_check 25 = .ok (.invokestatic 148, 3) := by decide +kernel
theorem dX10_check_28 : decode cX10_check 28 = .ok (.ifCond .eq 13, 3) := by decide +kernel
theorem dX10_check_31 : decode cX10_check 31 = .ok (.lload 6, 2) := by decide +kernel
theorem dX10_check_33 : decode cX10_check 33 = .ok (.iload 8, 2) := by decide +kernel
theorem dX10_check_35 : decode cX10_check 35 = .ok (.invokestatic 148, 3) := by decide +kernel
theorem dX10_check_38 : decode cX10_check 38 = .ok (.ifCond .ne 5, 3) := by decide +kernel
theorem dX10_check_41 : decode cX10_check 41 = .ok (.iconst (-1), 1) := by decide +kernel
theorem dX10_check_42 : decode cX10_check 42 = .ok (.ireturn, 1) := by decide +kernel
theorem dX10_check_43 : decode cX10_check 43 = .ok (.aload_n 0, 1) := by decide +kernel
theorem dX10_check_44 : decode cX10_check 44 = .ok (.iload_n 1, 1) := by decide +kernel
theorem dX10_check_45 : decode cX10_check 45 = .ok (.iload_n 2, 1) := by decide +kernel
theorem dX10_check_46 : decode cX10_check 46 = .ok (.lload_n 3, 1) := by decide +kernel
theorem dX10_check_47 : decode cX10_check 47 = .ok (.iload 5, 2) := by decide +kernel
theorem dX10_check_49 : decode cX10_check 49 = .ok (.invokevirtual 206, 3) := by decide +kernel
theorem dX10_check_52 : decode cX10_check 52 = .ok (.ifCond .ne 5, 3) := by decide +kernel
theorem dX10_check_55 : decode cX10_check 55 = .ok (.iconst 1, 1) := by decide +kernel
theorem dX10_check_56 : decode cX10_check 56 = .ok (.ireturn, 1) := by decide +kernel
theorem dX10_check_57 : decode cX10_check 57 = .ok (.aload_n 0, 1) := by decide +kernel
theorem dX10_check_58 : decode cX10_check 58 = .ok (.iload_n 2, 1) := by decide +kernel
theorem dX10_check_59 : decode cX10_check 59 = .ok (.iload_n 1, 1) := by decide +kernel
theorem dX10_check_60 : decode cX10_check 60 = .ok (.lload 6, 2) := by decide +kernel
theorem dX10_check_62 : decode cX10_check 62 = .ok (.iload 8, 2) := by decide +kernel
theorem dX10_check_64 : decode cX10_check 64 = .ok (.invokevirtual 206, 3) := by decide +kernel
theorem dX10_check_67 : decode cX10_check 67 = .ok (.ifCond .eq 7, 3) := by decide +kernel
theorem dX10_check_70 : decode cX10_check 70 = .ok (.iconst 0, 1) := by decide +kernel
theorem dX10_check_71 : decode cX10_check 71 = .ok (.goto 4, 3) := by decide +kernel
theorem dX10_check_74 : decode cX10_check 74 = .ok (.iconst 2, 1) := by decide +kernel
theorem dX10_check_75 : decode cX10_check 75 = .ok (.ireturn, 1) := by decide +kernel
def cd_114 : dm_Code := [[dm_ald 1 0, dm_getf 4 7 0, dm_no, dm_no, dm_ild 5 1, dm_inv 8 17 1 2, dm_no, dm_no, dm_if_eq 11 41, dm_no, dm_no, dm_ald 12 0, dm_getf 15 7 0, dm_no, dm_no, dm_ild 16 2],
  [dm_inv 19 17 1 2, dm_no, dm_no, dm_if_eq 22 41, dm_no, dm_no, dm_lld 23 3, dm_ild 25 5, dm_no, dm_ins 28 133 2, dm_no, dm_no, dm_if_eq 31 41, dm_no, dm_no, dm_lld 33 6],
  [dm_no, dm_ild 35 8, dm_no, dm_ins 38 133 2, dm_no, dm_no, dm_if_ne 41 43, dm_no, dm_no, dm_push 42 (.int (-1)), dm_ret .int, dm_ald 44 0, dm_ild 45 1, dm_ild 46 2, dm_lld 47 3, dm_ild 49 5],
  [dm_no, dm_inv 52 131 4 7, dm_no, dm_no, dm_if_ne 55 57, dm_no, dm_no, dm_push 56 (.int 1), dm_ret .int, dm_ald 58 0, dm_ild 59 2, dm_ild 60 1, dm_lld 62 6, dm_no, dm_ild 64 8, dm_no],
  [dm_inv 67 131 4 7, dm_no, dm_no, dm_if_eq 70 74, dm_no, dm_no, dm_push 71 (.int 0), dm_goto 75, dm_no, dm_no, dm_push 75 (.int 2), dm_ret .int]]
theorem tr_114_0 : dm_AllR (dm_Good dm_tb RX10 cX10_check 9 (some .int) false none) 0 [dm_ald 1 0, dm_getf 4 7 0, dm_no, dm_no, dm_ild 5 1, dm_inv 8 17 1 2, dm_no, dm_no, dm_if_eq 11 41, dm_no, dm_no, dm_ald 12 0, dm_getf 15 7 0, dm_no, dm_no, dm_ild 16 2] := dr_c (dg_aload_n (k := 0) rfl dX10_check_0) <| dr_c (dg_getf (T := TX10) (C := RX10) (N := 11) dX10_check_1 rfl (by decide) iw_X10 wd_310) <| dr_c (dg_no) <| dr_c (dg_no) <| dr_c (dg_iload_n (k := 1) rfl dX10_check_4) <| dr_c (dg_inv dX10_check_5 mo_17 rfl rfl wd_579 wd_361 wd_362 pd_17) <| dr_c (dg_no) <| dr_c (dg_no) <| dr_c (dg_if_eq (by decide) dX10_check_8) <| dr_c (dg_no) <| dr_c (dg_no) <| dr_c (dg_aload_n (k := 0) rfl dX10_check_11) <| dr_c (dg_getf (T := TX10) (C := RX10) (N := 11) dX10_check_12 rfl (by decide) iw_X10 wd_310) <| dr_c (dg_no) <| dr_c (dg_no) <| dr_c (dg_iload_n (k := 2) rfl dX10_check_15) <| dr_n
theorem tr_114_1 : dm_AllR (dm_Good dm_tb RX10 cX10_check 9 (some .int) false none) 16 [dm_inv 19 17 1 2, dm_no, dm_no, dm_if_eq 22 41, dm_no, dm_no, dm_lld 23 3, dm_ild 25 5, dm_no, dm_ins 28 133 2, dm_no, dm_no, dm_if_eq 31 41, dm_no, dm_no, dm_lld 33 6] := dr_c (dg_inv dX10_check_16 mo_17 rfl rfl wd_579 wd_361 wd_362 pd_17) <| dr_c (dg_no) <| dr_c (dg_no) <| dr_c (dg_if_eq (by decide) dX10_check_19) <| dr_c (dg_no) <| dr_c (dg_no) <| dr_c (dg_lload_n (k := 3) rfl dX10_check_22) <| dr_c (dg_iload dX10_check_23) <| dr_c (dg_no) <| dr_c (dg_ins dX10_check_25 mo_133 wd_688 wd_689 pd_133) <| dr_c (dg_no) <| dr_c (dg_no) <| dr_c (dg_if_eq (by decide) dX10_check_28) <| dr_c (dg_no) <| dr_c (dg_no) <| dr_c (dg_lload dX10_check_31) <| dr_n
theorem tr_114_2 : dm_AllR (dm_Good dm_tb RX10 cX10_check 9 (some .int) false none) 32 [dm_no, dm_ild 35 8, dm_no, dm_ins 38 133 2, dm_no, dm_no, dm_if_ne 41 43, dm_no, dm_no, dm_push 42 (.int (-1)), dm_ret .int, dm_ald 44 0, dm_ild 45 1, dm_ild 46 2, dm_lld 47 3, dm_ild 49 5] := dr_c (dg_no) <| dr_c (dg_iload dX10_check_33) <| dr_c (dg_no) <| dr_c (dg_ins dX10_check_35 mo_133 wd_688 wd_689 pd_133) <| dr_c (dg_no) <| dr_c (dg_no) <| dr_c (dg_if_ne (by decide) dX10_check_38) <| dr_c (dg_no) <| dr_c (dg_no) <| dr_c (dg_iconst (by decide) dX10_check_41) <| dr_c (dg_ret dX10_check_42) <| dr_c (dg_aload_n (k := 0) rfl dX10_check_43) <| dr_c (dg_iload_n (k := 1) rfl dX10_check_44) <| dr_c (dg_iload_n (k := 2) rfl dX10_check_45) <| dr_c (dg_lload_n (k := 3) rfl dX10_check_46) <| dr_c (dg_iload dX10_check_47) <| dr_n
theorem tr_114_3 : dm_AllR (dm_Good dm_tb RX10 cX10_check 9 (some .int) false none) 48 [dm_no, dm_inv 52 131 4 7, dm_no, dm_no, dm_if_ne 55 57, dm_no, dm_no, dm_push 56 (.int 1), dm_ret .int, dm_ald 58 0, dm_ild 59 2, dm_ild 60 1, dm_lld 62 6, dm_no, dm_ild 64 8, dm_no] := dr_c (dg_no) <| dr_c (dg_inv dX10_check_49 mo_131 rfl rfl wd_691 wd_693 wd_9 pd_131) <| dr_c (dg_no) <| dr_c (dg_no) <| dr_c (dg_if_ne (by decide) dX10_check_52) <| dr_c (dg_no) <| dr_c (dg_no) <| dr_c (dg_iconst (by decide) dX10_check_55) <| dr_c (dg_ret dX10_check_56) <| dr_c (dg_aload_n (k := 0) rfl dX10_check_57) <| dr_c (dg_iload_n (k := 2) rfl dX10_check_58) <| dr_c (dg_iload_n (k := 1) rfl dX10_check_59) <| dr_c (dg_lload dX10_check_60) <| dr_c (dg_no) <| dr_c (dg_iload dX10_check_62) <| dr_c (dg_no) <| dr_n
theorem tr_114_4 : dm_AllR (dm_Good dm_tb RX10 cX10_check 9 (some .int) false none) 64 [dm_inv 67 131 4 7, dm_no, dm_no, dm_if_eq 70 74, dm_no, dm_no, dm_push 71 (.int 0), dm_goto 75, dm_no, dm_no, dm_push 75 (.int 2), dm_ret .int] := dr_c (dg_inv dX10_check_64 mo_131 rfl rfl wd_691 wd_693 wd_9 pd_131) <| dr_c (dg_no) <| dr_c (dg_no) <| dr_c (dg_if_eq (by decide) dX10_check_67) <| dr_c (dg_no) <| dr_c (dg_no) <| dr_c (dg_iconst (by decide) dX10_check_70) <| dr_c (dg_goto (by decide) dX10_check_71) <| dr_c (dg_no) <| dr_c (dg_no) <| dr_c (dg_iconst (by decide) dX10_check_74) <| dr_c (dg_ret dX10_check_75) <| dr_n
theorem tk_114 : dm_AllC (dm_Good dm_tb RX10 cX10_check 9 (some .int) false none) 0 cd_114 := dc_c (by decide) tr_114_0 <| dc_c (by decide) tr_114_1 <| dc_c (by decide) tr_114_2 <| dc_c (by decide) tr_114_3 <| dc_c (by decide) tr_114_4 <| dc_n
theorem dX10_pack_0 : decode cX10_pack 0 = .ok (.aload_n 0, 1) := by decide +kernel
theorem dX10_pack_1 : decode cX10_pack 1 = .ok (.getfield 10, 3) := by decide +kernel
theorem dX10_pack_4 : decode cX10_pack 4 = .ok (.iload_n 1, 1) := by decide +kernel
theorem dX10_pack_5 : decode cX10_pack 5 = .ok (.invokevirtual 135, 3) := by decide +kernel
theorem dX10_pack_8 : decode cX10_pack 8 = .ok (.ifCond .eq 14, 3) := by decide +kernel
theorem dX10_pack_11 : decode cX10_pack 11 = .ok (.aload_n 0, 1) := by decide +kernel
theorem dX10_pack_12 : decode cX10_pack 12 = .ok (.iload_n 1, 1) := by decide +kernel
theorem dX10_pack_13 : decode cX10_pack 13 = .ok (.invokevirtual 177, 3) := by decide +kernel
theorem dX10_pack_16 : decode cX10_pack 16 = .ok (.sipush 600, 3) := by decide +kernel
theorem dX10_pack_19 : decode cX10_pack 19 = .ok (.if_icmp .le 5, 3) := by decide +kernel
theorem dX10_pack_22 : decode cX10_pack 22 = .ok (.iconst (-1), 1) := by decide +kernel
theorem dX10_pack_23 : decode cX10_pack 23 = .ok (.ireturn, 1) := by decide +kernel
theorem dX10_pack_24 : decode cX10_pack 24 = .ok (.aload_n 0, 1) := by decide +kernel
theorem dX10_pack_25 : decode cX10_pack 25 = .ok (.getfield 36, 3) := by decide +kernel
theorem dX10_pack_28 : decode cX10_pack 28 = .ok (.aload_n 0, 1) := by decide +kernel
theorem dX10_pack_29 : decode cX10_pack 29 = .ok (.getfield 40, 3) := by decide +kernel
theorem dX10_pack_32 : decode cX10_pack 32 = .ok (.invokevirtual 210, 3) := by decide +kernel
theorem dX10_pack_35 : decode cX10_pack 35 = .ok (.aload_n 0, 1) := by decide +kernel
theorem dX10_pack_36 : decode cX10_pack 36 = .ok (.getfield 36, 3) := by decide +kernel
theorem dX10_pack_39 : decode cX10_pack 39 = .ok (.invokevirtual 213, 3) := by decide +kernel
theorem dX10_pack_42 : decode cX10_pack 42 = .ok (.ireturn, 1) := by decide +kernel
def cd_115 : dm_Code := [[dm_ald 1 0, dm_getf 4 7 0, dm_no, dm_no, dm_ild 5 1, dm_inv 8 17 1 2, dm_no, dm_no, dm_if_eq 11 22, dm_no, dm_no, dm_ald 12 0, dm_ild 13 1, dm_inv 16 132 1 7, dm_no, dm_no],
  [dm_push 19 (.int 600), dm_no, dm_no, dm_ic_le 22 24, dm_no, dm_no, dm_push 23 (.int (-1)), dm_ret .int, dm_ald 25 0, dm_getf 28 7 4, dm_no, dm_no, dm_ald 29 0, dm_getf 32 7 5, dm_no, dm_no],
  [dm_inv 35 10 1 1, dm_no, dm_no, dm_ald 36 0, dm_getf 39 7 4, dm_no, dm_no, dm_inv 42 6 0 1, dm_no, dm_no, dm_ret .int]]
theorem tr_115_0 : dm_AllR (dm_Good dm_tb RX10 cX10_pack 2 (some .int) false none) 0 [dm_ald 1 0, dm_getf 4 7 0, dm_no, dm_no, dm_ild 5 1, dm_inv 8 17 1 2, dm_no, dm_no, dm_if_eq 11 22, dm_no, dm_no, dm_ald 12 0, dm_ild 13 1, dm_inv 16 132 1 7, dm_no, dm_no] := dr_c (dg_aload_n (k := 0) rfl dX10_pack_0) <| dr_c (dg_getf (T := TX10) (C := RX10) (N := 11) dX10_pack_1 rfl (by decide) iw_X10 wd_310) <| dr_c (dg_no) <| dr_c (dg_no) <| dr_c (dg_iload_n (k := 1) rfl dX10_pack_4) <| dr_c (dg_inv dX10_pack_5 mo_17 rfl rfl wd_579 wd_361 wd_362 pd_17) <| dr_c (dg_no) <| dr_c (dg_no) <| dr_c (dg_if_eq (by decide) dX10_pack_8) <| dr_c (dg_no) <| dr_c (dg_no) <| dr_c (dg_aload_n (k := 0) rfl dX10_pack_11) <| dr_c (dg_iload_n (k := 1) rfl dX10_pack_12) <| dr_c (dg_inv dX10_pack_13 mo_132 rfl rfl wd_628 wd_630 wd_8 pd_132) <| dr_c (dg_no) <| dr_c (dg_no) <| dr_n
theorem tr_115_1 : dm_AllR (dm_Good dm_tb RX10 cX10_pack 2 (some .int) false none) 16 [dm_push 19 (.int 600), dm_no, dm_no, dm_ic_le 22 24, dm_no, dm_no, dm_push 23 (.int (-1)), dm_ret .int, dm_ald 25 0, dm_getf 28 7 4, dm_no, dm_no, dm_ald 29 0, dm_getf 32 7 5, dm_no, dm_no] := dr_c (dg_sipush (by decide) dX10_pack_16) <| dr_c (dg_no) <| dr_c (dg_no) <| dr_c (dg_ic_le (by decide) dX10_pack_19) <| dr_c (dg_no) <| dr_c (dg_no) <| dr_c (dg_iconst (by decide) dX10_pack_22) <| dr_c (dg_ret dX10_pack_23) <| dr_c (dg_aload_n (k := 0) rfl dX10_pack_24) <| dr_c (dg_getf (T := TX10) (C := RX10) (N := 11) dX10_pack_25 rfl (by decide) iw_X10 wd_314) <| dr_c (dg_no) <| dr_c (dg_no) <| dr_c (dg_aload_n (k := 0) rfl dX10_pack_28) <| dr_c (dg_getf (T := TX10) (C := RX10) (N := 11) dX10_pack_29 rfl (by decide) iw_X10 wd_315) <| dr_c (dg_no) <| dr_c (dg_no) <| dr_n
theorem tr_115_2 : dm_AllR (dm_Good dm_tb RX10 cX10_pack 2 (some .int) false none) 32 [dm_inv 35 10 1 1, dm_no, dm_no, dm_ald 36 0, dm_getf 39 7 4, dm_no, dm_no, dm_inv 42 6 0 1, dm_no, dm_no, dm_ret .int] := dr_c (dg_inv dX10_pack_32 mo_10 rfl rfl wd_703 wd_704 wd_705 pd_10) <| dr_c (dg_no) <| dr_c (dg_no) <| dr_c (dg_aload_n (k := 0) rfl dX10_pack_35) <| dr_c (dg_getf (T := TX10) (C := RX10) (N := 11) dX10_pack_36 rfl (by decide) iw_X10 wd_314) <| dr_c (dg_no) <| dr_c (dg_no) <| dr_c (dg_inv dX10_pack_39 mo_6 rfl rfl wd_653 wd_654 wd_655 pd_6) <| dr_c (dg_no) <| dr_c (dg_no) <| dr_c (dg_ret dX10_pack_42) <| dr_n
theorem tk_115 : dm_AllC (dm_Good dm_tb RX10 cX10_pack 2 (some .int) false none) 0 cd_115 := dc_c (by decide) tr_115_0 <| dc_c (by decide) tr_115_1 <| dc_c (by decide) tr_115_2 <| dc_n
theorem dX10_bit_0 : decode cX10_bit 0 = .ok (.aload_n 0, 1) := by decide +kernel
theorem dX10_bit_1 : decode cX10_bit 1 = .ok (.getfield 36, 3) := by decide +kernel
theorem dX10_bit_4 : decode cX10_bit 4 = .ok (.iload_n 1, 1) := by decide +kernel
theorem dX10_bit_5 : decode cX10_bit 5 = .ok (.invokevirtual 214, 3) := by decide +kernel
theorem dX10_bit_8 : decode cX10_bit 8 = .ok (.ireturn, 1) := by decide +kernel
def cd_116 : dm_Code := [[dm_ald 1 0, dm_getf 4 7 4, dm_no, dm_no, dm_ild 5 1, dm_inv 8 7 1 1, dm_no, dm_no, dm_ret .int]]
theorem tr_116_0 : dm_AllR (dm_Good dm_tb RX10 cX10_bit 2 (some .int) false none) 0 [dm_ald 1 0, dm_getf 4 7 4, dm_no, dm_no, dm_ild 5 1, dm_inv 8 7 1 1, dm_no, dm_no, dm_ret .int] := dr_c (dg_aload_n (k := 0) rfl dX10_bit_0) <| dr_c (dg_getf (T := TX10) (C := RX10) (N := 11) dX10_bit_1 rfl (by decide) iw_X10 wd_314) <| dr_c (dg_no) <| dr_c (dg_no) <| dr_c (dg_iload_n (k := 1) rfl dX10_bit_4) <| dr_c (dg_inv dX10_bit_5 mo_7 rfl rfl wd_716 wd_717 wd_718 pd_7) <| dr_c (dg_no) <| dr_c (dg_no) <| dr_c (dg_ret dX10_bit_8) <| dr_n
theorem tk_116 : dm_AllC (dm_Good dm_tb RX10 cX10_bit 2 (some .int) false none) 0 cd_116 := dc_c (by decide) tr_116_0 <| dc_n
theorem dX10_add_0 : decode cX10_add 0 = .ok (.iload_n 3, 1) := by decide +kernel
theorem dX10_add_1 : decode cX10_add 1 = .ok (.ifCond .lt 24, 3) := by decide +kernel
theorem dX10_add_4 : decode cX10_add 4 = .ok (.iload_n 3, 1) := by decide +kernel
theorem dX10_add_5 : decode cX10_add 5 = .ok (.bipush 64, 2) := by decide +kernel
theorem dX10_add_7 : decode cX10_add 7 = .ok (.if_icmp .gt 18, 3) := by decide +kernel
theorem dX10_add_10 : decode cX10_add 10 = .ok (.aload_n 0, 1) := by decide +kernel
theorem dX10_add_11 : decode cX10_add 11 = .ok (.getfield 36, 3) := by decide +kernel
theorem dX10_add_14 : decode cX10_add 14 = .ok (.invokevirtual 213, 3) := by decide +kernel
theorem dX10_add_17 : decode cX10_add 17 = .ok (.iload_n 3, 1) := by decide +kernel
theorem dX10_add_18 : decode cX10_add 18 = .ok (.iadd, 1) := by decide +kernel
theorem dX10_add_19 : decode cX10_add 19 = .ok (.sipush 600, 3) := by decide +kernel
theorem dX10_add_22 : decode cX10_add 22 = .ok (.if_icmp .le 5, 3) := by decide +kernel
theorem dX10_add_25 : decode cX10_add 25 = .ok (.iconst (-1), 1) := by decide +kernel
theorem dX10_add_26 : decode cX10_add 26 = .ok (.ireturn, 1) := by decide +kernel
theorem dX10_add_27 : decode cX10_add 27 = .ok (.aload_n 0, 1) := by decide +kernel
theorem dX10_add_28 : decode cX10_add 28 = .ok (.getfield 36, 3) := by decide +kernel
theorem dX10_add_31 : decode cX10_add 31 = .ok (.lload_n 1, 1) := by decide +kernel
theorem dX10_add_32 : decode cX10_add 32 = .ok (.iload_n 3, 1) := by decide +kernel
theorem dX10_add_33 : decode cX10_add 33 = .ok (.invokevirtual 217, 3) := by decide +kernel
theorem dX10_add_36 : decode cX10_add 36 = .ok (.aload_n 0, 1) := by decide +kernel
theorem dX10_add_37 : decode cX10_add 37 = .ok (.getfield 36, 3) := by decide +kernel
theorem dX10_add_40 : decode cX10_add 40 = .ok (.invokevirtual 213, 3) := by decide +kernel
theorem dX10_add_43 : decode cX10_add 43 = .ok (.ireturn, 1) := by decide +kernel
def cd_117 : dm_Code := [[dm_ild 1 3, dm_if_lt 4 25, dm_no, dm_no, dm_ild 5 3, dm_push 7 (.int 64), dm_no, dm_ic_gt 10 25, dm_no, dm_no, dm_ald 11 0, dm_getf 14 7 4, dm_no, dm_no, dm_inv 17 6 0 1, dm_no],
  [dm_no, dm_ild 18 3, dm_ii 19 (fun x y => x + y), dm_push 22 (.int 600), dm_no, dm_no, dm_ic_le 25 27, dm_no, dm_no, dm_push 26 (.int (-1)), dm_ret .int, dm_ald 28 0, dm_getf 31 7 4, dm_no, dm_no, dm_lld 32 1],
  [dm_ild 33 3, dm_inv 36 8 2 1, dm_no, dm_no, dm_ald 37 0, dm_getf 40 7 4, dm_no, dm_no, dm_inv 43 6 0 1, dm_no, dm_no, dm_ret .int]]
theorem tr_117_0 : dm_AllR (dm_Good dm_tb RX10 cX10_add 4 (some .int) false none) 0 [dm_ild 1 3, dm_if_lt 4 25, dm_no, dm_no, dm_ild 5 3, dm_push 7 (.int 64), dm_no, dm_ic_gt 10 25, dm_no, dm_no, dm_ald 11 0, dm_getf 14 7 4, dm_no, dm_no, dm_inv 17 6 0 1, dm_no] := dr_c (dg_iload_n (k := 3) rfl dX10_add_0) <| dr_c (dg_if_lt (by decide) dX10_add_1) <| dr_c (dg_no) <| dr_c (dg_no) <| dr_c (dg_iload_n (k := 3) rfl dX10_add_4) <| dr_c (dg_bipush (by decide) dX10_add_5) <| dr_c (dg_no) <| dr_c (dg_ic_gt (by decide) dX10_add_7) <| dr_c (dg_no) <| dr_c (dg_no) <| dr_c (dg_aload_n (k := 0) rfl dX10_add_10) <| dr_c (dg_getf (T := TX10) (C := RX10) (N := 11) dX10_add_11 rfl (by decide) iw_X10 wd_314) <| dr_c (dg_no) <| dr_c (dg_no) <| dr_c (dg_inv dX10_add_14 mo_6 rfl rfl wd_653 wd_654 wd_655 pd_6) <| dr_c (dg_no) <| dr_n
theorem tr_117_1 : dm_AllR (dm_Good dm_tb RX10 cX10_add 4 (some .int) false none) 16 [dm_no, dm_ild 18 3, dm_ii 19 (fun x y => x + y), dm_push 22 (.int 600), dm_no, dm_no, dm_ic_le 25 27, dm_no, dm_no, dm_push 26 (.int (-1)), dm_ret .int, dm_ald 28 0, dm_getf 31 7 4, dm_no, dm_no, dm_lld 32 1] := dr_c (dg_no) <| dr_c (dg_iload_n (k := 3) rfl dX10_add_17) <| dr_c (dg_iadd dX10_add_18) <| dr_c (dg_sipush (by decide) dX10_add_19) <| dr_c (dg_no) <| dr_c (dg_no) <| dr_c (dg_ic_le (by decide) dX10_add_22) <| dr_c (dg_no) <| dr_c (dg_no) <| dr_c (dg_iconst (by decide) dX10_add_25) <| dr_c (dg_ret dX10_add_26) <| dr_c (dg_aload_n (k := 0) rfl dX10_add_27) <| dr_c (dg_getf (T := TX10) (C := RX10) (N := 11) dX10_add_28 rfl (by decide) iw_X10 wd_314) <| dr_c (dg_no) <| dr_c (dg_no) <| dr_c (dg_lload_n (k := 1) rfl dX10_add_31) <| dr_n
theorem tr_117_2 : dm_AllR (dm_Good dm_tb RX10 cX10_add 4 (some .int) false none) 32 [dm_ild 33 3, dm_inv 36 8 2 1, dm_no, dm_no, dm_ald 37 0, dm_getf 40 7 4, dm_no, dm_no, dm_inv 43 6 0 1, dm_no, dm_no, dm_ret .int] := dr_c (dg_iload_n (k := 3) rfl dX10_add_32) <| dr_c (dg_inv dX10_add_33 mo_8 rfl rfl wd_725 wd_638 wd_639 pd_8) <| dr_c (dg_no) <| dr_c (dg_no) <| dr_c (dg_aload_n (k := 0) rfl dX10_add_36) <| dr_c (dg_getf (T := TX10) (C := RX10) (N := 11) dX10_add_37 rfl (by decide) iw_X10 wd_314) <| dr_c (dg_no) <| dr_c (dg_no) <| dr_c (dg_inv dX10_add_40 mo_6 rfl rfl wd_653 wd_654 wd_655 pd_6) <| dr_c (dg_no) <| dr_c (dg_no) <| dr_c (dg_ret dX10_add_43) <| dr_n
theorem tk_117 : dm_AllC (dm_Good dm_tb RX10 cX10_add 4 (some .int) false none) 0 cd_117 := dc_c (by decide) tr_117_0 <| dc_c (by decide) tr_117_1 <| dc_c (by decide) tr_117_2 <| dc_n
theorem dX10_end_0 : decode cX10_end 0 = .ok (.aload_n 0, 1) := by decide +kernel
theorem dX10_end_1 : decode cX10_end 1 = .ok (.getfield 36, 3) := by decide +kernel
theorem dX10_end_4 : decode cX10_end 4 = .ok (.iload_n 1, 1) := by decide +kernel
theorem dX10_end_5 : decode cX10_end 5 = .ok (.invokevirtual 221, 3) := by decide +kernel
theorem dX10_end_8 : decode cX10_end 8 = .ok (.ireturn, 1) := by decide +kernel
def cd_118 : dm_Code := [[dm_ald 1 0, dm_getf 4 7 4, dm_no, dm_no, dm_ild 5 1, dm_inv 8 9 1 1, dm_no, dm_no, dm_ret .boolean]]
theorem tr_118_0 : dm_AllR (dm_Good dm_tb RX10 cX10_end 2 (some .boolean) false none) 0 [dm_ald 1 0, dm_getf 4 7 4, dm_no, dm_no, dm_ild 5 1, dm_inv 8 9 1 1, dm_no, dm_no, dm_ret .boolean] := dr_c (dg_aload_n (k := 0) rfl dX10_end_0) <| dr_c (dg_getf (T := TX10) (C := RX10) (N := 11) dX10_end_1 rfl (by decide) iw_X10 wd_314) <| dr_c (dg_no) <| dr_c (dg_no) <| dr_c (dg_iload_n (k := 1) rfl dX10_end_4) <| dr_c (dg_inv dX10_end_5 mo_9 rfl rfl wd_306 wd_307 wd_308 pd_9) <| dr_c (dg_no) <| dr_c (dg_no) <| dr_c (dg_ret dX10_end_8) <| dr_n
theorem tk_118 : dm_AllC (dm_Good dm_tb RX10 cX10_end 2 (some .boolean) false none) 0 cd_118 := dc_c (by decide) tr_118_0 <| dc_n
theorem dX10_read_0 : decode cX10_read 0 = .ok (.aload_n 0, 1) := by decide +kernel
theorem dX10_read_1 : decode cX10_read 1 = .ok (.getfield 10, 3) := by decide +kernel
theorem dX10_read_4 : decode cX10_read 4 = .ok (.invokevirtual 77, 3) := by decide +kernel
theorem dX10_read_7 : decode cX10_read 7 = .ok (.istore_n 1, 1) := by decide +kernel
theorem dX10_read_8 : decode cX10_read 8 = .ok (.aload_n 0, 1) := by decide +kernel
theorem dX10_read_9 : decode cX10_read 9 = .ok (.getfield 48, 3) := by decide +kernel
theorem dX10_read_12 : decode cX10_read 12 = .ok (.aload_n 0, 1) := by decide +kernel
theorem dX10_read_13 : decode cX10_read 13 = .ok (.getfield 10, 3) := by decide +kernel
theorem dX10_read_16 : decode cX10_read 16 = .ok (.getfield 63, 3) := by decide +kernel
theorem dX10_read_19 : decode cX10_read 19 = .ok (.invokevirtual 224, 3) := by decide +kernel
theorem dX10_read_22 : decode cX10_read 22 = .ok (.istore_n 2, 1) := by decide +kernel
theorem dX10_read_23 : decode cX10_read 23 = .ok (.aload_n 0, 1) := by decide +kernel
theorem dX10_read_24 : decode cX10_read 24 = .ok (.aload_n 0, 1) := by decide +kernel
theorem dX10_read_25 : decode cX10_read 25 = .ok (.getfield 48, 3) := by decide +kernel
theorem dX10_read_28 : decode cX10_read 28 = .ok (.invokevirtual 228, 3) := by decide +kernel
theorem dX10_read_31 : decode cX10_read 31 = .ok (.putfield 231, 3) := by decide +kernel
theorem dX10_read_34 : decode cX10_read 34 = .ok (.aload_n 0, 1) := by decide +kernel
theorem dX10_read_35 : decode cX10_read 35 = .ok (.getfield 231, 3) := by decide +kernel
theorem dX10_read_38 : decode cX10_read 38 = .ok (.iconst (-1), 1) := by decide +kernel
theorem dX10_read_39 : decode cX10_read 39 = .ok (.if_icmp .ne 17, 3) := by decide +kernel
theorem dX10_read_42 : decode cX10_read 42 = .ok (.aload_n 0, 1) := by decide +kernel
theorem dX10_read_43 : decode cX10_read 43 = .ok (.getfield 10, 3) := by decide +kernel
theorem dX10_read_46 : decode cX10_read 46 = .ok (.iconst 0, 1) := by decide +kernel
theorem dX10_read_47 : decode cX10_read 47 = .ok (.iload_n 2, 1) := by decide +kernel
theorem dX10_read_48 : decode cX10_read 48 = .ok (.bipush 6, 2) := by decide +kernel
theorem dX10_read_50 : decode cX10_read 50 = .ok (.iconst (-1), 1) := by decide +kernel
theorem dX10_read_51 : decode cX10_read 51 = .ok (.iconst (-1), 1) := by decide +kernel
theorem dX10_read_52 : decode cX10_read 52 = .ok (.invokevirtual 88, 3) := by decide +kernel
theorem dX10_read_55 : decode cX10_read 55 = .ok (.pop, 1) := by decide +kernel
theorem dX10_read_56 : decode cX10_read 56 = .ok (.aload_n 0, 1) := by decide +kernel
theorem dX10_read_57 : decode cX10_read 57 = .ok (.iload_n 1, 1) := by decide +kernel
theorem dX10_read_58 : decode cX10_read 58 = .ok (.iconst 1, 1) := by decide +kernel
theorem dX10_read_59 : decode cX10_read 59 = .ok (.iconst (-1), 1) := by decide +kernel
theorem dX10_read_60 : decode cX10_read 60 = .ok (.iconst (-1), 1) := by decide +kernel
theorem dX10_read_61 : decode cX10_read 61 = .ok (.invokevirtual 92, 3) := by decide +kernel
theorem dX10_read_64 : decode cX10_read 64 = .ok (.ifCond .eq 7, 3) := by decide +kernel
theorem dX10_read_67 : decode cX10_read 67 = .ok (.iload_n 1, 1) := by decide +kernel
theorem dX10_read_68 : decode cX10_read 68 = .ok (.goto 4, 3) := by decide +kernel
theorem dX10_read_71 : decode cX10_read 71 = .ok (.iconst (-1), 1) := by decide +kernel
theorem dX10_read_72 : decode cX10_read 72 = .ok (.ireturn, 1) := by decide +kernel
def cd_119 : dm_Code := [[dm_ald 1 0, dm_getf 4 7 0, dm_no, dm_no, dm_inv 7 13 0 2, dm_no, dm_no, dm_ist 8 1, dm_ald 9 0, dm_getf 12 7 6, dm_no, dm_no, dm_ald 13 0, dm_getf 16 7 0, dm_no, dm_no],
  [dm_getf 19 2 0, dm_no, dm_no, dm_inv 22 56 1 5, dm_no, dm_no, dm_ist 23 2, dm_ald 24 0, dm_ald 25 0, dm_getf 28 7 6, dm_no, dm_no, dm_inv 31 55 0 5, dm_no, dm_no, dm_putf 34 7 8 .int],
  [dm_no, dm_no, dm_ald 35 0, dm_getf 38 7 8, dm_no, dm_no, dm_push 39 (.int (-1)), dm_ic_ne 42 56, dm_no, dm_no, dm_ald 43 0, dm_getf 46 7 0, dm_no, dm_no, dm_push 47 (.int 0), dm_ild 48 2],
  [dm_push 50 (.int 6), dm_no, dm_push 51 (.int (-1)), dm_push 52 (.int (-1)), dm_inv 55 15 5 2, dm_no, dm_no, dm_pop 56, dm_ald 57 0, dm_ild 58 1, dm_push 59 (.int 1), dm_push 60 (.int (-1)), dm_push 61 (.int (-1)), dm_inv 64 125 4 7, dm_no, dm_no],
  [dm_if_eq 67 71, dm_no, dm_no, dm_ild 68 1, dm_goto 72, dm_no, dm_no, dm_push 72 (.int (-1)), dm_ret .int]]
theorem tr_119_0 : dm_AllR (dm_Good dm_tb RX10 cX10_read 3 (some .int) false none) 0 [dm_ald 1 0, dm_getf 4 7 0, dm_no, dm_no, dm_inv 7 13 0 2, dm_no, dm_no, dm_ist 8 1, dm_ald 9 0, dm_getf 12 7 6, dm_no, dm_no, dm_ald 13 0, dm_getf 16 7 0, dm_no, dm_no] := dr_c (dg_aload_n (k := 0) rfl dX10_read_0) <| dr_c (dg_getf (T := TX10) (C := RX10) (N := 11) dX10_read_1 rfl (by decide) iw_X10 wd_310) <| dr_c (dg_no) <| dr_c (dg_no) <| dr_c (dg_inv dX10_read_4 mo_13 rfl rfl wd_401 wd_402 wd_403 pd_13) <| dr_c (dg_no) <| dr_c (dg_no) <| dr_c (dg_istore_n (k := 1) rfl (by decide) dX10_read_7) <| dr_c (dg_aload_n (k := 0) rfl dX10_read_8) <| dr_c (dg_getf (T := TX10) (C := RX10) (N := 11) dX10_read_9 rfl (by decide) iw_X10 wd_316) <| dr_c (dg_no) <| dr_c (dg_no) <| dr_c (dg_aload_n (k := 0) rfl dX10_read_12) <| dr_c (dg_getf (T := TX10) (C := RX10) (N := 11) dX10_read_13 rfl (by decide) iw_X10 wd_310) <| dr_c (dg_no) <| dr_c (dg_no) <| dr_n
theorem tr_119_1 : dm_AllR (dm_Good dm_tb RX10 cX10_read 3 (some .int) false none) 16 [dm_getf 19 2 0, dm_no, dm_no, dm_inv 22 56 1 5, dm_no, dm_no, dm_ist 23 2, dm_ald 24 0, dm_ald 25 0, dm_getf 28 7 6, dm_no, dm_no, dm_inv 31 55 0 5, dm_no, dm_no, dm_putf 34 7 8 .int] := dr_c (dg_getf (T := TX2) (C := RX2) (N := 10) dX10_read_16 rfl (by decide) iw_X2 wd_131) <| dr_c (dg_no) <| dr_c (dg_no) <| dr_c (dg_inv dX10_read_19 mo_56 rfl rfl wd_734 wd_735 wd_736 pd_56) <| dr_c (dg_no) <| dr_c (dg_no) <| dr_c (dg_istore_n (k := 2) rfl (by decide) dX10_read_22) <| dr_c (dg_aload_n (k := 0) rfl dX10_read_23) <| dr_c (dg_aload_n (k := 0) rfl dX10_read_24) <| dr_c (dg_getf (T := TX10) (C := RX10) (N := 11) dX10_read_25 rfl (by decide) iw_X10 wd_316) <| dr_c (dg_no) <| dr_c (dg_no) <| dr_c (dg_inv dX10_read_28 mo_55 rfl rfl wd_777 wd_778 wd_779 pd_55) <| dr_c (dg_no) <| dr_c (dg_no) <| dr_c (dg_putf (T := TX10) (C := RX10) (N := 11) dX10_read_31 rfl (by decide) iw_X10 tyX10_ok nmX10 wd_318 rfl rfl) <| dr_n
theorem tr_119_2 : dm_AllR (dm_Good dm_tb RX10 cX10_read 3 (some .int) false none) 32 [dm_no, dm_no, dm_ald 35 0, dm_getf 38 7 8, dm_no, dm_no, dm_push 39 (.int (-1)), dm_ic_ne 42 56, dm_no, dm_no, dm_ald 43 0, dm_getf 46 7 0, dm_no, dm_no, dm_push 47 (.int 0), dm_ild 48 2] := dr_c (dg_no) <| dr_c (dg_no) <| dr_c (dg_aload_n (k := 0) rfl dX10_read_34) <| dr_c (dg_getf (T := TX10) (C := RX10) (N := 11) dX10_read_35 rfl (by decide) iw_X10 wd_318) <| dr_c (dg_no) <| dr_c (dg_no) <| dr_c (dg_iconst (by decide) dX10_read_38) <| dr_c (dg_ic_ne (by decide) dX10_read_39) <| dr_c (dg_no) <| dr_c (dg_no) <| dr_c (dg_aload_n (k := 0) rfl dX10_read_42) <| dr_c (dg_getf (T := TX10) (C := RX10) (N := 11) dX10_read_43 rfl (by decide) iw_X10 wd_310) <| dr_c (dg_no) <| dr_c (dg_no) <| dr_c (dg_iconst (by decide) dX10_read_46) <| dr_c (dg_iload_n (k := 2) rfl dX10_read_47) <| dr_n
theorem tr_119_3 : dm_AllR (dm_Good dm_tb RX10 cX10_read 3 (some .int) false none) 48 [dm_push 50 (.int 6), dm_no, dm_push 51 (.int (-1)), dm_push 52 (.int (-1)), dm_inv 55 15 5 2, dm_no, dm_no, dm_pop 56, dm_ald 57 0, dm_ild 58 1, dm_push 59 (.int 1), dm_push 60 (.int (-1)), dm_push 61 (.int (-1)), dm_inv 64 125 4 7, dm_no, dm_no] := dr_c (dg_bipush (by decide) dX10_read_48) <| dr_c (dg_no) <| dr_c (dg_iconst (by decide) dX10_read_50) <| dr_c (dg_iconst (by decide) dX10_read_51) <| dr_c (dg_inv dX10_read_52 mo_15 rfl rfl wd_426 wd_277 wd_278 pd_15) <| dr_c (dg_no) <| dr_c (dg_no) <| dr_c (dg_pop dX10_read_55) <| dr_c (dg_aload_n (k := 0) rfl dX10_read_56) <| dr_c (dg_iload_n (k := 1) rfl dX10_read_57) <| dr_c (dg_iconst (by decide) dX10_read_58) <| dr_c (dg_iconst (by decide) dX10_read_59) <| dr_c (dg_iconst (by decide) dX10_read_60) <| dr_c (dg_inv dX10_read_61 mo_125 rfl rfl wd_427 wd_429 wd_2 pd_125) <| dr_c (dg_no) <| dr_c (dg_no) <| dr_n
theorem tr_119_4 : dm_AllR (dm_Good dm_tb RX10 cX10_read 3 (some .int) false none) 64 [dm_if_eq 67 71, dm_no, dm_no, dm_ild 68 1, dm_goto 72, dm_no, dm_no, dm_push 72 (.int (-1)), dm_ret .int] := dr_c (dg_if_eq (by decide) dX10_read_64) <| dr_c (dg_no) <| dr_c (dg_no) <| dr_c (dg_iload_n (k := 1) rfl dX10_read_67) <| dr_c (dg_goto (by decide) dX10_read_68) <| dr_c (dg_no) <| dr_c (dg_no) <| dr_c (dg_iconst (by decide) dX10_read_71) <| dr_c (dg_ret dX10_read_72) <| dr_n
theorem tk_119 : dm_AllC (dm_Good dm_tb RX10 cX10_read 3 (some .int) false none) 0 cd_119 := dc_c (by decide) tr_119_0 <| dc_c (by decide) tr_119_1 <| dc_c (by decide) tr_119_2 <| dc_c (by decide) tr_119_3 <| dc_c (by decide) tr_119_4 <| dc_n
theorem dX10_fault_0 : decode cX10_fault 0 = .ok (.aload_n 0, 1) := by decide +kernel
theorem dX10_fault_1 : decode cX10_fault 1 = .ok (.getfield 231, 3) := by decide +kernel
theorem dX10_fault_4 : decode cX10_fault 4 = .ok (.ireturn, 1) := by decide +kernel
def cd_120 : dm_Code := [[dm_ald 1 0, dm_getf 4 7 8, dm_no, dm_no, dm_ret .int]]
theorem tr_120_0 : dm_AllR (dm_Good dm_tb RX10 cX10_fault 1 (some .int) false none) 0 [dm_ald 1 0, dm_getf 4 7 8, dm_no, dm_no, dm_ret .int] := dr_c (dg_aload_n (k := 0) rfl dX10_fault_0) <| dr_c (dg_getf (T := TX10) (C := RX10) (N := 11) dX10_fault_1 rfl (by decide) iw_X10 wd_318) <| dr_c (dg_no) <| dr_c (dg_no) <| dr_c (dg_ret dX10_fault_4) <| dr_n
theorem tk_120 : dm_AllC (dm_Good dm_tb RX10 cX10_fault 1 (some .int) false none) 0 cd_120 := dc_c (by decide) tr_120_0 <| dc_n
theorem dX10_image_0 : decode cX10_image 0 = .ok (.aload_n 0, 1) := by decide +kernel
theorem dX10_image_1 : decode cX10_image 1 = .ok (.getfield 16, 3) := by decide +kernel
theorem dX10_image_4 : decode cX10_image 4 = .ok (.aload_n 0, 1) := by decide +kernel
theorem dX10_image_5 : decode cX10_image 5 = .ok (.getfield 10, 3) := by decide +kernel
theorem dX10_image_8 : decode cX10_image 8 = .ok (.invokevirtual 234, 3) := by decide +kernel
theorem dX10_image_11 : decode cX10_image 11 = .ok (.aload_n 0, 1) := by decide +kernel
theorem dX10_image_12 : decode cX10_image 12 = .ok (.iconst 1, 1) := by decide +kernel
theorem dX10_image_13 : decode cX10_image 13 = .ok (.putfield 52, 3) := by decide +kernel
theorem dX10_image_16 : decode cX10_image 16 = .ok (.iconst 1, 1) := by decide +kernel
theorem dX10_image_17 : decode cX10_image 17 = .ok (.ireturn, 1) := by decide +kernel
def cd_121 : dm_Code := [[dm_ald 1 0, dm_getf 4 7 1, dm_no, dm_no, dm_ald 5 0, dm_getf 8 7 0, dm_no, dm_no, dm_inv 11 33 1 2, dm_no, dm_no, dm_ald 12 0, dm_push 13 (.int 1), dm_putf 16 7 7 .boolean, dm_no, dm_no],
  [dm_push 17 (.int 1), dm_ret .boolean]]
theorem tr_121_0 : dm_AllR (dm_Good dm_tb RX10 cX10_image 1 (some .boolean) false none) 0 [dm_ald 1 0, dm_getf 4 7 1, dm_no, dm_no, dm_ald 5 0, dm_getf 8 7 0, dm_no, dm_no, dm_inv 11 33 1 2, dm_no, dm_no, dm_ald 12 0, dm_push 13 (.int 1), dm_putf 16 7 7 .boolean, dm_no, dm_no] := dr_c (dg_aload_n (k := 0) rfl dX10_image_0) <| dr_c (dg_getf (T := TX10) (C := RX10) (N := 11) dX10_image_1 rfl (by decide) iw_X10 wd_311) <| dr_c (dg_no) <| dr_c (dg_no) <| dr_c (dg_aload_n (k := 0) rfl dX10_image_4) <| dr_c (dg_getf (T := TX10) (C := RX10) (N := 11) dX10_image_5 rfl (by decide) iw_X10 wd_310) <| dr_c (dg_no) <| dr_c (dg_no) <| dr_c (dg_inv dX10_image_8 mo_33 rfl rfl wd_789 wd_790 wd_791 pd_33) <| dr_c (dg_no) <| dr_c (dg_no) <| dr_c (dg_aload_n (k := 0) rfl dX10_image_11) <| dr_c (dg_iconst (by decide) dX10_image_12) <| dr_c (dg_putf (T := TX10) (C := RX10) (N := 11) dX10_image_13 rfl (by decide) iw_X10 tyX10_ok nmX10 wd_317 rfl rfl) <| dr_c (dg_no) <| dr_c (dg_no) <| dr_n
theorem tr_121_1 : dm_AllR (dm_Good dm_tb RX10 cX10_image 1 (some .boolean) false none) 16 [dm_push 17 (.int 1), dm_ret .boolean] := dr_c (dg_iconst (by decide) dX10_image_16) <| dr_c (dg_ret dX10_image_17) <| dr_n
theorem tk_121 : dm_AllC (dm_Good dm_tb RX10 cX10_image 1 (some .boolean) false none) 0 cd_121 := dc_c (by decide) tr_121_0 <| dc_c (by decide) tr_121_1 <| dc_n
theorem dX10_back_0 : decode cX10_back 0 = .ok (.aload_n 0, 1) := by decide +kernel
theorem dX10_back_1 : decode cX10_back 1 = .ok (.getfield 52, 3) := by decide +kernel
theorem dX10_back_4 : decode cX10_back 4 = .ok (.ifCond .ne 5, 3) := by decide +kernel
theorem dX10_back_7 : decode cX10_back 7 = .ok (.iconst 0, 1) := by decide +kernel
theorem dX10_back_8 : decode cX10_back 8 = .ok (.ireturn, 1) := by decide +kernel
theorem dX10_back_9 : decode cX10_back 9 = .ok (.aload_n 0, 1) := by decide +kernel
theorem dX10_back_10 : decode cX10_back 10 = .ok (.getfield 10, 3) := by decide +kernel
theorem dX10_back_13 : decode cX10_back 13 = .ok (.aload_n 0, 1) := by decide +kernel
theorem dX10_back_14 : decode cX10_back 14 = .ok (.getfield 16, 3) := by decide +kernel
theorem dX10_back_17 : decode cX10_back 17 = .ok (.invokevirtual 234, 3) := by decide +kernel
theorem dX10_back_20 : decode cX10_back 20 = .ok (.aload_n 0, 1) := by decide +kernel
theorem dX10_back_21 : decode cX10_back 21 = .ok (.getfield 22, 3) := by decide +kernel
theorem dX10_back_24 : decode cX10_back 24 = .ok (.invokevirtual 237, 3) := by decide +kernel
theorem dX10_back_27 : decode cX10_back 27 = .ok (.iconst 1, 1) := by decide +kernel
theorem dX10_back_28 : decode cX10_back 28 = .ok (.ireturn, 1) := by decide +kernel
def cd_122 : dm_Code := [[dm_ald 1 0, dm_getf 4 7 7, dm_no, dm_no, dm_if_ne 7 9, dm_no, dm_no, dm_push 8 (.int 0), dm_ret .boolean, dm_ald 10 0, dm_getf 13 7 0, dm_no, dm_no, dm_ald 14 0, dm_getf 17 7 1, dm_no],
  [dm_no, dm_inv 20 33 1 2, dm_no, dm_no, dm_ald 21 0, dm_getf 24 7 2, dm_no, dm_no, dm_inv 27 1 0 0, dm_no, dm_no, dm_push 28 (.int 1), dm_ret .boolean]]
theorem tr_122_0 : dm_AllR (dm_Good dm_tb RX10 cX10_back 1 (some .boolean) false none) 0 [dm_ald 1 0, dm_getf 4 7 7, dm_no, dm_no, dm_if_ne 7 9, dm_no, dm_no, dm_push 8 (.int 0), dm_ret .boolean, dm_ald 10 0, dm_getf 13 7 0, dm_no, dm_no, dm_ald 14 0, dm_getf 17 7 1, dm_no] := dr_c (dg_aload_n (k := 0) rfl dX10_back_0) <| dr_c (dg_getf (T := TX10) (C := RX10) (N := 11) dX10_back_1 rfl (by decide) iw_X10 wd_317) <| dr_c (dg_no) <| dr_c (dg_no) <| dr_c (dg_if_ne (by decide) dX10_back_4) <| dr_c (dg_no) <| dr_c (dg_no) <| dr_c (dg_iconst (by decide) dX10_back_7) <| dr_c (dg_ret dX10_back_8) <| dr_c (dg_aload_n (k := 0) rfl dX10_back_9) <| dr_c (dg_getf (T := TX10) (C := RX10) (N := 11) dX10_back_10 rfl (by decide) iw_X10 wd_310) <| dr_c (dg_no) <| dr_c (dg_no) <| dr_c (dg_aload_n (k := 0) rfl dX10_back_13) <| dr_c (dg_getf (T := TX10) (C := RX10) (N := 11) dX10_back_14 rfl (by decide) iw_X10 wd_311) <| dr_c (dg_no) <| dr_n
theorem tr_122_1 : dm_AllR (dm_Good dm_tb RX10 cX10_back 1 (some .boolean) false none) 16 [dm_no, dm_inv 20 33 1 2, dm_no, dm_no, dm_ald 21 0, dm_getf 24 7 2, dm_no, dm_no, dm_inv 27 1 0 0, dm_no, dm_no, dm_push 28 (.int 1), dm_ret .boolean] := dr_c (dg_no) <| dr_c (dg_inv dX10_back_17 mo_33 rfl rfl wd_789 wd_790 wd_791 pd_33) <| dr_c (dg_no) <| dr_c (dg_no) <| dr_c (dg_aload_n (k := 0) rfl dX10_back_20) <| dr_c (dg_getf (T := TX10) (C := RX10) (N := 11) dX10_back_21 rfl (by decide) iw_X10 wd_312) <| dr_c (dg_no) <| dr_c (dg_no) <| dr_c (dg_inv dX10_back_24 mo_1 rfl rfl wd_302 wd_303 wd_304 pd_1) <| dr_c (dg_no) <| dr_c (dg_no) <| dr_c (dg_iconst (by decide) dX10_back_27) <| dr_c (dg_ret dX10_back_28) <| dr_n
theorem tk_122 : dm_AllC (dm_Good dm_tb RX10 cX10_back 1 (some .boolean) false none) 0 cd_122 := dc_c (by decide) tr_122_0 <| dc_c (by decide) tr_122_1 <| dc_n
theorem dX10_count_0 : decode cX10_count 0 = .ok (.iload_n 1, 1) := by decide +kernel
theorem dX10_count_1 : decode cX10_count 1 = .ok (.tableswitch 99 0 6 #[43, 51, 59, 67, 75, 83, 91], 43) := by decide +kernel
theorem dX10_count_44 : decode cX10_count 44 = .ok (.aload_n 0, 1) := by decide +kernel
theorem dX10_count_45 : decode cX10_count 45 = .ok (.getfield 10, 3) := by decide +kernel
theorem dX10_count_48 : decode cX10_count 48 = .ok (.invokevirtual 77, 3) := by decide +kernel
theorem dX10_count_51 : decode cX10_count 51 = .ok (.ireturn, 1) := by decide +kernel
theorem dX10_count_52 : decode cX10_count 52 = .ok (.aload_n 0, 1) := by decide +kernel
theorem dX10_count_53 : decode cX10_count 53 = .ok (.getfield 10, 3) := by decide +kernel
theorem dX10_count_56 : decode cX10_count 56 = .ok (.invokevirtual 240, 3) := by decide +kernel
theorem dX10_count_59 : decode cX10_count 59 = .ok (.ireturn, 1) := by decide +kernel
theorem dX10_count_60 : decode cX10_count 60 = .ok (.aload_n 0, 1) := by decide +kernel
theorem dX10_count_61 : decode cX10_count 61 = .ok (.getfield 10, 3) := by decide +kernel
theorem dX10_count_64 : decode cX10_count 64 = .ok (.invokevirtual 243, 3) := by decide +kernel
theorem dX10_count_67 : decode cX10_count 67 = .ok (.ireturn, 1) := by decide +kernel
theorem dX10_count_68 : decode cX10_count 68 = .ok (.aload_n 0, 1) := by decide +kernel
theorem dX10_count_69 : decode cX10_count 69 = .ok (.getfield 10, 3) := by decide +kernel
theorem dX10_count_72 : decode cX10_count 72 = .ok (.invokevirtual 246, 3) := by decide +kernel
theorem dX10_count_75 : decode cX10_count 75 = .ok (.ireturn, 1) := by decide +kernel
theorem dX10_count_76 : decode cX10_count 76 = .ok (.aload_n 0, 1) := by decide +kernel
theorem dX10_count_77 : decode cX10_count 77 = .ok (.getfield 10, 3) := by decide +kernel
theorem dX10_count_80 : decode cX10_count 80 = .ok (.invokevirtual 249, 3) := by decide +kernel
theorem dX10_count_83 : decode cX10_count 83 = .ok (.ireturn, 1) := by decide +kernel
theorem dX10_count_84 : decode cX10_count 84 = .ok (.aload_n 0, 1) := by decide +kernel
theorem dX10_count_85 : decode cX10_count 85 = .ok (.getfield 36, 3) := by decide +kernel
theorem dX10_count_88 : decode cX10_count 88 = .ok (.invokevirtual 213, 3) := by decide +kernel
theorem dX10_count_91 : decode cX10_count 91 = .ok (.ireturn, 1) := by decide +kernel
theorem dX10_count_92 : decode cX10_count 92 = .ok (.aload_n 0, 1) := by decide +kernel
theorem dX10_count_93 : decode cX10_count 93 = .ok (.getfield 22, 3) := by decide +kernel
theorem dX10_count_96 : decode cX10_count 96 = .ok (.invokevirtual 252, 3) := by decide +kernel
theorem dX10_count_99 : decode cX10_count 99 = .ok (.ireturn, 1) := by decide +kernel
theorem dX10_count_100 : decode cX10_count 100 = .ok (.iconst (-1), 1) := by decide +kernel
theorem dX10_count_101 : decode cX10_count 101 = .ok (.ireturn, 1) := by decide +kernel
def cd_123 : dm_Code := [[dm_ild 1 1, dm_tsw 0 6 100 [44, 52, 60, 68, 76, 84, 92], dm_no, dm_no, dm_no, dm_no, dm_no, dm_no, dm_no, dm_no, dm_no, dm_no, dm_no, dm_no, dm_no, dm_no],
  [dm_no, dm_no, dm_no, dm_no, dm_no, dm_no, dm_no, dm_no, dm_no, dm_no, dm_no, dm_no, dm_no, dm_no, dm_no, dm_no],
  [dm_no, dm_no, dm_no, dm_no, dm_no, dm_no, dm_no, dm_no, dm_no, dm_no, dm_no, dm_no, dm_ald 45 0, dm_getf 48 7 0, dm_no, dm_no],
  [dm_inv 51 13 0 2, dm_no, dm_no, dm_ret .int, dm_ald 53 0, dm_getf 56 7 0, dm_no, dm_no, dm_inv 59 30 0 2, dm_no, dm_no, dm_ret .int, dm_ald 61 0, dm_getf 64 7 0, dm_no, dm_no],
  [dm_inv 67 31 0 2, dm_no, dm_no, dm_ret .int, dm_ald 69 0, dm_getf 72 7 0, dm_no, dm_no, dm_inv 75 32 0 2, dm_no, dm_no, dm_ret .int, dm_ald 77 0, dm_getf 80 7 0, dm_no, dm_no],
  [dm_inv 83 14 0 2, dm_no, dm_no, dm_ret .int, dm_ald 85 0, dm_getf 88 7 4, dm_no, dm_no, dm_inv 91 6 0 1, dm_no, dm_no, dm_ret .int, dm_ald 93 0, dm_getf 96 7 2, dm_no, dm_no],
  [dm_inv 99 2 0 0, dm_no, dm_no, dm_ret .int, dm_push 101 (.int (-1)), dm_ret .int]]
theorem tr_123_0 : dm_AllR (dm_Good dm_tb RX10 cX10_count 2 (some .int) false none) 0 [dm_ild 1 1, dm_tsw 0 6 100 [44, 52, 60, 68, 76, 84, 92], dm_no, dm_no, dm_no, dm_no, dm_no, dm_no, dm_no, dm_no, dm_no, dm_no, dm_no, dm_no, dm_no, dm_no] := dr_c (dg_iload_n (k := 1) rfl dX10_count_0) <| dr_c (dg_tsw dX10_count_1 (by decide) (by decide)) <| dr_c (dg_no) <| dr_c (dg_no) <| dr_c (dg_no) <| dr_c (dg_no) <| dr_c (dg_no) <| dr_c (dg_no) <| dr_c (dg_no) <| dr_c (dg_no) <| dr_c (dg_no) <| dr_c (dg_no) <| dr_c (dg_no) <| dr_c (dg_no) <| dr_c (dg_no) <| dr_c (dg_no) <| dr_n
theorem tr_123_1 : dm_AllR (dm_Good dm_tb RX10 cX10_count 2 (some .int) false none) 16 [dm_no, dm_no, dm_no, dm_no, dm_no, dm_no, dm_no, dm_no, dm_no, dm_no, dm_no, dm_no, dm_no, dm_no, dm_no, dm_no] := dr_c (dg_no) <| dr_c (dg_no) <| dr_c (dg_no) <| dr_c (dg_no) <| dr_c (dg_no) <| dr_c (dg_no) <| dr_c (dg_no) <| dr_c (dg_no) <| dr_c (dg_no) <| dr_c (dg_no) <| dr_c (dg_no) <| dr_c (dg_no) <| dr_c (dg_no) <| dr_c (dg_no) <| dr_c (dg_no) <| dr_c (dg_no) <| dr_n
theorem tr_123_2 : dm_AllR (dm_Good dm_tb RX10 cX10_count 2 (some .int) false none) 32 [dm_no, dm_no, dm_no, dm_no, dm_no, dm_no, dm_no, dm_no, dm_no, dm_no, dm_no, dm_no, dm_ald 45 0, dm_getf 48 7 0, dm_no, dm_no] := dr_c (dg_no) <| dr_c (dg_no) <| dr_c (dg_no) <| dr_c (dg_no) <| dr_c (dg_no) <| dr_c (dg_no) <| dr_c (dg_no) <| dr_c (dg_no) <| dr_c (dg_no) <| dr_c (dg_no) <| dr_c (dg_no) <| dr_c (dg_no) <| dr_c (dg_aload_n (k := 0) rfl dX10_count_44) <| dr_c (dg_getf (T := TX10) (C := RX10) (N := 11) dX10_count_45 rfl (by decide) iw_X10 wd_310) <| dr_c (dg_no) <| dr_c (dg_no) <| dr_n
theorem tr_123_3 : dm_AllR (dm_Good dm_tb RX10 cX10_count 2 (some .int) false none) 48 [dm_inv 51 13 0 2, dm_no, dm_no, dm_ret .int, dm_ald 53 0, dm_getf 56 7 0, dm_no, dm_no, dm_inv 59 30 0 2, dm_no, dm_no, dm_ret .int, dm_ald 61 0, dm_getf 64 7 0, dm_no, dm_no] := dr_c (dg_inv dX10_count_48 mo_13 rfl rfl wd_401 wd_402 wd_403 pd_13) <| dr_c (dg_no) <| dr_c (dg_no) <| dr_c (dg_ret dX10_count_51) <| dr_c (dg_aload_n (k := 0) rfl dX10_count_52) <| dr_c (dg_getf (T := TX10) (C := RX10) (N := 11) dX10_count_53 rfl (by decide) iw_X10 wd_310) <| dr_c (dg_no) <| dr_c (dg_no) <| dr_c (dg_inv dX10_count_56 mo_30 rfl rfl wd_807 wd_808 wd_809 pd_30) <| dr_c (dg_no) <| dr_c (dg_no) <| dr_c (dg_ret dX10_count_59) <| dr_c (dg_aload_n (k := 0) rfl dX10_count_60) <| dr_c (dg_getf (T := TX10) (C := RX10) (N := 11) dX10_count_61 rfl (by decide) iw_X10 wd_310) <| dr_c (dg_no) <| dr_c (dg_no) <| dr_n
theorem tr_123_4 : dm_AllR (dm_Good dm_tb RX10 cX10_count 2 (some .int) false none) 64 [dm_inv 67 31 0 2, dm_no, dm_no, dm_ret .int, dm_ald 69 0, dm_getf 72 7 0, dm_no, dm_no, dm_inv 75 32 0 2, dm_no, dm_no, dm_ret .int, dm_ald 77 0, dm_getf 80 7 0, dm_no, dm_no] := dr_c (dg_inv dX10_count_64 mo_31 rfl rfl wd_812 wd_813 wd_814 pd_31) <| dr_c (dg_no) <| dr_c (dg_no) <| dr_c (dg_ret dX10_count_67) <| dr_c (dg_aload_n (k := 0) rfl dX10_count_68) <| dr_c (dg_getf (T := TX10) (C := RX10) (N := 11) dX10_count_69 rfl (by decide) iw_X10 wd_310) <| dr_c (dg_no) <| dr_c (dg_no) <| dr_c (dg_inv dX10_count_72 mo_32 rfl rfl wd_817 wd_818 wd_819 pd_32) <| dr_c (dg_no) <| dr_c (dg_no) <| dr_c (dg_ret dX10_count_75) <| dr_c (dg_aload_n (k := 0) rfl dX10_count_76) <| dr_c (dg_getf (T := TX10) (C := RX10) (N := 11) dX10_count_77 rfl (by decide) iw_X10 wd_310) <| dr_c (dg_no) <| dr_c (dg_no) <| dr_n
theorem tr_123_5 : dm_AllR (dm_Good dm_tb RX10 cX10_count 2 (some .int) false none) 80 [dm_inv 83 14 0 2, dm_no, dm_no, dm_ret .int, dm_ald 85 0, dm_getf 88 7 4, dm_no, dm_no, dm_inv 91 6 0 1, dm_no, dm_no, dm_ret .int, dm_ald 93 0, dm_getf 96 7 2, dm_no, dm_no] := dr_c (dg_inv dX10_count_80 mo_14 rfl rfl wd_822 wd_281 wd_282 pd_14) <| dr_c (dg_no) <| dr_c (dg_no) <| dr_c (dg_ret dX10_count_83) <| dr_c (dg_aload_n (k := 0) rfl dX10_count_84) <| dr_c (dg_getf (T := TX10) (C := RX10) (N := 11) dX10_count_85 rfl (by decide) iw_X10 wd_314) <| dr_c (dg_no) <| dr_c (dg_no) <| dr_c (dg_inv dX10_count_88 mo_6 rfl rfl wd_653 wd_654 wd_655 pd_6) <| dr_c (dg_no) <| dr_c (dg_no) <| dr_c (dg_ret dX10_count_91) <| dr_c (dg_aload_n (k := 0) rfl dX10_count_92) <| dr_c (dg_getf (T := TX10) (C := RX10) (N := 11) dX10_count_93 rfl (by decide) iw_X10 wd_312) <| dr_c (dg_no) <| dr_c (dg_no) <| dr_n
theorem tr_123_6 : dm_AllR (dm_Good dm_tb RX10 cX10_count 2 (some .int) false none) 96 [dm_inv 99 2 0 0, dm_no, dm_no, dm_ret .int, dm_push 101 (.int (-1)), dm_ret .int] := dr_c (dg_inv dX10_count_96 mo_2 rfl rfl wd_823 wd_824 wd_825 pd_2) <| dr_c (dg_no) <| dr_c (dg_no) <| dr_c (dg_ret dX10_count_99) <| dr_c (dg_iconst (by decide) dX10_count_100) <| dr_c (dg_ret dX10_count_101) <| dr_n
theorem tk_123 : dm_AllC (dm_Good dm_tb RX10 cX10_count 2 (some .int) false none) 0 cd_123 := dc_c (by decide) tr_123_0 <| dc_c (by decide) tr_123_1 <| dc_c (by decide) tr_123_2 <| dc_c (by decide) tr_123_3 <| dc_c (by decide) tr_123_4 <| dc_c (by decide) tr_123_5 <| dc_c (by decide) tr_123_6 <| dc_n
theorem dX10_plant_0 : decode cX10_plant 0 = .ok (.aload_n 0, 1) := by decide +kernel
theorem dX10_plant_1 : decode cX10_plant 1 = .ok (.getfield 10, 3) := by decide +kernel
theorem dX10_plant_4 : decode cX10_plant 4 = .ok (.invokevirtual 253, 3) := by decide +kernel
theorem dX10_plant_7 : decode cX10_plant 7 = .ok (.aload_n 0, 1) := by decide +kernel
theorem dX10_plant_8 : decode cX10_plant 8 = .ok (.getfield 22, 3) := by decide +kernel
theorem dX10_plant_11 : decode cX10_plant 11 = .ok (.invokevirtual 237, 3) := by decide +kernel
theorem dX10_plant_14 : decode cX10_plant 14 = .ok (.aload_n 0, 1) := by decide +kernel
theorem dX10_plant_15 : decode cX10_plant 15 = .ok (.getfield 36, 3) := by decide +kernel
theorem dX10_plant_18 : decode cX10_plant 18 = .ok (.iconst 0, 1) := by decide +kernel
theorem dX10_plant_19 : decode cX10_plant 19 = .ok (.invokevirtual 221, 3) := by decide +kernel
theorem dX10_plant_22 : decode cX10_plant 22 = .ok (.pop, 1) := by decide +kernel
theorem dX10_plant_23 : decode cX10_plant 23 = .ok (.aload_n 0, 1) := by decide +kernel
theorem dX10_plant_24 : decode cX10_plant 24 = .ok (.iconst (-1), 1) := by decide +kernel
theorem dX10_plant_25 : decode cX10_plant 25 = .ok (.putfield 231, 3) := by decide +kernel
theorem dX10_plant_28 : decode cX10_plant 28 = .ok (.aload_n 0, 1) := by decide +kernel
theorem dX10_plant_29 : decode cX10_plant 29 = .ok (.lconst 0, 1) := by decide +kernel
theorem dX10_plant_30 : decode cX10_plant 30 = .ok (.putfield 202, 3) := by decide +kernel
theorem dX10_plant_33 : decode cX10_plant 33 = .ok (.aload_n 0, 1) := by decide +kernel
theorem dX10_plant_34 : decode cX10_plant 34 = .ok (.iconst (-1), 1) := by decide +kernel
theorem dX10_plant_35 : decode cX10_plant 35 = .ok (.putfield 198, 3) := by decide +kernel
theorem dX10_plant_38 : decode cX10_plant 38 = .ok (.return_, 1) := by decide +kernel
def cd_124 : dm_Code := [[dm_ald 1 0, dm_getf 4 7 0, dm_no, dm_no, dm_inv 7 12 0 2, dm_no, dm_no, dm_ald 8 0, dm_getf 11 7 2, dm_no, dm_no, dm_inv 14 1 0 0, dm_no, dm_no, dm_ald 15 0, dm_getf 18 7 4],
  [dm_no, dm_no, dm_push 19 (.int 0), dm_inv 22 9 1 1, dm_no, dm_no, dm_pop 23, dm_ald 24 0, dm_push 25 (.int (-1)), dm_putf 28 7 8 .int, dm_no, dm_no, dm_ald 29 0, dm_push 30 (.long 0), dm_putf 33 7 9 .long, dm_no],
  [dm_no, dm_ald 34 0, dm_push 35 (.int (-1)), dm_putf 38 7 10 .int, dm_no, dm_no, dm_vret]]
theorem tr_124_0 : dm_AllR (dm_Good dm_tb RX10 cX10_plant 1 none false none) 0 [dm_ald 1 0, dm_getf 4 7 0, dm_no, dm_no, dm_inv 7 12 0 2, dm_no, dm_no, dm_ald 8 0, dm_getf 11 7 2, dm_no, dm_no, dm_inv 14 1 0 0, dm_no, dm_no, dm_ald 15 0, dm_getf 18 7 4] := dr_c (dg_aload_n (k := 0) rfl dX10_plant_0) <| dr_c (dg_getf (T := TX10) (C := RX10) (N := 11) dX10_plant_1 rfl (by decide) iw_X10 wd_310) <| dr_c (dg_no) <| dr_c (dg_no) <| dr_c (dg_inv dX10_plant_4 mo_12 rfl rfl wd_239 wd_240 wd_241 pd_12) <| dr_c (dg_no) <| dr_c (dg_no) <| dr_c (dg_aload_n (k := 0) rfl dX10_plant_7) <| dr_c (dg_getf (T := TX10) (C := RX10) (N := 11) dX10_plant_8 rfl (by decide) iw_X10 wd_312) <| dr_c (dg_no) <| dr_c (dg_no) <| dr_c (dg_inv dX10_plant_11 mo_1 rfl rfl wd_302 wd_303 wd_304 pd_1) <| dr_c (dg_no) <| dr_c (dg_no) <| dr_c (dg_aload_n (k := 0) rfl dX10_plant_14) <| dr_c (dg_getf (T := TX10) (C := RX10) (N := 11) dX10_plant_15 rfl (by decide) iw_X10 wd_314) <| dr_n
theorem tr_124_1 : dm_AllR (dm_Good dm_tb RX10 cX10_plant 1 none false none) 16 [dm_no, dm_no, dm_push 19 (.int 0), dm_inv 22 9 1 1, dm_no, dm_no, dm_pop 23, dm_ald 24 0, dm_push 25 (.int (-1)), dm_putf 28 7 8 .int, dm_no, dm_no, dm_ald 29 0, dm_push 30 (.long 0), dm_putf 33 7 9 .long, dm_no] := dr_c (dg_no) <| dr_c (dg_no) <| dr_c (dg_iconst (by decide) dX10_plant_18) <| dr_c (dg_inv dX10_plant_19 mo_9 rfl rfl wd_306 wd_307 wd_308 pd_9) <| dr_c (dg_no) <| dr_c (dg_no) <| dr_c (dg_pop dX10_plant_22) <| dr_c (dg_aload_n (k := 0) rfl dX10_plant_23) <| dr_c (dg_iconst (by decide) dX10_plant_24) <| dr_c (dg_putf (T := TX10) (C := RX10) (N := 11) dX10_plant_25 rfl (by decide) iw_X10 tyX10_ok nmX10 wd_318 rfl rfl) <| dr_c (dg_no) <| dr_c (dg_no) <| dr_c (dg_aload_n (k := 0) rfl dX10_plant_28) <| dr_c (dg_lconst (by decide) dX10_plant_29) <| dr_c (dg_putf (T := TX10) (C := RX10) (N := 11) dX10_plant_30 rfl (by decide) iw_X10 tyX10_ok nmX10 wd_319 rfl rfl) <| dr_c (dg_no) <| dr_n
theorem tr_124_2 : dm_AllR (dm_Good dm_tb RX10 cX10_plant 1 none false none) 32 [dm_no, dm_ald 34 0, dm_push 35 (.int (-1)), dm_putf 38 7 10 .int, dm_no, dm_no, dm_vret] := dr_c (dg_no) <| dr_c (dg_aload_n (k := 0) rfl dX10_plant_33) <| dr_c (dg_iconst (by decide) dX10_plant_34) <| dr_c (dg_putf (T := TX10) (C := RX10) (N := 11) dX10_plant_35 rfl (by decide) iw_X10 tyX10_ok nmX10 wd_320 rfl rfl) <| dr_c (dg_no) <| dr_c (dg_no) <| dr_c (dg_vret dX10_plant_38) <| dr_n
theorem tk_124 : dm_AllC (dm_Good dm_tb RX10 cX10_plant 1 none false none) 0 cd_124 := dc_c (by decide) tr_124_0 <| dc_c (by decide) tr_124_1 <| dc_c (by decide) tr_124_2 <| dc_n
theorem dX10_settle_0 : decode cX10_settle 0 = .ok (.aload_n 0, 1) := by decide +kernel
theorem dX10_settle_1 : decode cX10_settle 1 = .ok (.getfield 10, 3) := by decide +kernel
theorem dX10_settle_4 : decode cX10_settle 4 = .ok (.invokevirtual 77, 3) := by decide +kernel
theorem dX10_settle_7 : decode cX10_settle 7 = .ok (.iload_n 1, 1) := by decide +kernel
theorem dX10_settle_8 : decode cX10_settle 8 = .ok (.iload_n 2, 1) := by decide +kernel
theorem dX10_settle_9 : decode cX10_settle 9 = .ok (.iadd, 1) := by decide +kernel
theorem dX10_settle_10 : decode cX10_settle 10 = .ok (.if_icmp .eq 13, 3) := by decide +kernel
theorem dX10_settle_13 : decode cX10_settle 13 = .ok (.aload_n 0, 1) := by decide +kernel
theorem dX10_settle_14 : decode cX10_settle 14 = .ok (.getfield 10, 3) := by decide +kernel
theorem dX10_settle_17 : decode cX10_settle 17 = .ok (.iload_n 1, 1) := by decide +kernel
theorem dX10_settle_18 : decode cX10_settle 18 = .ok (.invokevirtual 254, 3) := by decide +kernel
theorem dX10_settle_21 : decode cX10_settle 21 = .ok (.iconst 0, 1) := by decide +kernel
theorem dX10_settle_22 : decode cX10_settle 22 = .ok (.ireturn, 1) := by decide +kernel
theorem dX10_settle_23 : decode cX10_settle 23 = .ok (.aload_n 0, 1) := by decide +kernel
theorem dX10_settle_24 : decode cX10_settle 24 = .ok (.getfield 22, 3) := by decide +kernel
theorem dX10_settle_27 : decode cX10_settle 27 = .ok (.aload_n 0, 1) := by decide +kernel
theorem dX10_settle_28 : decode cX10_settle 28 = .ok (.getfield 10, 3) := by decide +kernel
theorem dX10_settle_31 : decode cX10_settle 31 = .ok (.iload_n 1, 1) := by decide +kernel
theorem dX10_settle_32 : decode cX10_settle 32 = .ok (.iload_n 3, 1) := by decide +kernel
theorem dX10_settle_33 : decode cX10_settle 33 = .ok (.iload 4, 2) := by decide +kernel
theorem dX10_settle_35 : decode cX10_settle 35 = .ok (.invokevirtual 117, 3) := by decide +kernel
theorem dX10_settle_38 : decode cX10_settle 38 = .ok (.aload_n 0, 1) := by decide +kernel
theorem dX10_settle_39 : decode cX10_settle 39 = .ok (.getfield 10, 3) := by decide +kernel
theorem dX10_settle_42 : decode cX10_settle 42 = .ok (.iload_n 3, 1) := by decide +kernel
theorem dX10_settle_43 : decode cX10_settle 43 = .ok (.invokevirtual 113, 3) := by decide +kernel
theorem dX10_settle_46 : decode cX10_settle 46 = .ok (.aload_n 0, 1) := by decide +kernel
theorem dX10_settle_47 : decode cX10_settle 47 = .ok (.getfield 10, 3) := by decide +kernel
theorem dX10_settle_50 : decode cX10_settle 50 = .ok (.iload 4, 2) := by decide +kernel
theorem dX10_settle_52 : decode cX10_settle 52 = .ok (.invokevirtual 113, 3) := by decide +kernel
theorem dX10_settle_55 : decode cX10_settle 55 = .ok (.iconst 1, 1) := by decide +kernel
theorem dX10_settle_56 : decode cX10_settle 56 = .ok (.ireturn, 1) := by decide +kernel
def cd_125 : dm_Code := [[dm_ald 1 0, dm_getf 4 7 0, dm_no, dm_no, dm_inv 7 13 0 2, dm_no, dm_no, dm_ild 8 1, dm_ild 9 2, dm_ii 10 (fun x y => x + y), dm_ic_eq 13 23, dm_no, dm_no, dm_ald 14 0, dm_getf 17 7 0, dm_no],
  [dm_no, dm_ild 18 1, dm_inv 21 16 1 2, dm_no, dm_no, dm_push 22 (.int 0), dm_ret .boolean, dm_ald 24 0, dm_getf 27 7 2, dm_no, dm_no, dm_ald 28 0, dm_getf 31 7 0, dm_no, dm_no, dm_ild 32 1],
  [dm_ild 33 3, dm_ild 35 4, dm_no, dm_inv 38 3 4 0, dm_no, dm_no, dm_ald 39 0, dm_getf 42 7 0, dm_no, dm_no, dm_ild 43 3, dm_inv 46 29 1 2, dm_no, dm_no, dm_ald 47 0, dm_getf 50 7 0],
  [dm_no, dm_no, dm_ild 52 4, dm_no, dm_inv 55 29 1 2, dm_no, dm_no, dm_push 56 (.int 1), dm_ret .boolean]]
theorem tr_125_0 : dm_AllR (dm_Good dm_tb RX10 cX10_settle 5 (some .boolean) false none) 0 [dm_ald 1 0, dm_getf 4 7 0, dm_no, dm_no, dm_inv 7 13 0 2, dm_no, dm_no, dm_ild 8 1, dm_ild 9 2, dm_ii 10 (fun x y => x + y), dm_ic_eq 13 23, dm_no, dm_no, dm_ald 14 0, dm_getf 17 7 0, dm_no] := dr_c (dg_aload_n (k := 0) rfl dX10_settle_0) <| dr_c (dg_getf (T := TX10) (C := RX10) (N := 11) dX10_settle_1 rfl (by decide) iw_X10 wd_310) <| dr_c (dg_no) <| dr_c (dg_no) <| dr_c (dg_inv dX10_settle_4 mo_13 rfl rfl wd_401 wd_402 wd_403 pd_13) <| dr_c (dg_no) <| dr_c (dg_no) <| dr_c (dg_iload_n (k := 1) rfl dX10_settle_7) <| dr_c (dg_iload_n (k := 2) rfl dX10_settle_8) <| dr_c (dg_iadd dX10_settle_9) <| dr_c (dg_ic_eq (by decide) dX10_settle_10) <| dr_c (dg_no) <| dr_c (dg_no) <| dr_c (dg_aload_n (k := 0) rfl dX10_settle_13) <| dr_c (dg_getf (T := TX10) (C := RX10) (N := 11) dX10_settle_14 rfl (by decide) iw_X10 wd_310) <| dr_c (dg_no) <| dr_n
theorem tr_125_1 : dm_AllR (dm_Good dm_tb RX10 cX10_settle 5 (some .boolean) false none) 16 [dm_no, dm_ild 18 1, dm_inv 21 16 1 2, dm_no, dm_no, dm_push 22 (.int 0), dm_ret .boolean, dm_ald 24 0, dm_getf 27 7 2, dm_no, dm_no, dm_ald 28 0, dm_getf 31 7 0, dm_no, dm_no, dm_ild 32 1] := dr_c (dg_no) <| dr_c (dg_iload_n (k := 1) rfl dX10_settle_17) <| dr_c (dg_inv dX10_settle_18 mo_16 rfl rfl wd_431 wd_432 wd_433 pd_16) <| dr_c (dg_no) <| dr_c (dg_no) <| dr_c (dg_iconst (by decide) dX10_settle_21) <| dr_c (dg_ret dX10_settle_22) <| dr_c (dg_aload_n (k := 0) rfl dX10_settle_23) <| dr_c (dg_getf (T := TX10) (C := RX10) (N := 11) dX10_settle_24 rfl (by decide) iw_X10 wd_312) <| dr_c (dg_no) <| dr_c (dg_no) <| dr_c (dg_aload_n (k := 0) rfl dX10_settle_27) <| dr_c (dg_getf (T := TX10) (C := RX10) (N := 11) dX10_settle_28 rfl (by decide) iw_X10 wd_310) <| dr_c (dg_no) <| dr_c (dg_no) <| dr_c (dg_iload_n (k := 1) rfl dX10_settle_31) <| dr_n
theorem tr_125_2 : dm_AllR (dm_Good dm_tb RX10 cX10_settle 5 (some .boolean) false none) 32 [dm_ild 33 3, dm_ild 35 4, dm_no, dm_inv 38 3 4 0, dm_no, dm_no, dm_ald 39 0, dm_getf 42 7 0, dm_no, dm_no, dm_ild 43 3, dm_inv 46 29 1 2, dm_no, dm_no, dm_ald 47 0, dm_getf 50 7 0] := dr_c (dg_iload_n (k := 3) rfl dX10_settle_32) <| dr_c (dg_iload dX10_settle_33) <| dr_c (dg_no) <| dr_c (dg_inv dX10_settle_35 mo_3 rfl rfl wd_439 wd_440 wd_441 pd_3) <| dr_c (dg_no) <| dr_c (dg_no) <| dr_c (dg_aload_n (k := 0) rfl dX10_settle_38) <| dr_c (dg_getf (T := TX10) (C := RX10) (N := 11) dX10_settle_39 rfl (by decide) iw_X10 wd_310) <| dr_c (dg_no) <| dr_c (dg_no) <| dr_c (dg_iload_n (k := 3) rfl dX10_settle_42) <| dr_c (dg_inv dX10_settle_43 mo_29 rfl rfl wd_445 wd_446 wd_447 pd_29) <| dr_c (dg_no) <| dr_c (dg_no) <| dr_c (dg_aload_n (k := 0) rfl dX10_settle_46) <| dr_c (dg_getf (T := TX10) (C := RX10) (N := 11) dX10_settle_47 rfl (by decide) iw_X10 wd_310) <| dr_n
theorem tr_125_3 : dm_AllR (dm_Good dm_tb RX10 cX10_settle 5 (some .boolean) false none) 48 [dm_no, dm_no, dm_ild 52 4, dm_no, dm_inv 55 29 1 2, dm_no, dm_no, dm_push 56 (.int 1), dm_ret .boolean] := dr_c (dg_no) <| dr_c (dg_no) <| dr_c (dg_iload dX10_settle_50) <| dr_c (dg_no) <| dr_c (dg_inv dX10_settle_52 mo_29 rfl rfl wd_445 wd_446 wd_447 pd_29) <| dr_c (dg_no) <| dr_c (dg_no) <| dr_c (dg_iconst (by decide) dX10_settle_55) <| dr_c (dg_ret dX10_settle_56) <| dr_n
theorem tk_125 : dm_AllC (dm_Good dm_tb RX10 cX10_settle 5 (some .boolean) false none) 0 cd_125 := dc_c (by decide) tr_125_0 <| dc_c (by decide) tr_125_1 <| dc_c (by decide) tr_125_2 <| dc_c (by decide) tr_125_3 <| dc_n
theorem dX10_canMelt_0 : decode cX10_canMelt 0 = .ok (.iload_n 1, 1) := by decide +kernel
theorem dX10_canMelt_1 : decode cX10_canMelt 1 = .ok (.iload_n 2, 1) := by decide +kernel
theorem dX10_canMelt_2 : decode cX10_canMelt 2 = .ok (.if_icmp .eq 29, 3) := by decide +kernel
theorem dX10_canMelt_5 : decode cX10_canMelt 5 = .ok (.aload_n 0, 1) := by decide +kernel
theorem dX10_canMelt_6 : decode cX10_canMelt 6 = .ok (.getfield 10, 3) := by decide +kernel
theorem dX10_canMelt_9 : decode cX10_canMelt 9 = .ok (.iload_n 1, 1) := by decide +kernel
theorem dX10_canMelt_10 : decode cX10_canMelt 10 = .ok (.invokevirtual 107, 3) := by decide +kernel
theorem dX10_canMelt_13 : decode cX10_canMelt 13 = .ok (.ifCond .eq 18, 3) := by decide +kernel
theorem dX10_canMelt_16 : decode cX10_canMelt 16 = .ok (.aload_n 0, 1) := by decide +kernel
theorem dX10_canMelt_17 : decode cX10_canMelt 17 = .ok (.getfield 10, 3) := by decide +kernel
theorem dX10_canMelt_20 : decode cX10_canMelt 20 = .ok (.iload_n 2, 1) := by decide +kernel
theorem dX10_canMelt_21 : decode cX10_canMelt 21 = .ok (.invokevirtual 107, 3) := by decide +kernel
theorem dX10_canMelt_24 : decode cX10_canMelt 24 = .ok (.ifCond .eq 7, 3) := by decide +kernel
theorem dX10_canMelt_27 : decode cX10_canMelt 27 = .ok (.iconst 1, 1) := by decide +kernel
theorem dX10_canMelt_28 : decode cX10_canMelt 28 = .ok (.goto 4, 3) := by decide +kernel
theorem dX10_canMelt_31 : decode cX10_canMelt 31 = .ok (.iconst 0, 1) := by decide +kernel
theorem dX10_canMelt_32 : decode cX10_canMelt 32 = .ok (.ireturn, 1) := by decide +kernel
def cd_126 : dm_Code := [[dm_ild 1 1, dm_ild 2 2, dm_ic_eq 5 31, dm_no, dm_no, dm_ald 6 0, dm_getf 9 7 0, dm_no, dm_no, dm_ild 10 1, dm_inv 13 26 1 2, dm_no, dm_no, dm_if_eq 16 31, dm_no, dm_no],
  [dm_ald 17 0, dm_getf 20 7 0, dm_no, dm_no, dm_ild 21 2, dm_inv 24 26 1 2, dm_no, dm_no, dm_if_eq 27 31, dm_no, dm_no, dm_push 28 (.int 1), dm_goto 32, dm_no, dm_no, dm_push 32 (.int 0)],
  [dm_ret .boolean]]
theorem tr_126_0 : dm_AllR (dm_Good dm_tb RX10 cX10_canMelt 3 (some .boolean) false none) 0 [dm_ild 1 1, dm_ild 2 2, dm_ic_eq 5 31, dm_no, dm_no, dm_ald 6 0, dm_getf 9 7 0, dm_no, dm_no, dm_ild 10 1, dm_inv 13 26 1 2, dm_no, dm_no, dm_if_eq 16 31, dm_no, dm_no] := dr_c (dg_iload_n (k := 1) rfl dX10_canMelt_0) <| dr_c (dg_iload_n (k := 2) rfl dX10_canMelt_1) <| dr_c (dg_ic_eq (by decide) dX10_canMelt_2) <| dr_c (dg_no) <| dr_c (dg_no) <| dr_c (dg_aload_n (k := 0) rfl dX10_canMelt_5) <| dr_c (dg_getf (T := TX10) (C := RX10) (N := 11) dX10_canMelt_6 rfl (by decide) iw_X10 wd_310) <| dr_c (dg_no) <| dr_c (dg_no) <| dr_c (dg_iload_n (k := 1) rfl dX10_canMelt_9) <| dr_c (dg_inv dX10_canMelt_10 mo_26 rfl rfl wd_510 wd_357 wd_358 pd_26) <| dr_c (dg_no) <| dr_c (dg_no) <| dr_c (dg_if_eq (by decide) dX10_canMelt_13) <| dr_c (dg_no) <| dr_c (dg_no) <| dr_n
theorem tr_126_1 : dm_AllR (dm_Good dm_tb RX10 cX10_canMelt 3 (some .boolean) false none) 16 [dm_ald 17 0, dm_getf 20 7 0, dm_no, dm_no, dm_ild 21 2, dm_inv 24 26 1 2, dm_no, dm_no, dm_if_eq 27 31, dm_no, dm_no, dm_push 28 (.int 1), dm_goto 32, dm_no, dm_no, dm_push 32 (.int 0)] := dr_c (dg_aload_n (k := 0) rfl dX10_canMelt_16) <| dr_c (dg_getf (T := TX10) (C := RX10) (N := 11) dX10_canMelt_17 rfl (by decide) iw_X10 wd_310) <| dr_c (dg_no) <| dr_c (dg_no) <| dr_c (dg_iload_n (k := 2) rfl dX10_canMelt_20) <| dr_c (dg_inv dX10_canMelt_21 mo_26 rfl rfl wd_510 wd_357 wd_358 pd_26) <| dr_c (dg_no) <| dr_c (dg_no) <| dr_c (dg_if_eq (by decide) dX10_canMelt_24) <| dr_c (dg_no) <| dr_c (dg_no) <| dr_c (dg_iconst (by decide) dX10_canMelt_27) <| dr_c (dg_goto (by decide) dX10_canMelt_28) <| dr_c (dg_no) <| dr_c (dg_no) <| dr_c (dg_iconst (by decide) dX10_canMelt_31) <| dr_n
theorem tr_126_2 : dm_AllR (dm_Good dm_tb RX10 cX10_canMelt 3 (some .boolean) false none) 32 [dm_ret .boolean] := dr_c (dg_ret dX10_canMelt_32) <| dr_n
theorem tk_126 : dm_AllC (dm_Good dm_tb RX10 cX10_canMelt 3 (some .boolean) false none) 0 cd_126 := dc_c (by decide) tr_126_0 <| dc_c (by decide) tr_126_1 <| dc_c (by decide) tr_126_2 <| dc_n
theorem dX10_leads_0 : decode cX10_leads 0 = .ok (.aload_n 0, 1) := by decide +kernel
theorem dX10_leads_1 : decode cX10_leads 1 = .ok (.getfield 10, 3) := by decide +kernel
theorem dX10_leads_4 : decode cX10_leads 4 = .ok (.getfield 63, 3) := by decide +kernel
theorem dX10_leads_7 : decode cX10_leads 7 = .ok (.aload_n 0, 1) := by decide +kernel
theorem dX10_leads_8 : decode cX10_leads 8 = .ok (.getfield 10, 3) := by decide +kernel
theorem dX10_leads_11 : decode cX10_leads 11 = .ok (.iload_n 1, 1) := by decide +kernel
theorem dX10_leads_12 : decode cX10_leads 12 = .ok (.invokevirtual 81, 3) := by decide +kernel
theorem dX10_leads_15 : decode cX10_leads 15 = .ok (.aload_n 0, 1) := by decide +kernel
theorem dX10_leads_16 : decode cX10_leads 16 = .ok (.getfield 10, 3) := by decide +kernel
theorem dX10_leads_19 : decode cX10_leads 19 = .ok (.iload_n 2, 1) := by decide +kernel
theorem dX10_leads_20 : decode cX10_leads 20 = .ok (.invokevirtual 81, 3) := by decide +kernel
theorem dX10_leads_23 : decode cX10_leads 23 = .ok (.invokestatic 256, 3) := by decide +kernel
theorem dX10_leads_26 : decode cX10_leads 26 = .ok (.ifCond .ne 7, 3) := by decide +kernel
theorem dX10_leads_29 : decode cX10_leads 29 = .ok (.iconst 1, 1) := by decide +kernel
theorem dX10_leads_30 : decode cX10_leads 30 = .ok (.goto 4, 3) := by decide +kernel
theorem dX10_leads_33 : decode cX10_leads 33 = .ok (.iconst 0, 1) := by decide +kernel
theorem dX10_leads_34 : decode cX10_leads 34 = .ok (.ireturn, 1) := by decide +kernel
def cd_127 : dm_Code := [[dm_ald 1 0, dm_getf 4 7 0, dm_no, dm_no, dm_getf 7 2 0, dm_no, dm_no, dm_ald 8 0, dm_getf 11 7 0, dm_no, dm_no, dm_ild 12 1, dm_inv 15 19 1 2, dm_no, dm_no, dm_ald 16 0],
  [dm_getf 19 7 0, dm_no, dm_no, dm_ild 20 2, dm_inv 23 19 1 2, dm_no, dm_no, dm_ins 26 65 3, dm_no, dm_no, dm_if_ne 29 33, dm_no, dm_no, dm_push 30 (.int 1), dm_goto 34, dm_no],
  [dm_no, dm_push 34 (.int 0), dm_ret .boolean]]
theorem tr_127_0 : dm_AllR (dm_Good dm_tb RX10 cX10_leads 3 (some .boolean) false none) 0 [dm_ald 1 0, dm_getf 4 7 0, dm_no, dm_no, dm_getf 7 2 0, dm_no, dm_no, dm_ald 8 0, dm_getf 11 7 0, dm_no, dm_no, dm_ild 12 1, dm_inv 15 19 1 2, dm_no, dm_no, dm_ald 16 0] := dr_c (dg_aload_n (k := 0) rfl dX10_leads_0) <| dr_c (dg_getf (T := TX10) (C := RX10) (N := 11) dX10_leads_1 rfl (by decide) iw_X10 wd_310) <| dr_c (dg_no) <| dr_c (dg_no) <| dr_c (dg_getf (T := TX2) (C := RX2) (N := 10) dX10_leads_4 rfl (by decide) iw_X2 wd_131) <| dr_c (dg_no) <| dr_c (dg_no) <| dr_c (dg_aload_n (k := 0) rfl dX10_leads_7) <| dr_c (dg_getf (T := TX10) (C := RX10) (N := 11) dX10_leads_8 rfl (by decide) iw_X10 wd_310) <| dr_c (dg_no) <| dr_c (dg_no) <| dr_c (dg_iload_n (k := 1) rfl dX10_leads_11) <| dr_c (dg_inv dX10_leads_12 mo_19 rfl rfl wd_405 wd_406 wd_407 pd_19) <| dr_c (dg_no) <| dr_c (dg_no) <| dr_c (dg_aload_n (k := 0) rfl dX10_leads_15) <| dr_n
theorem tr_127_1 : dm_AllR (dm_Good dm_tb RX10 cX10_leads 3 (some .boolean) false none) 16 [dm_getf 19 7 0, dm_no, dm_no, dm_ild 20 2, dm_inv 23 19 1 2, dm_no, dm_no, dm_ins 26 65 3, dm_no, dm_no, dm_if_ne 29 33, dm_no, dm_no, dm_push 30 (.int 1), dm_goto 34, dm_no] := dr_c (dg_getf (T := TX10) (C := RX10) (N := 11) dX10_leads_16 rfl (by decide) iw_X10 wd_310) <| dr_c (dg_no) <| dr_c (dg_no) <| dr_c (dg_iload_n (k := 2) rfl dX10_leads_19) <| dr_c (dg_inv dX10_leads_20 mo_19 rfl rfl wd_405 wd_406 wd_407 pd_19) <| dr_c (dg_no) <| dr_c (dg_no) <| dr_c (dg_ins dX10_leads_23 mo_65 wd_554 wd_555 pd_65) <| dr_c (dg_no) <| dr_c (dg_no) <| dr_c (dg_if_ne (by decide) dX10_leads_26) <| dr_c (dg_no) <| dr_c (dg_no) <| dr_c (dg_iconst (by decide) dX10_leads_29) <| dr_c (dg_goto (by decide) dX10_leads_30) <| dr_c (dg_no) <| dr_n
theorem tr_127_2 : dm_AllR (dm_Good dm_tb RX10 cX10_leads 3 (some .boolean) false none) 32 [dm_no, dm_push 34 (.int 0), dm_ret .boolean] := dr_c (dg_no) <| dr_c (dg_iconst (by decide) dX10_leads_33) <| dr_c (dg_ret dX10_leads_34) <| dr_n
theorem tk_127 : dm_AllC (dm_Good dm_tb RX10 cX10_leads 3 (some .boolean) false none) 0 cd_127 := dc_c (by decide) tr_127_0 <| dc_c (by decide) tr_127_1 <| dc_c (by decide) tr_127_2 <| dc_n
theorem dX10_makeEvent_0 : decode cX10_makeEvent 0 = .ok (.aload_n 0, 1) := by decide +kernel
theorem dX10_makeEvent_1 : decode cX10_makeEvent 1 = .ok (.getfield 10, 3) := by decide +kernel
theorem dX10_makeEvent_4 : decode cX10_makeEvent 4 = .ok (.iload_n 1, 1) := by decide +kernel
theorem dX10_makeEvent_5 : decode cX10_makeEvent 5 = .ok (.invokevirtual 67, 3) := by decide +kernel
theorem dX10_makeEvent_8 : decode cX10_makeEvent 8 = .ok (.istore_n 2, 1) := by decide +kernel
theorem dX10_makeEvent_9 : decode cX10_makeEvent 9 = .ok (.aload_n 0, 1) := by decide +kernel
theorem dX10_makeEvent_10 : decode cX10_makeEvent 10 = .ok (.getfield 10, 3) := by decide +kernel
theorem dX10_makeEvent_13 : decode cX10_makeEvent 13 = .ok (.getfield 63, 3) := by decide +kernel
theorem dX10_makeEvent_16 : decode cX10_makeEvent 16 = .ok (.iload_n 2, 1) := by decide +kernel
theorem dX10_makeEvent_17 : decode cX10_makeEvent 17 = .ok (.aload_n 0, 1) := by decide +kernel
theorem dX10_makeEvent_18 : decode cX10_makeEvent 18 = .ok (.getfield 10, 3) := by decide +kernel
theorem dX10_makeEvent_21 : decode cX10_makeEvent 21 = .ok (.iload_n 1, 1) := by decide +kernel
theorem dX10_makeEvent_22 : decode cX10_makeEvent 22 = .ok (.invokevirtual 81, 3) := by decide +kernel
theorem dX10_makeEvent_25 : decode cX10_makeEvent 25 = .ok (.invokestatic 259, 3) := by decide +kernel
theorem dX10_makeEvent_28 : decode cX10_makeEvent 28 = .ok (.istore_n 3, 1) := by decide +kernel
theorem dX10_makeEvent_29 : decode cX10_makeEvent 29 = .ok (.aload_n 0, 1) := by decide +kernel
theorem dX10_makeEvent_30 : decode cX10_makeEvent 30 = .ok (.getfield 10, 3) := by decide +kernel
theorem dX10_makeEvent_33 : decode cX10_makeEvent 33 = .ok (.iload_n 2, 1) := by decide +kernel
theorem dX10_makeEvent_34 : decode cX10_makeEvent 34 = .ok (.iload_n 3, 1) := by decide +kernel
theorem dX10_makeEvent_35 : decode cX10_makeEvent 35 = .ok (.iconst 2, 1) := by decide +kernel
theorem dX10_makeEvent_36 : decode cX10_makeEvent 36 = .ok (.iload_n 1, 1) := by decide +kernel
theorem dX10_makeEvent_37 : decode cX10_makeEvent 37 = .ok (.iconst (-1), 1) := by decide +kernel
theorem dX10_makeEvent_38 : decode cX10_makeEvent 38 = .ok (.invokevirtual 88, 3) := by decide +kernel
theorem dX10_makeEvent_41 : decode cX10_makeEvent 41 = .ok (.ireturn, 1) := by decide +kernel
def cd_128 : dm_Code := [[dm_ald 1 0, dm_getf 4 7 0, dm_no, dm_no, dm_ild 5 1, dm_inv 8 18 1 2, dm_no, dm_no, dm_ist 9 2, dm_ald 10 0, dm_getf 13 7 0, dm_no, dm_no, dm_getf 16 2 0, dm_no, dm_no],
  [dm_ild 17 2, dm_ald 18 0, dm_getf 21 7 0, dm_no, dm_no, dm_ild 22 1, dm_inv 25 19 1 2, dm_no, dm_no, dm_ins 28 40 3, dm_no, dm_no, dm_ist 29 3, dm_ald 30 0, dm_getf 33 7 0, dm_no],
  [dm_no, dm_ild 34 2, dm_ild 35 3, dm_push 36 (.int 2), dm_ild 37 1, dm_push 38 (.int (-1)), dm_inv 41 15 5 2, dm_no, dm_no, dm_ret .int]]
theorem tr_128_0 : dm_AllR (dm_Good dm_tb RX10 cX10_makeEvent 4 (some .int) false none) 0 [dm_ald 1 0, dm_getf 4 7 0, dm_no, dm_no, dm_ild 5 1, dm_inv 8 18 1 2, dm_no, dm_no, dm_ist 9 2, dm_ald 10 0, dm_getf 13 7 0, dm_no, dm_no, dm_getf 16 2 0, dm_no, dm_no] := dr_c (dg_aload_n (k := 0) rfl dX10_makeEvent_0) <| dr_c (dg_getf (T := TX10) (C := RX10) (N := 11) dX10_makeEvent_1 rfl (by decide) iw_X10 wd_310) <| dr_c (dg_no) <| dr_c (dg_no) <| dr_c (dg_iload_n (k := 1) rfl dX10_makeEvent_4) <| dr_c (dg_inv dX10_makeEvent_5 mo_18 rfl rfl wd_384 wd_373 wd_374 pd_18) <| dr_c (dg_no) <| dr_c (dg_no) <| dr_c (dg_istore_n (k := 2) rfl (by decide) dX10_makeEvent_8) <| dr_c (dg_aload_n (k := 0) rfl dX10_makeEvent_9) <| dr_c (dg_getf (T := TX10) (C := RX10) (N := 11) dX10_makeEvent_10 rfl (by decide) iw_X10 wd_310) <| dr_c (dg_no) <| dr_c (dg_no) <| dr_c (dg_getf (T := TX2) (C := RX2) (N := 10) dX10_makeEvent_13 rfl (by decide) iw_X2 wd_131) <| dr_c (dg_no) <| dr_c (dg_no) <| dr_n
theorem tr_128_1 : dm_AllR (dm_Good dm_tb RX10 cX10_makeEvent 4 (some .int) false none) 16 [dm_ild 17 2, dm_ald 18 0, dm_getf 21 7 0, dm_no, dm_no, dm_ild 22 1, dm_inv 25 19 1 2, dm_no, dm_no, dm_ins 28 40 3, dm_no, dm_no, dm_ist 29 3, dm_ald 30 0, dm_getf 33 7 0, dm_no] := dr_c (dg_iload_n (k := 2) rfl dX10_makeEvent_16) <| dr_c (dg_aload_n (k := 0) rfl dX10_makeEvent_17) <| dr_c (dg_getf (T := TX10) (C := RX10) (N := 11) dX10_makeEvent_18 rfl (by decide) iw_X10 wd_310) <| dr_c (dg_no) <| dr_c (dg_no) <| dr_c (dg_iload_n (k := 1) rfl dX10_makeEvent_21) <| dr_c (dg_inv dX10_makeEvent_22 mo_19 rfl rfl wd_405 wd_406 wd_407 pd_19) <| dr_c (dg_no) <| dr_c (dg_no) <| dr_c (dg_ins dX10_makeEvent_25 mo_40 wd_461 wd_462 pd_40) <| dr_c (dg_no) <| dr_c (dg_no) <| dr_c (dg_istore_n (k := 3) rfl (by decide) dX10_makeEvent_28) <| dr_c (dg_aload_n (k := 0) rfl dX10_makeEvent_29) <| dr_c (dg_getf (T := TX10) (C := RX10) (N := 11) dX10_makeEvent_30 rfl (by decide) iw_X10 wd_310) <| dr_c (dg_no) <| dr_n
theorem tr_128_2 : dm_AllR (dm_Good dm_tb RX10 cX10_makeEvent 4 (some .int) false none) 32 [dm_no, dm_ild 34 2, dm_ild 35 3, dm_push 36 (.int 2), dm_ild 37 1, dm_push 38 (.int (-1)), dm_inv 41 15 5 2, dm_no, dm_no, dm_ret .int] := dr_c (dg_no) <| dr_c (dg_iload_n (k := 2) rfl dX10_makeEvent_33) <| dr_c (dg_iload_n (k := 3) rfl dX10_makeEvent_34) <| dr_c (dg_iconst (by decide) dX10_makeEvent_35) <| dr_c (dg_iload_n (k := 1) rfl dX10_makeEvent_36) <| dr_c (dg_iconst (by decide) dX10_makeEvent_37) <| dr_c (dg_inv dX10_makeEvent_38 mo_15 rfl rfl wd_426 wd_277 wd_278 pd_15) <| dr_c (dg_no) <| dr_c (dg_no) <| dr_c (dg_ret dX10_makeEvent_41) <| dr_n
theorem tk_128 : dm_AllC (dm_Good dm_tb RX10 cX10_makeEvent 4 (some .int) false none) 0 cd_128 := dc_c (by decide) tr_128_0 <| dc_c (by decide) tr_128_1 <| dc_c (by decide) tr_128_2 <| dc_n
theorem dX10_makeJoin_0 : decode cX10_makeJoin 0 = .ok (.aload_n 0, 1) := by decide +kernel
theorem dX10_makeJoin_1 : decode cX10_makeJoin 1 = .ok (.getfield 10, 3) := by decide +kernel
theorem dX10_makeJoin_4 : decode cX10_makeJoin 4 = .ok (.getfield 63, 3) := by decide +kernel
theorem dX10_makeJoin_7 : decode cX10_makeJoin 7 = .ok (.aload_n 0, 1) := by decide +kernel
theorem dX10_makeJoin_8 : decode cX10_makeJoin 8 = .ok (.getfield 10, 3) := by decide +kernel
theorem dX10_makeJoin_11 : decode cX10_makeJoin 11 = .ok (.iload_n 1, 1) := by decide +kernel
theorem dX10_makeJoin_12 : decode cX10_makeJoin 12 = .ok (.invokevirtual 67, 3) := by decide +kernel
theorem dX10_makeJoin_15 : decode cX10_makeJoin 15 = .ok (.aload_n 0, 1) := by decide +kernel
theorem dX10_makeJoin_16 : decode cX10_makeJoin 16 = .ok (.getfield 10, 3) := by decide +kernel
theorem dX10_makeJoin_19 : decode cX10_makeJoin 19 = .ok (.iload_n 2, 1) := by decide +kernel
theorem dX10_makeJoin_20 : decode cX10_makeJoin 20 = .ok (.invokevirtual 67, 3) := by decide +kernel
theorem dX10_makeJoin_23 : decode cX10_makeJoin 23 = .ok (.invokestatic 263, 3) := by decide +kernel
theorem dX10_makeJoin_26 : decode cX10_makeJoin 26 = .ok (.istore 4, 2) := by decide +kernel
theorem dX10_makeJoin_28 : decode cX10_makeJoin 28 = .ok (.aload_n 0, 1) := by decide +kernel
theorem dX10_makeJoin_29 : decode cX10_makeJoin 29 = .ok (.getfield 10, 3) := by decide +kernel
theorem dX10_makeJoin_32 : decode cX10_makeJoin 32 = .ok (.getfield 63, 3) := by decide +kernel
theorem dX10_makeJoin_35 : decode cX10_makeJoin 35 = .ok (.aload_n 0, 1) := by decide +kernel
theorem dX10_makeJoin_36 : decode cX10_makeJoin 36 = .ok (.getfield 10, 3) := by decide +kernel
theorem dX10_makeJoin_39 : decode cX10_makeJoin 39 = .ok (.iload_n 1, 1) := by decide +kernel
theorem dX10_makeJoin_40 : decode cX10_makeJoin 40 = .ok (.invokevirtual 81, 3) := by decide +kernel
theorem dX10_makeJoin_43 : decode cX10_makeJoin 43 = .ok (.aload_n 0, 1) := by decide +kernel
theorem dX10_makeJoin_44 : decode cX10_makeJoin 44 = .ok (.getfield 10, 3) := by decide +kernel
theorem dX10_makeJoin_47 : decode cX10_makeJoin 47 = .ok (.iload_n 2, 1) := by decide +kernel
theorem dX10_makeJoin_48 : decode cX10_makeJoin 48 = .ok (.invokevirtual 81, 3) := by decide +kernel
theorem dX10_makeJoin_51 : decode cX10_makeJoin 51 = .ok (.invokestatic 263, 3) := by decide +kernel
theorem dX10_makeJoin_54 : decode cX10_makeJoin 54 = .ok (.istore 5, 2) := by decide +kernel
theorem dX10_makeJoin_56 : decode cX10_makeJoin 56 = .ok (.aload_n 0, 1) := by decide +kernel
theorem dX10_makeJoin_57 : decode cX10_makeJoin 57 = .ok (.getfield 10, 3) := by decide +kernel
theorem dX10_makeJoin_60 : decode cX10_makeJoin 60 = .ok (.iload 4, 2) := by decide +kernel
theorem dX10_makeJoin_62 : decode cX10_makeJoin 62 = .ok (.iload 5, 2) := by decide +kernel
theorem dX10_makeJoin_64 : decode cX10_makeJoin 64 = .ok (.iload_n 3, 1) := by decide +kernel
theorem dX10_makeJoin_65 : decode cX10_makeJoin 65 = .ok (.iload_n 1, 1) := by decide +kernel
theorem dX10_makeJoin_66 : decode cX10_makeJoin 66 = .ok (.iload_n 2, 1) := by decide +kernel
theorem dX10_makeJoin_67 : decode cX10_makeJoin 67 = .ok (.invokevirtual 88, 3) := by decide +kernel
theorem dX10_makeJoin_70 : decode cX10_makeJoin 70 = .ok (.ireturn, 1) := by decide +kernel
def cd_129 : dm_Code := [[dm_ald 1 0, dm_getf 4 7 0, dm_no, dm_no, dm_getf 7 2 0, dm_no, dm_no, dm_ald 8 0, dm_getf 11 7 0, dm_no, dm_no, dm_ild 12 1, dm_inv 15 18 1 2, dm_no, dm_no, dm_ald 16 0],
  [dm_getf 19 7 0, dm_no, dm_no, dm_ild 20 2, dm_inv 23 18 1 2, dm_no, dm_no, dm_ins 26 38 3, dm_no, dm_no, dm_ist 28 4, dm_no, dm_ald 29 0, dm_getf 32 7 0, dm_no, dm_no],
  [dm_getf 35 2 0, dm_no, dm_no, dm_ald 36 0, dm_getf 39 7 0, dm_no, dm_no, dm_ild 40 1, dm_inv 43 19 1 2, dm_no, dm_no, dm_ald 44 0, dm_getf 47 7 0, dm_no, dm_no, dm_ild 48 2],
  [dm_inv 51 19 1 2, dm_no, dm_no, dm_ins 54 38 3, dm_no, dm_no, dm_ist 56 5, dm_no, dm_ald 57 0, dm_getf 60 7 0, dm_no, dm_no, dm_ild 62 4, dm_no, dm_ild 64 5, dm_no],
  [dm_ild 65 3, dm_ild 66 1, dm_ild 67 2, dm_inv 70 15 5 2, dm_no, dm_no, dm_ret .int]]
theorem tr_129_0 : dm_AllR (dm_Good dm_tb RX10 cX10_makeJoin 6 (some .int) false none) 0 [dm_ald 1 0, dm_getf 4 7 0, dm_no, dm_no, dm_getf 7 2 0, dm_no, dm_no, dm_ald 8 0, dm_getf 11 7 0, dm_no, dm_no, dm_ild 12 1, dm_inv 15 18 1 2, dm_no, dm_no, dm_ald 16 0] := dr_c (dg_aload_n (k := 0) rfl dX10_makeJoin_0) <| dr_c (dg_getf (T := TX10) (C := RX10) (N := 11) dX10_makeJoin_1 rfl (by decide) iw_X10 wd_310) <| dr_c (dg_no) <| dr_c (dg_no) <| dr_c (dg_getf (T := TX2) (C := RX2) (N := 10) dX10_makeJoin_4 rfl (by decide) iw_X2 wd_131) <| dr_c (dg_no) <| dr_c (dg_no) <| dr_c (dg_aload_n (k := 0) rfl dX10_makeJoin_7) <| dr_c (dg_getf (T := TX10) (C := RX10) (N := 11) dX10_makeJoin_8 rfl (by decide) iw_X10 wd_310) <| dr_c (dg_no) <| dr_c (dg_no) <| dr_c (dg_iload_n (k := 1) rfl dX10_makeJoin_11) <| dr_c (dg_inv dX10_makeJoin_12 mo_18 rfl rfl wd_384 wd_373 wd_374 pd_18) <| dr_c (dg_no) <| dr_c (dg_no) <| dr_c (dg_aload_n (k := 0) rfl dX10_makeJoin_15) <| dr_n
theorem tr_129_1 : dm_AllR (dm_Good dm_tb RX10 cX10_makeJoin 6 (some .int) false none) 16 [dm_getf 19 7 0, dm_no, dm_no, dm_ild 20 2, dm_inv 23 18 1 2, dm_no, dm_no, dm_ins 26 38 3, dm_no, dm_no, dm_ist 28 4, dm_no, dm_ald 29 0, dm_getf 32 7 0, dm_no, dm_no] := dr_c (dg_getf (T := TX10) (C := RX10) (N := 11) dX10_makeJoin_16 rfl (by decide) iw_X10 wd_310) <| dr_c (dg_no) <| dr_c (dg_no) <| dr_c (dg_iload_n (k := 2) rfl dX10_makeJoin_19) <| dr_c (dg_inv dX10_makeJoin_20 mo_18 rfl rfl wd_384 wd_373 wd_374 pd_18) <| dr_c (dg_no) <| dr_c (dg_no) <| dr_c (dg_ins dX10_makeJoin_23 mo_38 wd_515 wd_516 pd_38) <| dr_c (dg_no) <| dr_c (dg_no) <| dr_c (dg_istore (by decide) dX10_makeJoin_26) <| dr_c (dg_no) <| dr_c (dg_aload_n (k := 0) rfl dX10_makeJoin_28) <| dr_c (dg_getf (T := TX10) (C := RX10) (N := 11) dX10_makeJoin_29 rfl (by decide) iw_X10 wd_310) <| dr_c (dg_no) <| dr_c (dg_no) <| dr_n
theorem tr_129_2 : dm_AllR (dm_Good dm_tb RX10 cX10_makeJoin 6 (some .int) false none) 32 [dm_getf 35 2 0, dm_no, dm_no, dm_ald 36 0, dm_getf 39 7 0, dm_no, dm_no, dm_ild 40 1, dm_inv 43 19 1 2, dm_no, dm_no, dm_ald 44 0, dm_getf 47 7 0, dm_no, dm_no, dm_ild 48 2] := dr_c (dg_getf (T := TX2) (C := RX2) (N := 10) dX10_makeJoin_32 rfl (by decide) iw_X2 wd_131) <| dr_c (dg_no) <| dr_c (dg_no) <| dr_c (dg_aload_n (k := 0) rfl dX10_makeJoin_35) <| dr_c (dg_getf (T := TX10) (C := RX10) (N := 11) dX10_makeJoin_36 rfl (by decide) iw_X10 wd_310) <| dr_c (dg_no) <| dr_c (dg_no) <| dr_c (dg_iload_n (k := 1) rfl dX10_makeJoin_39) <| dr_c (dg_inv dX10_makeJoin_40 mo_19 rfl rfl wd_405 wd_406 wd_407 pd_19) <| dr_c (dg_no) <| dr_c (dg_no) <| dr_c (dg_aload_n (k := 0) rfl dX10_makeJoin_43) <| dr_c (dg_getf (T := TX10) (C := RX10) (N := 11) dX10_makeJoin_44 rfl (by decide) iw_X10 wd_310) <| dr_c (dg_no) <| dr_c (dg_no) <| dr_c (dg_iload_n (k := 2) rfl dX10_makeJoin_47) <| dr_n
theorem tr_129_3 : dm_AllR (dm_Good dm_tb RX10 cX10_makeJoin 6 (some .int) false none) 48 [dm_inv 51 19 1 2, dm_no, dm_no, dm_ins 54 38 3, dm_no, dm_no, dm_ist 56 5, dm_no, dm_ald 57 0, dm_getf 60 7 0, dm_no, dm_no, dm_ild 62 4, dm_no, dm_ild 64 5, dm_no] := dr_c (dg_inv dX10_makeJoin_48 mo_19 rfl rfl wd_405 wd_406 wd_407 pd_19) <| dr_c (dg_no) <| dr_c (dg_no) <| dr_c (dg_ins dX10_makeJoin_51 mo_38 wd_515 wd_516 pd_38) <| dr_c (dg_no) <| dr_c (dg_no) <| dr_c (dg_istore (by decide) dX10_makeJoin_54) <| dr_c (dg_no) <| dr_c (dg_aload_n (k := 0) rfl dX10_makeJoin_56) <| dr_c (dg_getf (T := TX10) (C := RX10) (N := 11) dX10_makeJoin_57 rfl (by decide) iw_X10 wd_310) <| dr_c (dg_no) <| dr_c (dg_no) <| dr_c (dg_iload dX10_makeJoin_60) <| dr_c (dg_no) <| dr_c (dg_iload dX10_makeJoin_62) <| dr_c (dg_no) <| dr_n
theorem tr_129_4 : dm_AllR (dm_Good dm_tb RX10 cX10_makeJoin 6 (some .int) false none) 64 [dm_ild 65 3, dm_ild 66 1, dm_ild 67 2, dm_inv 70 15 5 2, dm_no, dm_no, dm_ret .int] := dr_c (dg_iload_n (k := 3) rfl dX10_makeJoin_64) <| dr_c (dg_iload_n (k := 1) rfl dX10_makeJoin_65) <| dr_c (dg_iload_n (k := 2) rfl dX10_makeJoin_66) <| dr_c (dg_inv dX10_makeJoin_67 mo_15 rfl rfl wd_426 wd_277 wd_278 pd_15) <| dr_c (dg_no) <| dr_c (dg_no) <| dr_c (dg_ret dX10_makeJoin_70) <| dr_n
theorem tk_129 : dm_AllC (dm_Good dm_tb RX10 cX10_makeJoin 6 (some .int) false none) 0 cd_129 := dc_c (by decide) tr_129_0 <| dc_c (by decide) tr_129_1 <| dc_c (by decide) tr_129_2 <| dc_c (by decide) tr_129_3 <| dc_c (by decide) tr_129_4 <| dc_n
theorem dX10_makePeek_0 : decode cX10_makePeek 0 = .ok (.aload_n 0, 1) := by decide +kernel
theorem dX10_makePeek_1 : decode cX10_makePeek 1 = .ok (.getfield 10, 3) := by decide +kernel
theorem dX10_makePeek_4 : decode cX10_makePeek 4 = .ok (.iconst 0, 1) := by decide +kernel
theorem dX10_makePeek_5 : decode cX10_makePeek 5 = .ok (.aload_n 0, 1) := by decide +kernel
theorem dX10_makePeek_6 : decode cX10_makePeek 6 = .ok (.getfield 10, 3) := by decide +kernel
theorem dX10_makePeek_9 : decode cX10_makePeek 9 = .ok (.iload_n 1, 1) := by decide +kernel
theorem dX10_makePeek_10 : decode cX10_makePeek 10 = .ok (.invokevirtual 81, 3) := by decide +kernel
theorem dX10_makePeek_13 : decode cX10_makePeek 13 = .ok (.iconst 4, 1) := by decide +kernel
theorem dX10_makePeek_14 : decode cX10_makePeek 14 = .ok (.iload_n 1, 1) := by decide +kernel
theorem dX10_makePeek_15 : decode cX10_makePeek 15 = .ok (.iconst (-1), 1) := by decide +kernel
theorem dX10_makePeek_16 : decode cX10_makePeek 16 = .ok (.invokevirtual 88, 3) := by decide +kernel
theorem dX10_makePeek_19 : decode cX10_makePeek 19 = .ok (.ireturn, 1) := by decide +kernel
def cd_130 : dm_Code := [[dm_ald 1 0, dm_getf 4 7 0, dm_no, dm_no, dm_push 5 (.int 0), dm_ald 6 0, dm_getf 9 7 0, dm_no, dm_no, dm_ild 10 1, dm_inv 13 19 1 2, dm_no, dm_no, dm_push 14 (.int 4), dm_ild 15 1, dm_push 16 (.int (-1))],
  [dm_inv 19 15 5 2, dm_no, dm_no, dm_ret .int]]
theorem tr_130_0 : dm_AllR (dm_Good dm_tb RX10 cX10_makePeek 2 (some .int) false none) 0 [dm_ald 1 0, dm_getf 4 7 0, dm_no, dm_no, dm_push 5 (.int 0), dm_ald 6 0, dm_getf 9 7 0, dm_no, dm_no, dm_ild 10 1, dm_inv 13 19 1 2, dm_no, dm_no, dm_push 14 (.int 4), dm_ild 15 1, dm_push 16 (.int (-1))] := dr_c (dg_aload_n (k := 0) rfl dX10_makePeek_0) <| dr_c (dg_getf (T := TX10) (C := RX10) (N := 11) dX10_makePeek_1 rfl (by decide) iw_X10 wd_310) <| dr_c (dg_no) <| dr_c (dg_no) <| dr_c (dg_iconst (by decide) dX10_makePeek_4) <| dr_c (dg_aload_n (k := 0) rfl dX10_makePeek_5) <| dr_c (dg_getf (T := TX10) (C := RX10) (N := 11) dX10_makePeek_6 rfl (by decide) iw_X10 wd_310) <| dr_c (dg_no) <| dr_c (dg_no) <| dr_c (dg_iload_n (k := 1) rfl dX10_makePeek_9) <| dr_c (dg_inv dX10_makePeek_10 mo_19 rfl rfl wd_405 wd_406 wd_407 pd_19) <| dr_c (dg_no) <| dr_c (dg_no) <| dr_c (dg_iconst (by decide) dX10_makePeek_13) <| dr_c (dg_iload_n (k := 1) rfl dX10_makePeek_14) <| dr_c (dg_iconst (by decide) dX10_makePeek_15) <| dr_n
theorem tr_130_1 : dm_AllR (dm_Good dm_tb RX10 cX10_makePeek 2 (some .int) false none) 16 [dm_inv 19 15 5 2, dm_no, dm_no, dm_ret .int] := dr_c (dg_inv dX10_makePeek_16 mo_15 rfl rfl wd_426 wd_277 wd_278 pd_15) <| dr_c (dg_no) <| dr_c (dg_no) <| dr_c (dg_ret dX10_makePeek_19) <| dr_n
theorem tk_130 : dm_AllC (dm_Good dm_tb RX10 cX10_makePeek 2 (some .int) false none) 0 cd_130 := dc_c (by decide) tr_130_0 <| dc_c (by decide) tr_130_1 <| dc_n
theorem dX10_isAboveAt_0 : decode cX10_isAboveAt 0 = .ok (.aload_n 0, 1) := by decide +kernel
theorem dX10_isAboveAt_1 : decode cX10_isAboveAt 1 = .ok (.getfield 10, 3) := by decide +kernel
theorem dX10_isAboveAt_4 : decode cX10_isAboveAt 4 = .ok (.getfield 63, 3) := by decide +kernel
theorem dX10_isAboveAt_7 : decode cX10_isAboveAt 7 = .ok (.aload_n 0, 1) := by decide +kernel
theorem dX10_isAboveAt_8 : decode cX10_isAboveAt 8 = .ok (.getfield 10, 3) := by decide +kernel
theorem dX10_isAboveAt_11 : decode cX10_isAboveAt 11 = .ok (.iload_n 1, 1) := by decide +kernel
theorem dX10_isAboveAt_12 : decode cX10_isAboveAt 12 = .ok (.invokevirtual 81, 3) := by decide +kernel
theorem dX10_isAboveAt_15 : decode cX10_isAboveAt 15 = .ok (.lload_n 3, 1) := by decide +kernel
theorem dX10_isAboveAt_16 : decode cX10_isAboveAt 16 = .ok (.iload 5, 2) := by decide +kernel
theorem dX10_isAboveAt_18 : decode cX10_isAboveAt 18 = .ok (.invokevirtual 159, 3) := by decide +kernel
theorem dX10_isAboveAt_21 : decode cX10_isAboveAt 21 = .ok (.aload_n 0, 1) := by decide +kernel
theorem dX10_isAboveAt_22 : decode cX10_isAboveAt 22 = .ok (.getfield 10, 3) := by decide +kernel
theorem dX10_isAboveAt_25 : decode cX10_isAboveAt 25 = .ok (.getfield 63, 3) := by decide +kernel
theorem dX10_isAboveAt_28 : decode cX10_isAboveAt 28 = .ok (.aload_n 0, 1) := by decide +kernel
theorem dX10_isAboveAt_29 : decode cX10_isAboveAt 29 = .ok (.getfield 10, 3) := by decide +kernel
theorem dX10_isAboveAt_32 : decode cX10_isAboveAt 32 = .ok (.iload_n 2, 1) := by decide +kernel
theorem dX10_isAboveAt_33 : decode cX10_isAboveAt 33 = .ok (.invokevirtual 81, 3) := by decide +kernel
theorem dX10_isAboveAt_36 : decode cX10_isAboveAt 36 = .ok (.lload_n 3, 1) := by decide +kernel
theorem dX10_isAboveAt_37 : decode cX10_isAboveAt 37 = .ok (.iload 5, 2) := by decide +kernel
theorem dX10_isAboveAt_39 : decode cX10_isAboveAt 39 = .ok (.invokevirtual 159, 3) := by decide +kernel
theorem dX10_isAboveAt_42 : decode cX10_isAboveAt 42 = .ok (.if_icmp .le 7, 3) := by decide +kernel
theorem dX10_isAboveAt_45 : decode cX10_isAboveAt 45 = .ok (.iconst 1, 1) := by decide +kernel
theorem dX10_isAboveAt_46 : decode cX10_isAboveAt 46 = .ok (.goto 4, 3) := by decide +kernel
theorem dX10_isAboveAt_49 : decode cX10_isAboveAt 49 = .ok (.iconst 0, 1) := by decide +kernel
theorem dX10_isAboveAt_50 : decode cX10_isAboveAt 50 = .ok (.ireturn, 1) := by decide +kernel
def cd_131 : dm_Code := [[dm_ald 1 0, dm_getf 4 7 0, dm_no, dm_no, dm_getf 7 2 0, dm_no, dm_no, dm_ald 8 0, dm_getf 11 7 0, dm_no, dm_no, dm_ild 12 1, dm_inv 15 19 1 2, dm_no, dm_no, dm_lld 16 3],
  [dm_ild 18 5, dm_no, dm_inv 21 87 3 6, dm_no, dm_no, dm_ald 22 0, dm_getf 25 7 0, dm_no, dm_no, dm_getf 28 2 0, dm_no, dm_no, dm_ald 29 0, dm_getf 32 7 0, dm_no, dm_no],
  [dm_ild 33 2, dm_inv 36 19 1 2, dm_no, dm_no, dm_lld 37 3, dm_ild 39 5, dm_no, dm_inv 42 87 3 6, dm_no, dm_no, dm_ic_le 45 49, dm_no, dm_no, dm_push 46 (.int 1), dm_goto 50, dm_no],
  [dm_no, dm_push 50 (.int 0), dm_ret .boolean]]
theorem tr_131_0 : dm_AllR (dm_Good dm_tb RX10 cX10_isAboveAt 6 (some .boolean) false none) 0 [dm_ald 1 0, dm_getf 4 7 0, dm_no, dm_no, dm_getf 7 2 0, dm_no, dm_no, dm_ald 8 0, dm_getf 11 7 0, dm_no, dm_no, dm_ild 12 1, dm_inv 15 19 1 2, dm_no, dm_no, dm_lld 16 3] := dr_c (dg_aload_n (k := 0) rfl dX10_isAboveAt_0) <| dr_c (dg_getf (T := TX10) (C := RX10) (N := 11) dX10_isAboveAt_1 rfl (by decide) iw_X10 wd_310) <| dr_c (dg_no) <| dr_c (dg_no) <| dr_c (dg_getf (T := TX2) (C := RX2) (N := 10) dX10_isAboveAt_4 rfl (by decide) iw_X2 wd_131) <| dr_c (dg_no) <| dr_c (dg_no) <| dr_c (dg_aload_n (k := 0) rfl dX10_isAboveAt_7) <| dr_c (dg_getf (T := TX10) (C := RX10) (N := 11) dX10_isAboveAt_8 rfl (by decide) iw_X10 wd_310) <| dr_c (dg_no) <| dr_c (dg_no) <| dr_c (dg_iload_n (k := 1) rfl dX10_isAboveAt_11) <| dr_c (dg_inv dX10_isAboveAt_12 mo_19 rfl rfl wd_405 wd_406 wd_407 pd_19) <| dr_c (dg_no) <| dr_c (dg_no) <| dr_c (dg_lload_n (k := 3) rfl dX10_isAboveAt_15) <| dr_n
theorem tr_131_1 : dm_AllR (dm_Good dm_tb RX10 cX10_isAboveAt 6 (some .boolean) false none) 16 [dm_ild 18 5, dm_no, dm_inv 21 87 3 6, dm_no, dm_no, dm_ald 22 0, dm_getf 25 7 0, dm_no, dm_no, dm_getf 28 2 0, dm_no, dm_no, dm_ald 29 0, dm_getf 32 7 0, dm_no, dm_no] := dr_c (dg_iload dX10_isAboveAt_16) <| dr_c (dg_no) <| dr_c (dg_inv dX10_isAboveAt_18 mo_87 rfl rfl wd_695 wd_696 wd_697 pd_87) <| dr_c (dg_no) <| dr_c (dg_no) <| dr_c (dg_aload_n (k := 0) rfl dX10_isAboveAt_21) <| dr_c (dg_getf (T := TX10) (C := RX10) (N := 11) dX10_isAboveAt_22 rfl (by decide) iw_X10 wd_310) <| dr_c (dg_no) <| dr_c (dg_no) <| dr_c (dg_getf (T := TX2) (C := RX2) (N := 10) dX10_isAboveAt_25 rfl (by decide) iw_X2 wd_131) <| dr_c (dg_no) <| dr_c (dg_no) <| dr_c (dg_aload_n (k := 0) rfl dX10_isAboveAt_28) <| dr_c (dg_getf (T := TX10) (C := RX10) (N := 11) dX10_isAboveAt_29 rfl (by decide) iw_X10 wd_310) <| dr_c (dg_no) <| dr_c (dg_no) <| dr_n
theorem tr_131_2 : dm_AllR (dm_Good dm_tb RX10 cX10_isAboveAt 6 (some .boolean) false none) 32 [dm_ild 33 2, dm_inv 36 19 1 2, dm_no, dm_no, dm_lld 37 3, dm_ild 39 5, dm_no, dm_inv 42 87 3 6, dm_no, dm_no, dm_ic_le 45 49, dm_no, dm_no, dm_push 46 (.int 1), dm_goto 50, dm_no] := dr_c (dg_iload_n (k := 2) rfl dX10_isAboveAt_32) <| dr_c (dg_inv dX10_isAboveAt_33 mo_19 rfl rfl wd_405 wd_406 wd_407 pd_19) <| dr_c (dg_no) <| dr_c (dg_no) <| dr_c (dg_lload_n (k := 3) rfl dX10_isAboveAt_36) <| dr_c (dg_iload dX10_isAboveAt_37) <| dr_c (dg_no) <| dr_c (dg_inv dX10_isAboveAt_39 mo_87 rfl rfl wd_695 wd_696 wd_697 pd_87) <| dr_c (dg_no) <| dr_c (dg_no) <| dr_c (dg_ic_le (by decide) dX10_isAboveAt_42) <| dr_c (dg_no) <| dr_c (dg_no) <| dr_c (dg_iconst (by decide) dX10_isAboveAt_45) <| dr_c (dg_goto (by decide) dX10_isAboveAt_46) <| dr_c (dg_no) <| dr_n
theorem tr_131_3 : dm_AllR (dm_Good dm_tb RX10 cX10_isAboveAt 6 (some .boolean) false none) 48 [dm_no, dm_push 50 (.int 0), dm_ret .boolean] := dr_c (dg_no) <| dr_c (dg_iconst (by decide) dX10_isAboveAt_49) <| dr_c (dg_ret dX10_isAboveAt_50) <| dr_n
theorem tk_131 : dm_AllC (dm_Good dm_tb RX10 cX10_isAboveAt 6 (some .boolean) false none) 0 cd_131 := dc_c (by decide) tr_131_0 <| dc_c (by decide) tr_131_1 <| dc_c (by decide) tr_131_2 <| dc_c (by decide) tr_131_3 <| dc_n
theorem dX10_draftOf_0 : decode cX10_draftOf 0 = .ok (.aload_n 0, 1) := by decide +kernel
theorem dX10_draftOf_1 : decode cX10_draftOf 1 = .ok (.getfield 40, 3) := by decide +kernel
theorem dX10_draftOf_4 : decode cX10_draftOf 4 = .ok (.iconst 0, 1) := by decide +kernel
theorem dX10_draftOf_5 : decode cX10_draftOf 5 = .ok (.invokevirtual 221, 3) := by decide +kernel
theorem dX10_draftOf_8 : decode cX10_draftOf 8 = .ok (.pop, 1) := by decide +kernel
theorem dX10_draftOf_9 : decode cX10_draftOf 9 = .ok (.aload_n 0, 1) := by decide +kernel
theorem dX10_draftOf_10 : decode cX10_draftOf 10 = .ok (.getfield 10, 3) := by decide +kernel
theorem dX10_draftOf_13 : decode cX10_draftOf 13 = .ok (.getfield 63, 3) := by decide +kernel
theorem dX10_draftOf_16 : decode cX10_draftOf 16 = .ok (.aload_n 0, 1) := by decide +kernel
theorem dX10_draftOf_17 : decode cX10_draftOf 17 = .ok (.getfield 10, 3) := by decide +kernel
theorem dX10_draftOf_20 : decode cX10_draftOf 20 = .ok (.iload_n 1, 1) := by decide +kernel
theorem dX10_draftOf_21 : decode cX10_draftOf 21 = .ok (.invokevirtual 67, 3) := by decide +kernel
theorem dX10_draftOf_24 : decode cX10_draftOf 24 = .ok (.aload_n 0, 1) := by decide +kernel
theorem dX10_draftOf_25 : decode cX10_draftOf 25 = .ok (.getfield 40, 3) := by decide +kernel
theorem dX10_draftOf_28 : decode cX10_draftOf 28 = .ok (.iconst 0, 1) := by decide +kernel
theorem dX10_draftOf_29 : decode cX10_draftOf 29 = .ok (.invokestatic 266, 3) := by decide +kernel
theorem dX10_draftOf_32 : decode cX10_draftOf 32 = .ok (.aload_n 0, 1) := by decide +kernel
theorem dX10_draftOf_33 : decode cX10_draftOf 33 = .ok (.getfield 10, 3) := by decide +kernel
theorem dX10_draftOf_36 : decode cX10_draftOf 36 = .ok (.getfield 63, 3) := by decide +kernel
theorem dX10_draftOf_39 : decode cX10_draftOf 39 = .ok (.aload_n 0, 1) := by decide +kernel
theorem dX10_draftOf_40 : decode cX10_draftOf 40 = .ok (.getfield 10, 3) := by decide +kernel
theorem dX10_draftOf_43 : decode cX10_draftOf 43 = .ok (.iload_n 1, 1) := by decide +kernel
theorem dX10_draftOf_44 : decode cX10_draftOf 44 = .ok (.invokevirtual 81, 3) := by decide +kernel
theorem dX10_draftOf_47 : decode cX10_draftOf 47 = .ok (.aload_n 0, 1) := by decide +kernel
theorem dX10_draftOf_48 : decode cX10_draftOf 48 = .ok (.getfield 40, 3) := by decide +kernel
theorem dX10_draftOf_51 : decode cX10_draftOf 51 = .ok (.iconst 0, 1) := by decide +kernel
theorem dX10_draftOf_52 : decode cX10_draftOf 52 = .ok (.invokestatic 272, 3) := by decide +kernel
theorem dX10_draftOf_55 : decode cX10_draftOf 55 = .ok (.aload_n 0, 1) := by decide +kernel
theorem dX10_draftOf_56 : decode cX10_draftOf 56 = .ok (.getfield 40, 3) := by decide +kernel
theorem dX10_draftOf_59 : decode cX10_draftOf 59 = .ok (.invokevirtual 213, 3) := by decide +kernel
theorem dX10_draftOf_62 : decode cX10_draftOf 62 = .ok (.ireturn, 1) := by decide +kernel
def cd_132 : dm_Code := [[dm_ald 1 0, dm_getf 4 7 5, dm_no, dm_no, dm_push 5 (.int 0), dm_inv 8 9 1 1, dm_no, dm_no, dm_pop 9, dm_ald 10 0, dm_getf 13 7 0, dm_no, dm_no, dm_getf 16 2 0, dm_no, dm_no],
  [dm_ald 17 0, dm_getf 20 7 0, dm_no, dm_no, dm_ild 21 1, dm_inv 24 18 1 2, dm_no, dm_no, dm_ald 25 0, dm_getf 28 7 5, dm_no, dm_no, dm_push 29 (.int 0), dm_ins 32 91 4, dm_no, dm_no],
  [dm_ald 33 0, dm_getf 36 7 0, dm_no, dm_no, dm_getf 39 2 0, dm_no, dm_no, dm_ald 40 0, dm_getf 43 7 0, dm_no, dm_no, dm_ild 44 1, dm_inv 47 19 1 2, dm_no, dm_no, dm_ald 48 0],
  [dm_getf 51 7 5, dm_no, dm_no, dm_push 52 (.int 0), dm_ins 55 92 4, dm_no, dm_no, dm_ald 56 0, dm_getf 59 7 5, dm_no, dm_no, dm_inv 62 6 0 1, dm_no, dm_no, dm_ret .int]]
theorem tr_132_0 : dm_AllR (dm_Good dm_tb RX10 cX10_draftOf 2 (some .int) false none) 0 [dm_ald 1 0, dm_getf 4 7 5, dm_no, dm_no, dm_push 5 (.int 0), dm_inv 8 9 1 1, dm_no, dm_no, dm_pop 9, dm_ald 10 0, dm_getf 13 7 0, dm_no, dm_no, dm_getf 16 2 0, dm_no, dm_no] := dr_c (dg_aload_n (k := 0) rfl dX10_draftOf_0) <| dr_c (dg_getf (T := TX10) (C := RX10) (N := 11) dX10_draftOf_1 rfl (by decide) iw_X10 wd_315) <| dr_c (dg_no) <| dr_c (dg_no) <| dr_c (dg_iconst (by decide) dX10_draftOf_4) <| dr_c (dg_inv dX10_draftOf_5 mo_9 rfl rfl wd_306 wd_307 wd_308 pd_9) <| dr_c (dg_no) <| dr_c (dg_no) <| dr_c (dg_pop dX10_draftOf_8) <| dr_c (dg_aload_n (k := 0) rfl dX10_draftOf_9) <| dr_c (dg_getf (T := TX10) (C := RX10) (N := 11) dX10_draftOf_10 rfl (by decide) iw_X10 wd_310) <| dr_c (dg_no) <| dr_c (dg_no) <| dr_c (dg_getf (T := TX2) (C := RX2) (N := 10) dX10_draftOf_13 rfl (by decide) iw_X2 wd_131) <| dr_c (dg_no) <| dr_c (dg_no) <| dr_n
theorem tr_132_1 : dm_AllR (dm_Good dm_tb RX10 cX10_draftOf 2 (some .int) false none) 16 [dm_ald 17 0, dm_getf 20 7 0, dm_no, dm_no, dm_ild 21 1, dm_inv 24 18 1 2, dm_no, dm_no, dm_ald 25 0, dm_getf 28 7 5, dm_no, dm_no, dm_push 29 (.int 0), dm_ins 32 91 4, dm_no, dm_no] := dr_c (dg_aload_n (k := 0) rfl dX10_draftOf_16) <| dr_c (dg_getf (T := TX10) (C := RX10) (N := 11) dX10_draftOf_17 rfl (by decide) iw_X10 wd_310) <| dr_c (dg_no) <| dr_c (dg_no) <| dr_c (dg_iload_n (k := 1) rfl dX10_draftOf_20) <| dr_c (dg_inv dX10_draftOf_21 mo_18 rfl rfl wd_384 wd_373 wd_374 pd_18) <| dr_c (dg_no) <| dr_c (dg_no) <| dr_c (dg_aload_n (k := 0) rfl dX10_draftOf_24) <| dr_c (dg_getf (T := TX10) (C := RX10) (N := 11) dX10_draftOf_25 rfl (by decide) iw_X10 wd_315) <| dr_c (dg_no) <| dr_c (dg_no) <| dr_c (dg_iconst (by decide) dX10_draftOf_28) <| dr_c (dg_insN (host := RX10) dX10_draftOf_29 mo_91 (by decide +kernel) wd_633 pd_91) <| dr_c (dg_no) <| dr_c (dg_no) <| dr_n
theorem tr_132_2 : dm_AllR (dm_Good dm_tb RX10 cX10_draftOf 2 (some .int) false none) 32 [dm_ald 33 0, dm_getf 36 7 0, dm_no, dm_no, dm_getf 39 2 0, dm_no, dm_no, dm_ald 40 0, dm_getf 43 7 0, dm_no, dm_no, dm_ild 44 1, dm_inv 47 19 1 2, dm_no, dm_no, dm_ald 48 0] := dr_c (dg_aload_n (k := 0) rfl dX10_draftOf_32) <| dr_c (dg_getf (T := TX10) (C := RX10) (N := 11) dX10_draftOf_33 rfl (by decide) iw_X10 wd_310) <| dr_c (dg_no) <| dr_c (dg_no) <| dr_c (dg_getf (T := TX2) (C := RX2) (N := 10) dX10_draftOf_36 rfl (by decide) iw_X2 wd_131) <| dr_c (dg_no) <| dr_c (dg_no) <| dr_c (dg_aload_n (k := 0) rfl dX10_draftOf_39) <| dr_c (dg_getf (T := TX10) (C := RX10) (N := 11) dX10_draftOf_40 rfl (by decide) iw_X10 wd_310) <| dr_c (dg_no) <| dr_c (dg_no) <| dr_c (dg_iload_n (k := 1) rfl dX10_draftOf_43) <| dr_c (dg_inv dX10_draftOf_44 mo_19 rfl rfl wd_405 wd_406 wd_407 pd_19) <| dr_c (dg_no) <| dr_c (dg_no) <| dr_c (dg_aload_n (k := 0) rfl dX10_draftOf_47) <| dr_n
theorem tr_132_3 : dm_AllR (dm_Good dm_tb RX10 cX10_draftOf 2 (some .int) false none) 48 [dm_getf 51 7 5, dm_no, dm_no, dm_push 52 (.int 0), dm_ins 55 92 4, dm_no, dm_no, dm_ald 56 0, dm_getf 59 7 5, dm_no, dm_no, dm_inv 62 6 0 1, dm_no, dm_no, dm_ret .int] := dr_c (dg_getf (T := TX10) (C := RX10) (N := 11) dX10_draftOf_48 rfl (by decide) iw_X10 wd_315) <| dr_c (dg_no) <| dr_c (dg_no) <| dr_c (dg_iconst (by decide) dX10_draftOf_51) <| dr_c (dg_insN (host := RX10) dX10_draftOf_52 mo_92 (by decide +kernel) wd_647 pd_92) <| dr_c (dg_no) <| dr_c (dg_no) <| dr_c (dg_aload_n (k := 0) rfl dX10_draftOf_55) <| dr_c (dg_getf (T := TX10) (C := RX10) (N := 11) dX10_draftOf_56 rfl (by decide) iw_X10 wd_315) <| dr_c (dg_no) <| dr_c (dg_no) <| dr_c (dg_inv dX10_draftOf_59 mo_6 rfl rfl wd_653 wd_654 wd_655 pd_6) <| dr_c (dg_no) <| dr_c (dg_no) <| dr_c (dg_ret dX10_draftOf_62) <| dr_n
theorem tk_132 : dm_AllC (dm_Good dm_tb RX10 cX10_draftOf 2 (some .int) false none) 0 cd_132 := dc_c (by decide) tr_132_0 <| dc_c (by decide) tr_132_1 <| dc_c (by decide) tr_132_2 <| dc_c (by decide) tr_132_3 <| dc_n
theorem dX10_isPlace_0 : decode cX10_isPlace 0 = .ok (.iload_n 2, 1) := by decide +kernel
theorem dX10_isPlace_1 : decode cX10_isPlace 1 = .ok (.ifCond .lt 27, 3) := by decide +kernel
theorem dX10_isPlace_4 : decode cX10_isPlace 4 = .ok (.iload_n 2, 1) := by decide +kernel
theorem dX10_isPlace_5 : decode cX10_isPlace 5 = .ok (.bipush 60, 2) := by decide +kernel
theorem dX10_isPlace_7 : decode cX10_isPlace 7 = .ok (.if_icmp .gt 21, 3) := by decide +kernel
theorem dX10_isPlace_10 : decode cX10_isPlace 10 = .ok (.lload_n 0, 1) := by decide +kernel
theorem dX10_isPlace_11 : decode cX10_isPlace 11 = .ok (.lconst 0, 1) := by decide +kernel
theorem dX10_isPlace_12 : decode cX10_isPlace 12 = .ok (.lcmp, 1) := by decide +kernel
theorem dX10_isPlace_13 : decode cX10_isPlace 13 = .ok (.ifCond .lt 15, 3) := by decide +kernel
theorem dX10_isPlace_16 : decode cX10_isPlace 16 = .ok (.lload_n 0, 1) := by decide +kernel
theorem dX10_isPlace_17 : decode cX10_isPlace 17 = .ok (.lconst 1, 1) := by decide +kernel
theorem dX10_isPlace_18 : decode cX10_isPlace 18 = .ok (.iload_n 2, 1) := by decide +kernel
theorem dX10_isPlace_19 : decode cX10_isPlace 19 = .ok (.lshl, 1) := by decide +kernel
theorem dX10_isPlace_20 : decode cX10_isPlace 20 = .ok (.lcmp, 1) := by decide +kernel
theorem dX10_isPlace_21 : decode cX10_isPlace 21 = .ok (.ifCond .ge 7, 3) := by decide +kernel
theorem dX10_isPlace_24 : decode cX10_isPlace 24 = .ok (.iconst 1, 1) := by decide +kernel
theorem dX10_isPlace_25 : decode cX10_isPlace 25 = .ok (.goto 4, 3) := by decide +kernel
theorem dX10_isPlace_28 : decode cX10_isPlace 28 = .ok (.iconst 0, 1) := by decide +kernel
theorem dX10_isPlace_29 : decode cX10_isPlace 29 = .ok (.ireturn, 1) := by decide +kernel
def cd_133 : dm_Code := [[dm_ild 1 2, dm_if_lt 4 28, dm_no, dm_no, dm_ild 5 2, dm_push 7 (.int 60), dm_no, dm_ic_gt 10 28, dm_no, dm_no, dm_lld 11 0, dm_push 12 (.long 0), dm_lc 13, dm_if_lt 16 28, dm_no, dm_no],
  [dm_lld 17 0, dm_push 18 (.long 1), dm_ild 19 2, dm_li 20 (fun x y => x <<< (y.toInt64 &&& 63)), dm_lc 21, dm_if_ge 24 28, dm_no, dm_no, dm_push 25 (.int 1), dm_goto 29, dm_no, dm_no, dm_push 29 (.int 0), dm_ret .boolean]]
theorem tr_133_0 : dm_AllR (dm_Good dm_tb RX10 cX10_isPlace 3 (some .boolean) false none) 0 [dm_ild 1 2, dm_if_lt 4 28, dm_no, dm_no, dm_ild 5 2, dm_push 7 (.int 60), dm_no, dm_ic_gt 10 28, dm_no, dm_no, dm_lld 11 0, dm_push 12 (.long 0), dm_lc 13, dm_if_lt 16 28, dm_no, dm_no] := dr_c (dg_iload_n (k := 2) rfl dX10_isPlace_0) <| dr_c (dg_if_lt (by decide) dX10_isPlace_1) <| dr_c (dg_no) <| dr_c (dg_no) <| dr_c (dg_iload_n (k := 2) rfl dX10_isPlace_4) <| dr_c (dg_bipush (by decide) dX10_isPlace_5) <| dr_c (dg_no) <| dr_c (dg_ic_gt (by decide) dX10_isPlace_7) <| dr_c (dg_no) <| dr_c (dg_no) <| dr_c (dg_lload_n (k := 0) rfl dX10_isPlace_10) <| dr_c (dg_lconst (by decide) dX10_isPlace_11) <| dr_c (dg_lcmp dX10_isPlace_12) <| dr_c (dg_if_lt (by decide) dX10_isPlace_13) <| dr_c (dg_no) <| dr_c (dg_no) <| dr_n
theorem tr_133_1 : dm_AllR (dm_Good dm_tb RX10 cX10_isPlace 3 (some .boolean) false none) 16 [dm_lld 17 0, dm_push 18 (.long 1), dm_ild 19 2, dm_li 20 (fun x y => x <<< (y.toInt64 &&& 63)), dm_lc 21, dm_if_ge 24 28, dm_no, dm_no, dm_push 25 (.int 1), dm_goto 29, dm_no, dm_no, dm_push 29 (.int 0), dm_ret .boolean] := dr_c (dg_lload_n (k := 0) rfl dX10_isPlace_16) <| dr_c (dg_lconst (by decide) dX10_isPlace_17) <| dr_c (dg_iload_n (k := 2) rfl dX10_isPlace_18) <| dr_c (dg_lshl dX10_isPlace_19) <| dr_c (dg_lcmp dX10_isPlace_20) <| dr_c (dg_if_ge (by decide) dX10_isPlace_21) <| dr_c (dg_no) <| dr_c (dg_no) <| dr_c (dg_iconst (by decide) dX10_isPlace_24) <| dr_c (dg_goto (by decide) dX10_isPlace_25) <| dr_c (dg_no) <| dr_c (dg_no) <| dr_c (dg_iconst (by decide) dX10_isPlace_28) <| dr_c (dg_ret dX10_isPlace_29) <| dr_n
theorem tk_133 : dm_AllC (dm_Good dm_tb RX10 cX10_isPlace 3 (some .boolean) false none) 0 cd_133 := dc_c (by decide) tr_133_0 <| dc_c (by decide) tr_133_1 <| dc_n
