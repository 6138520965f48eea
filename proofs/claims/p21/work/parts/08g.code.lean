theorem dX11_readShare_0 : decode cX11_readShare 0 = .ok (.aload_n 0, 1) := by decide +kernel
theorem dX11_readShare_1 : decode cX11_readShare 1 = .ok (.getfield 355, 3) := by decide +kernel
theorem dX11_readShare_4 : decode cX11_readShare 4 = .ok (.iconst (-1), 1) := by decide +kernel
theorem dX11_readShare_5 : decode cX11_readShare 5 = .ok (.if_icmp .eq 5, 3) := by decide +kernel
theorem dX11_readShare_8 : decode cX11_readShare 8 = .ok (.iconst 0, 1) := by decide +kernel
theorem dX11_readShare_9 : decode cX11_readShare 9 = .ok (.ireturn, 1) := by decide +kernel
theorem dX11_readShare_10 : decode cX11_readShare 10 = .ok (.aload_n 0, 1) := by decide +kernel
theorem dX11_readShare_11 : decode cX11_readShare 11 = .ok (.getfield 336, 3) := by decide +kernel
theorem dX11_readShare_14 : decode cX11_readShare 14 = .ok (.istore_n 2, 1) := by decide +kernel
theorem dX11_readShare_15 : decode cX11_readShare 15 = .ok (.iload_n 1, 1) := by decide +kernel
theorem dX11_readShare_16 : decode cX11_readShare 16 = .ok (.bipush 60, 2) := by decide +kernel
theorem dX11_readShare_18 : decode cX11_readShare 18 = .ok (.if_icmp .le 10, 3) := by decide +kernel
theorem dX11_readShare_21 : decode cX11_readShare 21 = .ok (.aload_n 0, 1) := by decide +kernel
theorem dX11_readShare_22 : decode cX11_readShare 22 = .ok (.iload_n 2, 1) := by decide +kernel
theorem dX11_readShare_23 : decode cX11_readShare 23 = .ok (.invokevirtual 358, 3) := by decide +kernel
theorem dX11_readShare_26 : decode cX11_readShare 26 = .ok (.iconst 0, 1) := by decide +kernel
theorem dX11_readShare_27 : decode cX11_readShare 27 = .ok (.ireturn, 1) := by decide +kernel
theorem dX11_readShare_28 : decode cX11_readShare 28 = .ok (.aload_n 0, 1) := by decide +kernel
theorem dX11_readShare_29 : decode cX11_readShare 29 = .ok (.invokevirtual 361, 3) := by decide +kernel
theorem dX11_readShare_32 : decode cX11_readShare 32 = .ok (.istore_n 3, 1) := by decide +kernel
theorem dX11_readShare_33 : decode cX11_readShare 33 = .ok (.aload_n 0, 1) := by decide +kernel
theorem dX11_readShare_34 : decode cX11_readShare 34 = .ok (.invokevirtual 361, 3) := by decide +kernel
theorem dX11_readShare_37 : decode cX11_readShare 37 = .ok (.istore 4, 2) := by decide +kernel
theorem dX11_readShare_39 : decode cX11_readShare 39 = .ok (.aload_n 0, 1) := by decide +kernel
theorem dX11_readShare_40 : decode cX11_readShare 40 = .ok (.getfield 355, 3) := by decide +kernel
theorem dX11_readShare_43 : decode cX11_readShare 43 = .ok (.iconst (-1), 1) := by decide +kernel
theorem dX11_readShare_44 : decode cX11_readShare 44 = .ok (.if_icmp .eq 5, 3) := by decide +kernel
theorem dX11_readShare_47 : decode cX11_readShare 47 = .ok (.iconst 0, 1) := by decide +kernel
theorem dX11_readShare_48 : decode cX11_readShare 48 = .ok (.ireturn, 1) := by decide +kernel
theorem dX11_readShare_49 : decode cX11_readShare 49 = .ok (.iload_n 3, 1) := by decide +kernel
theorem dX11_readShare_50 : decode cX11_readShare 50 = .ok (.ifCond .ne 13, 3) := by decide +kernel
theorem dX11_readShare_53 : decode cX11_readShare 53 = .ok (.iload 4, 2) := by decide +kernel
theorem dX11_readShare_55 : decode cX11_readShare 55 = .ok (.ifCond .ne 8, 3) := by decide +kernel
theorem dX11_readShare_58 : decode cX11_readShare 58 = .ok (.aload_n 0, 1) := by decide +kernel
theorem dX11_readShare_59 : decode cX11_readShare 59 = .ok (.invokevirtual 361, 3) := by decide +kernel
theorem dX11_readShare_62 : decode cX11_readShare 62 = .ok (.ireturn, 1) := by decide +kernel
theorem dX11_readShare_63 : decode cX11_readShare 63 = .ok (.iload_n 3, 1) := by decide +kernel
theorem dX11_readShare_64 : decode cX11_readShare 64 = .ok (.iconst 1, 1) := by decide +kernel
theorem dX11_readShare_65 : decode cX11_readShare 65 = .ok (.if_icmp .ne 13, 3) := by decide +kernel
theorem dX11_readShare_68 : decode cX11_readShare 68 = .ok (.aload_n 0, 1) := by decide +kernel
theorem dX11_readShare_69 : decode cX11_readShare 69 = .ok (.iload_n 1, 1) := by decide +kernel
theorem dX11_readShare_70 : decode cX11_readShare 70 = .ok (.iconst 1, 1) := by decide +kernel
theorem dX11_readShare_71 : decode cX11_readShare 71 = .ok (.iadd, 1) := by decide +kernel
theorem dX11_readShare_72 : decode cX11_readShare 72 = .ok (.invokevirtual 365, 3) := by decide +kernel
theorem dX11_readShare_75 : decode cX11_readShare 75 = .ok (.goto 4, 3) := by decide +kernel
theorem dX11_readShare_78 : decode cX11_readShare 78 = .ok (.iconst 0, 1) := by decide +kernel
theorem dX11_readShare_79 : decode cX11_readShare 79 = .ok (.istore 5, 2) := by decide +kernel
theorem dX11_readShare_81 : decode cX11_readShare 81 = .ok (.iload 4, 2) := by decide +kernel
theorem dX11_readShare_83 : decode cX11_readShare 83 = .ok (.iconst 1, 1) := by decide +kernel
theorem dX11_readShare_84 : decode cX11_readShare 84 = .ok (.if_icmp .ne 13, 3) := by decide +kernel
theorem dX11_readShare_87 : decode cX11_readShare 87 = .ok (.aload_n 0, 1) := by decide +kernel
theorem dX11_readShare_88 : decode cX11_readShare 88 = .ok (.iload_n 1, 1) := by decide +kernel
theorem dX11_readShare_89 : decode cX11_readShare 89 = .ok (.iconst 1, 1) := by decide +kernel
theorem dX11_readShare_90 : decode cX11_readShare 90 = .ok (.iadd, 1) := by decide +kernel
theorem dX11_readShare_91 : decode cX11_readShare 91 = .ok (.invokevirtual 365, 3) := by decide +kernel
theorem dX11_readShare_94 : decode cX11_readShare 94 = .ok (.goto 4, 3) := by decide +kernel
theorem dX11_readShare_97 : decode cX11_readShare 97 = .ok (.iconst 0, 1) := by decide +kernel
theorem dX11_readShare_98 : decode cX11_readShare 98 = .ok (.istore 6, 2) := by decide +kernel
theorem dX11_readShare_100 : decode cX11_readShare 100 = .ok (.aload_n 0, 1) := by decide +kernel
theorem dX11_readShare_101 : decode cX11_readShare 101 = .ok (.getfield 355, 3) := by decide +kernel
theorem dX11_readShare_104 : decode cX11_readShare 104 = .ok (.iconst (-1), 1) := by decide +kernel
theorem dX11_readShare_105 : decode cX11_readShare 105 = .ok (.if_icmp .eq 5, 3) := by decide +kernel
theorem dX11_readShare_108 : decode cX11_readShare 108 = .ok (.iconst 0, 1) := by decide +kernel
theorem dX11_readShare_109 : decode cX11_readShare 109 = .ok (.ireturn, 1) := by decide +kernel
theorem dX11_readShare_110 : decode cX11_readShare 110 = .ok (.iload_n 3, 1) := by decide +kernel
theorem dX11_readShare_111 : decode cX11_readShare 111 = .ok (.iconst 1, 1) := by decide +kernel
theorem dX11_readShare_112 : decode cX11_readShare 112 = .ok (.if_icmp .ne 8, 3) := by decide +kernel
theorem dX11_readShare_115 : decode cX11_readShare 115 = .ok (.iload 5, 2) := by decide +kernel
theorem dX11_readShare_117 : decode cX11_readShare 117 = .ok (.ifCond .eq 26, 3) := by decide +kernel
theorem dX11_readShare_120 : decode cX11_readShare 120 = .ok (.iload 4, 2) := by decide +kernel
theorem dX11_readShare_122 : decode cX11_readShare 122 = .ok (.iconst 1, 1) := by decide +kernel
theorem dX11_readShare_123 : decode cX11_readShare 123 = .ok (.if_icmp .ne 8, 3) := by decide +kernel
theorem dX11_readShare_126 : decode cX11_readShare 126 = .ok (.iload 6, 2) := by decide +kernel
theorem dX11_readShare_128 : decode cX11_readShare 128 = .ok (.ifCond .eq 15, 3) := by decide +kernel
theorem dX11_readShare_131 : decode cX11_readShare 131 = .ok (.iload 5, 2) := by decide +kernel
theorem dX11_readShare_133 : decode cX11_readShare 133 = .ok (.iconst 1, 1) := by decide +kernel
theorem dX11_readShare_134 : decode cX11_readShare 134 = .ok (.if_icmp .ne 14, 3) := by decide +kernel
theorem dX11_readShare_137 : decode cX11_readShare 137 = .ok (.iload 6, 2) := by decide +kernel
theorem dX11_readShare_139 : decode cX11_readShare 139 = .ok (.iconst 1, 1) := by decide +kernel
theorem dX11_readShare_140 : decode cX11_readShare 140 = .ok (.if_icmp .ne 8, 3) := by decide +kernel
theorem dX11_readShare_143 : decode cX11_readShare 143 = .ok (.aload_n 0, 1) := by decide +kernel
theorem dX11_readShare_144 : decode cX11_readShare 144 = .ok (.iload_n 2, 1) := by decide +kernel
theorem dX11_readShare_145 : decode cX11_readShare 145 = .ok (.invokevirtual 358, 3) := by decide +kernel
theorem dX11_readShare_148 : decode cX11_readShare 148 = .ok (.iconst 2, 1) := by decide +kernel
theorem dX11_readShare_149 : decode cX11_readShare 149 = .ok (.ireturn, 1) := by decide +kernel
def cd_200 : dm_Code := [[dm_ald 1 0, dm_getf 4 8 66, dm_no, dm_no, dm_push 5 (.int (-1)), dm_ic_eq 8 10, dm_no, dm_no, dm_push 9 (.int 0), dm_ret .int, dm_ald 11 0, dm_getf 14 8 65, dm_no, dm_no, dm_ist 15 2, dm_ild 16 1],
  [dm_push 18 (.int 60), dm_no, dm_ic_le 21 28, dm_no, dm_no, dm_ald 22 0, dm_ild 23 2, dm_inv 26 197 1 8, dm_no, dm_no, dm_push 27 (.int 0), dm_ret .int, dm_ald 29 0, dm_inv 32 198 0 8, dm_no, dm_no],
  [dm_ist 33 3, dm_ald 34 0, dm_inv 37 198 0 8, dm_no, dm_no, dm_ist 39 4, dm_no, dm_ald 40 0, dm_getf 43 8 66, dm_no, dm_no, dm_push 44 (.int (-1)), dm_ic_eq 47 49, dm_no, dm_no, dm_push 48 (.int 0)],
  [dm_ret .int, dm_ild 50 3, dm_if_ne 53 63, dm_no, dm_no, dm_ild 55 4, dm_no, dm_if_ne 58 63, dm_no, dm_no, dm_ald 59 0, dm_inv 62 198 0 8, dm_no, dm_no, dm_ret .int, dm_ild 64 3],
  [dm_push 65 (.int 1), dm_ic_ne 68 78, dm_no, dm_no, dm_ald 69 0, dm_ild 70 1, dm_push 71 (.int 1), dm_ii 72 (fun x y => x + y), dm_inv 75 200 1 8, dm_no, dm_no, dm_goto 79, dm_no, dm_no, dm_push 79 (.int 0), dm_ist 81 5],
  [dm_no, dm_ild 83 4, dm_no, dm_push 84 (.int 1), dm_ic_ne 87 97, dm_no, dm_no, dm_ald 88 0, dm_ild 89 1, dm_push 90 (.int 1), dm_ii 91 (fun x y => x + y), dm_inv 94 200 1 8, dm_no, dm_no, dm_goto 98, dm_no],
  [dm_no, dm_push 98 (.int 0), dm_ist 100 6, dm_no, dm_ald 101 0, dm_getf 104 8 66, dm_no, dm_no, dm_push 105 (.int (-1)), dm_ic_eq 108 110, dm_no, dm_no, dm_push 109 (.int 0), dm_ret .int, dm_ild 111 3, dm_push 112 (.int 1)],
  [dm_ic_ne 115 120, dm_no, dm_no, dm_ild 117 5, dm_no, dm_if_eq 120 143, dm_no, dm_no, dm_ild 122 4, dm_no, dm_push 123 (.int 1), dm_ic_ne 126 131, dm_no, dm_no, dm_ild 128 6, dm_no],
  [dm_if_eq 131 143, dm_no, dm_no, dm_ild 133 5, dm_no, dm_push 134 (.int 1), dm_ic_ne 137 148, dm_no, dm_no, dm_ild 139 6, dm_no, dm_push 140 (.int 1), dm_ic_ne 143 148, dm_no, dm_no, dm_ald 144 0],
  [dm_ild 145 2, dm_inv 148 197 1 8, dm_no, dm_no, dm_push 149 (.int 2), dm_ret .int]]
theorem tr_200_0 : dm_AllR (dm_Good dm_tb RX11 cX11_readShare 7 (some .int) false none) 0 [dm_ald 1 0, dm_getf 4 8 66, dm_no, dm_no, dm_push 5 (.int (-1)), dm_ic_eq 8 10, dm_no, dm_no, dm_push 9 (.int 0), dm_ret .int, dm_ald 11 0, dm_getf 14 8 65, dm_no, dm_no, dm_ist 15 2, dm_ild 16 1] := dr_c (dg_aload_n (k := 0) rfl dX11_readShare_0) <| dr_c (dg_getf (T := TX11) (C := RX11) (N := 68) dX11_readShare_1 rfl (by decide) iw_X11 wd_1014) <| dr_c (dg_no) <| dr_c (dg_no) <| dr_c (dg_iconst (by decide) dX11_readShare_4) <| dr_c (dg_ic_eq (by decide) dX11_readShare_5) <| dr_c (dg_no) <| dr_c (dg_no) <| dr_c (dg_iconst (by decide) dX11_readShare_8) <| dr_c (dg_ret dX11_readShare_9) <| dr_c (dg_aload_n (k := 0) rfl dX11_readShare_10) <| dr_c (dg_getf (T := TX11) (C := RX11) (N := 68) dX11_readShare_11 rfl (by decide) iw_X11 wd_1013) <| dr_c (dg_no) <| dr_c (dg_no) <| dr_c (dg_istore_n (k := 2) rfl (by decide) dX11_readShare_14) <| dr_c (dg_iload_n (k := 1) rfl dX11_readShare_15) <| dr_n
theorem tr_200_1 : dm_AllR (dm_Good dm_tb RX11 cX11_readShare 7 (some .int) false none) 16 [dm_push 18 (.int 60), dm_no, dm_ic_le 21 28, dm_no, dm_no, dm_ald 22 0, dm_ild 23 2, dm_inv 26 197 1 8, dm_no, dm_no, dm_push 27 (.int 0), dm_ret .int, dm_ald 29 0, dm_inv 32 198 0 8, dm_no, dm_no] := dr_c (dg_bipush (by decide) dX11_readShare_16) <| dr_c (dg_no) <| dr_c (dg_ic_le (by decide) dX11_readShare_18) <| dr_c (dg_no) <| dr_c (dg_no) <| dr_c (dg_aload_n (k := 0) rfl dX11_readShare_21) <| dr_c (dg_iload_n (k := 2) rfl dX11_readShare_22) <| dr_c (dg_inv dX11_readShare_23 mo_197 rfl rfl wd_1389 wd_1391 wd_54 pd_197) <| dr_c (dg_no) <| dr_c (dg_no) <| dr_c (dg_iconst (by decide) dX11_readShare_26) <| dr_c (dg_ret dX11_readShare_27) <| dr_c (dg_aload_n (k := 0) rfl dX11_readShare_28) <| dr_c (dg_inv dX11_readShare_29 mo_198 rfl rfl wd_1393 wd_1395 wd_55 pd_198) <| dr_c (dg_no) <| dr_c (dg_no) <| dr_n
theorem tr_200_2 : dm_AllR (dm_Good dm_tb RX11 cX11_readShare 7 (some .int) false none) 32 [dm_ist 33 3, dm_ald 34 0, dm_inv 37 198 0 8, dm_no, dm_no, dm_ist 39 4, dm_no, dm_ald 40 0, dm_getf 43 8 66, dm_no, dm_no, dm_push 44 (.int (-1)), dm_ic_eq 47 49, dm_no, dm_no, dm_push 48 (.int 0)] := dr_c (dg_istore_n (k := 3) rfl (by decide) dX11_readShare_32) <| dr_c (dg_aload_n (k := 0) rfl dX11_readShare_33) <| dr_c (dg_inv dX11_readShare_34 mo_198 rfl rfl wd_1393 wd_1395 wd_55 pd_198) <| dr_c (dg_no) <| dr_c (dg_no) <| dr_c (dg_istore (by decide) dX11_readShare_37) <| dr_c (dg_no) <| dr_c (dg_aload_n (k := 0) rfl dX11_readShare_39) <| dr_c (dg_getf (T := TX11) (C := RX11) (N := 68) dX11_readShare_40 rfl (by decide) iw_X11 wd_1014) <| dr_c (dg_no) <| dr_c (dg_no) <| dr_c (dg_iconst (by decide) dX11_readShare_43) <| dr_c (dg_ic_eq (by decide) dX11_readShare_44) <| dr_c (dg_no) <| dr_c (dg_no) <| dr_c (dg_iconst (by decide) dX11_readShare_47) <| dr_n
theorem tr_200_3 : dm_AllR (dm_Good dm_tb RX11 cX11_readShare 7 (some .int) false none) 48 [dm_ret .int, dm_ild 50 3, dm_if_ne 53 63, dm_no, dm_no, dm_ild 55 4, dm_no, dm_if_ne 58 63, dm_no, dm_no, dm_ald 59 0, dm_inv 62 198 0 8, dm_no, dm_no, dm_ret .int, dm_ild 64 3] := dr_c (dg_ret dX11_readShare_48) <| dr_c (dg_iload_n (k := 3) rfl dX11_readShare_49) <| dr_c (dg_if_ne (by decide) dX11_readShare_50) <| dr_c (dg_no) <| dr_c (dg_no) <| dr_c (dg_iload dX11_readShare_53) <| dr_c (dg_no) <| dr_c (dg_if_ne (by decide) dX11_readShare_55) <| dr_c (dg_no) <| dr_c (dg_no) <| dr_c (dg_aload_n (k := 0) rfl dX11_readShare_58) <| dr_c (dg_inv dX11_readShare_59 mo_198 rfl rfl wd_1393 wd_1395 wd_55 pd_198) <| dr_c (dg_no) <| dr_c (dg_no) <| dr_c (dg_ret dX11_readShare_62) <| dr_c (dg_iload_n (k := 3) rfl dX11_readShare_63) <| dr_n
theorem tr_200_4 : dm_AllR (dm_Good dm_tb RX11 cX11_readShare 7 (some .int) false none) 64 [dm_push 65 (.int 1), dm_ic_ne 68 78, dm_no, dm_no, dm_ald 69 0, dm_ild 70 1, dm_push 71 (.int 1), dm_ii 72 (fun x y => x + y), dm_inv 75 200 1 8, dm_no, dm_no, dm_goto 79, dm_no, dm_no, dm_push 79 (.int 0), dm_ist 81 5] := dr_c (dg_iconst (by decide) dX11_readShare_64) <| dr_c (dg_ic_ne (by decide) dX11_readShare_65) <| dr_c (dg_no) <| dr_c (dg_no) <| dr_c (dg_aload_n (k := 0) rfl dX11_readShare_68) <| dr_c (dg_iload_n (k := 1) rfl dX11_readShare_69) <| dr_c (dg_iconst (by decide) dX11_readShare_70) <| dr_c (dg_iadd dX11_readShare_71) <| dr_c (dg_inv dX11_readShare_72 mo_200 rfl rfl wd_1385 wd_1387 wd_53 pd_200) <| dr_c (dg_no) <| dr_c (dg_no) <| dr_c (dg_goto (by decide) dX11_readShare_75) <| dr_c (dg_no) <| dr_c (dg_no) <| dr_c (dg_iconst (by decide) dX11_readShare_78) <| dr_c (dg_istore (by decide) dX11_readShare_79) <| dr_n
theorem tr_200_5 : dm_AllR (dm_Good dm_tb RX11 cX11_readShare 7 (some .int) false none) 80 [dm_no, dm_ild 83 4, dm_no, dm_push 84 (.int 1), dm_ic_ne 87 97, dm_no, dm_no, dm_ald 88 0, dm_ild 89 1, dm_push 90 (.int 1), dm_ii 91 (fun x y => x + y), dm_inv 94 200 1 8, dm_no, dm_no, dm_goto 98, dm_no] := dr_c (dg_no) <| dr_c (dg_iload dX11_readShare_81) <| dr_c (dg_no) <| dr_c (dg_iconst (by decide) dX11_readShare_83) <| dr_c (dg_ic_ne (by decide) dX11_readShare_84) <| dr_c (dg_no) <| dr_c (dg_no) <| dr_c (dg_aload_n (k := 0) rfl dX11_readShare_87) <| dr_c (dg_iload_n (k := 1) rfl dX11_readShare_88) <| dr_c (dg_iconst (by decide) dX11_readShare_89) <| dr_c (dg_iadd dX11_readShare_90) <| dr_c (dg_inv dX11_readShare_91 mo_200 rfl rfl wd_1385 wd_1387 wd_53 pd_200) <| dr_c (dg_no) <| dr_c (dg_no) <| dr_c (dg_goto (by decide) dX11_readShare_94) <| dr_c (dg_no) <| dr_n
theorem tr_200_6 : dm_AllR (dm_Good dm_tb RX11 cX11_readShare 7 (some .int) false none) 96 [dm_no, dm_push 98 (.int 0), dm_ist 100 6, dm_no, dm_ald 101 0, dm_getf 104 8 66, dm_no, dm_no, dm_push 105 (.int (-1)), dm_ic_eq 108 110, dm_no, dm_no, dm_push 109 (.int 0), dm_ret .int, dm_ild 111 3, dm_push 112 (.int 1)] := dr_c (dg_no) <| dr_c (dg_iconst (by decide) dX11_readShare_97) <| dr_c (dg_istore (by decide) dX11_readShare_98) <| dr_c (dg_no) <| dr_c (dg_aload_n (k := 0) rfl dX11_readShare_100) <| dr_c (dg_getf (T := TX11) (C := RX11) (N := 68) dX11_readShare_101 rfl (by decide) iw_X11 wd_1014) <| dr_c (dg_no) <| dr_c (dg_no) <| dr_c (dg_iconst (by decide) dX11_readShare_104) <| dr_c (dg_ic_eq (by decide) dX11_readShare_105) <| dr_c (dg_no) <| dr_c (dg_no) <| dr_c (dg_iconst (by decide) dX11_readShare_108) <| dr_c (dg_ret dX11_readShare_109) <| dr_c (dg_iload_n (k := 3) rfl dX11_readShare_110) <| dr_c (dg_iconst (by decide) dX11_readShare_111) <| dr_n
theorem tr_200_7 : dm_AllR (dm_Good dm_tb RX11 cX11_readShare 7 (some .int) false none) 112 [dm_ic_ne 115 120, dm_no, dm_no, dm_ild 117 5, dm_no, dm_if_eq 120 143, dm_no, dm_no, dm_ild 122 4, dm_no, dm_push 123 (.int 1), dm_ic_ne 126 131, dm_no, dm_no, dm_ild 128 6, dm_no] := dr_c (dg_ic_ne (by decide) dX11_readShare_112) <| dr_c (dg_no) <| dr_c (dg_no) <| dr_c (dg_iload dX11_readShare_115) <| dr_c (dg_no) <| dr_c (dg_if_eq (by decide) dX11_readShare_117) <| dr_c (dg_no) <| dr_c (dg_no) <| dr_c (dg_iload dX11_readShare_120) <| dr_c (dg_no) <| dr_c (dg_iconst (by decide) dX11_readShare_122) <| dr_c (dg_ic_ne (by decide) dX11_readShare_123) <| dr_c (dg_no) <| dr_c (dg_no) <| dr_c (dg_iload dX11_readShare_126) <| dr_c (dg_no) <| dr_n
theorem tr_200_8 : dm_AllR (dm_Good dm_tb RX11 cX11_readShare 7 (some .int) false none) 128 [dm_if_eq 131 143, dm_no, dm_no, dm_ild 133 5, dm_no, dm_push 134 (.int 1), dm_ic_ne 137 148, dm_no, dm_no, dm_ild 139 6, dm_no, dm_push 140 (.int 1), dm_ic_ne 143 148, dm_no, dm_no, dm_ald 144 0] := dr_c (dg_if_eq (by decide) dX11_readShare_128) <| dr_c (dg_no) <| dr_c (dg_no) <| dr_c (dg_iload dX11_readShare_131) <| dr_c (dg_no) <| dr_c (dg_iconst (by decide) dX11_readShare_133) <| dr_c (dg_ic_ne (by decide) dX11_readShare_134) <| dr_c (dg_no) <| dr_c (dg_no) <| dr_c (dg_iload dX11_readShare_137) <| dr_c (dg_no) <| dr_c (dg_iconst (by decide) dX11_readShare_139) <| dr_c (dg_ic_ne (by decide) dX11_readShare_140) <| dr_c (dg_no) <| dr_c (dg_no) <| dr_c (dg_aload_n (k := 0) rfl dX11_readShare_143) <| dr_n
theorem tr_200_9 : dm_AllR (dm_Good dm_tb RX11 cX11_readShare 7 (some .int) false none) 144 [dm_ild 145 2, dm_inv 148 197 1 8, dm_no, dm_no, dm_push 149 (.int 2), dm_ret .int] := dr_c (dg_iload_n (k := 2) rfl dX11_readShare_144) <| dr_c (dg_inv dX11_readShare_145 mo_197 rfl rfl wd_1389 wd_1391 wd_54 pd_197) <| dr_c (dg_no) <| dr_c (dg_no) <| dr_c (dg_iconst (by decide) dX11_readShare_148) <| dr_c (dg_ret dX11_readShare_149) <| dr_n
theorem tk_200 : dm_AllC (dm_Good dm_tb RX11 cX11_readShare 7 (some .int) false none) 0 cd_200 := dc_c (by decide) tr_200_0 <| dc_c (by decide) tr_200_1 <| dc_c (by decide) tr_200_2 <| dc_c (by decide) tr_200_3 <| dc_c (by decide) tr_200_4 <| dc_c (by decide) tr_200_5 <| dc_c (by decide) tr_200_6 <| dc_c (by decide) tr_200_7 <| dc_c (by decide) tr_200_8 <| dc_c (by decide) tr_200_9 <| dc_n
theorem dX11_readHeight_0 : decode cX11_readHeight 0 = .ok (.aload_n 0, 1) := by decide +kernel
theorem dX11_readHeight_1 : decode cX11_readHeight 1 = .ok (.iconst 0, 1) := by decide +kernel
theorem dX11_readHeight_2 : decode cX11_readHeight 2 = .ok (.putfield 368, 3) := by decide +kernel
theorem dX11_readHeight_5 : decode cX11_readHeight 5 = .ok (.aload_n 0, 1) := by decide +kernel
theorem dX11_readHeight_6 : decode cX11_readHeight 6 = .ok (.getfield 355, 3) := by decide +kernel
theorem dX11_readHeight_9 : decode cX11_readHeight 9 = .ok (.iconst (-1), 1) := by decide +kernel
theorem dX11_readHeight_10 : decode cX11_readHeight 10 = .ok (.if_icmp .eq 5, 3) := by decide +kernel
theorem dX11_readHeight_13 : decode cX11_readHeight 13 = .ok (.iconst 0, 1) := by decide +kernel
theorem dX11_readHeight_14 : decode cX11_readHeight 14 = .ok (.ireturn, 1) := by decide +kernel
theorem dX11_readHeight_15 : decode cX11_readHeight 15 = .ok (.aload_n 0, 1) := by decide +kernel
theorem dX11_readHeight_16 : decode cX11_readHeight 16 = .ok (.getfield 336, 3) := by decide +kernel
theorem dX11_readHeight_19 : decode cX11_readHeight 19 = .ok (.istore 5, 2) := by decide +kernel
theorem dX11_readHeight_21 : decode cX11_readHeight 21 = .ok (.iload_n 1, 1) := by decide +kernel
theorem dX11_readHeight_22 : decode cX11_readHeight 22 = .ok (.bipush 60, 2) := by decide +kernel
theorem dX11_readHeight_24 : decode cX11_readHeight 24 = .ok (.if_icmp .le 11, 3) := by decide +kernel
theorem dX11_readHeight_27 : decode cX11_readHeight 27 = .ok (.aload_n 0, 1) := by decide +kernel
theorem dX11_readHeight_28 : decode cX11_readHeight 28 = .ok (.iload 5, 2) := by decide +kernel
theorem dX11_readHeight_30 : decode cX11_readHeight 30 = .ok (.invokevirtual 358, 3) := by decide +kernel
theorem dX11_readHeight_33 : decode cX11_readHeight 33 = .ok (.iconst 0, 1) := by decide +kernel
theorem dX11_readHeight_34 : decode cX11_readHeight 34 = .ok (.ireturn, 1) := by decide +kernel
theorem dX11_readHeight_35 : decode cX11_readHeight 35 = .ok (.aload_n 0, 1) := by decide +kernel
theorem dX11_readHeight_36 : decode cX11_readHeight 36 = .ok (.invokevirtual 361, 3) := by decide +kernel
theorem dX11_readHeight_39 : decode cX11_readHeight 39 = .ok (.iconst 1, 1) := by decide +kernel
theorem dX11_readHeight_40 : decode cX11_readHeight 40 = .ok (.if_icmp .ne 31, 3) := by decide +kernel
theorem dX11_readHeight_43 : decode cX11_readHeight 43 = .ok (.aload_n 0, 1) := by decide +kernel
theorem dX11_readHeight_44 : decode cX11_readHeight 44 = .ok (.invokevirtual 371, 3) := by decide +kernel
theorem dX11_readHeight_47 : decode cX11_readHeight 47 = .ok (.istore 6, 2) := by decide +kernel
theorem dX11_readHeight_49 : decode cX11_readHeight 49 = .ok (.aload_n 0, 1) := by decide +kernel
theorem dX11_readHeight_50 : decode cX11_readHeight 50 = .ok (.aload_n 0, 1) := by decide +kernel
theorem dX11_readHeight_51 : decode cX11_readHeight 51 = .ok (.lload_n 2, 1) := by decide +kernel
theorem dX11_readHeight_52 : decode cX11_readHeight 52 = .ok (.iload 4, 2) := by decide +kernel
theorem dX11_readHeight_54 : decode cX11_readHeight 54 = .ok (.iload 6, 2) := by decide +kernel
theorem dX11_readHeight_56 : decode cX11_readHeight 56 = .ok (.iadd, 1) := by decide +kernel
theorem dX11_readHeight_57 : decode cX11_readHeight 57 = .ok (.invokevirtual 374, 3) := by decide +kernel
theorem dX11_readHeight_60 : decode cX11_readHeight 60 = .ok (.putfield 180, 3) := by decide +kernel
theorem dX11_readHeight_63 : decode cX11_readHeight 63 = .ok (.aload_n 0, 1) := by decide +kernel
theorem dX11_readHeight_64 : decode cX11_readHeight 64 = .ok (.iconst 1, 1) := by decide +kernel
theorem dX11_readHeight_65 : decode cX11_readHeight 65 = .ok (.putfield 368, 3) := by decide +kernel
theorem dX11_readHeight_68 : decode cX11_readHeight 68 = .ok (.iload 6, 2) := by decide +kernel
theorem dX11_readHeight_70 : decode cX11_readHeight 70 = .ok (.ireturn, 1) := by decide +kernel
theorem dX11_readHeight_71 : decode cX11_readHeight 71 = .ok (.aload_n 0, 1) := by decide +kernel
theorem dX11_readHeight_72 : decode cX11_readHeight 72 = .ok (.invokevirtual 361, 3) := by decide +kernel
theorem dX11_readHeight_75 : decode cX11_readHeight 75 = .ok (.iconst 1, 1) := by decide +kernel
theorem dX11_readHeight_76 : decode cX11_readHeight 76 = .ok (.if_icmp .ne 7, 3) := by decide +kernel
theorem dX11_readHeight_79 : decode cX11_readHeight 79 = .ok (.iconst 1, 1) := by decide +kernel
theorem dX11_readHeight_80 : decode cX11_readHeight 80 = .ok (.goto 4, 3) := by decide +kernel
theorem dX11_readHeight_83 : decode cX11_readHeight 83 = .ok (.iconst 0, 1) := by decide +kernel
theorem dX11_readHeight_84 : decode cX11_readHeight 84 = .ok (.istore 6, 2) := by decide +kernel
theorem dX11_readHeight_86 : decode cX11_readHeight 86 = .ok (.iload 6, 2) := by decide +kernel
theorem dX11_readHeight_88 : decode cX11_readHeight 88 = .ok (.ifCond .eq 10, 3) := by decide +kernel
theorem dX11_readHeight_91 : decode cX11_readHeight 91 = .ok (.aload_n 0, 1) := by decide +kernel
theorem dX11_readHeight_92 : decode cX11_readHeight 92 = .ok (.invokevirtual 371, 3) := by decide +kernel
theorem dX11_readHeight_95 : decode cX11_readHeight 95 = .ok (.goto 4, 3) := by decide +kernel
theorem dX11_readHeight_98 : decode cX11_readHeight 98 = .ok (.iconst 0, 1) := by decide +kernel
theorem dX11_readHeight_99 : decode cX11_readHeight 99 = .ok (.istore 7, 2) := by decide +kernel
theorem dX11_readHeight_101 : decode cX11_readHeight 101 = .ok (.aload_n 0, 1) := by decide +kernel
theorem dX11_readHeight_102 : decode cX11_readHeight 102 = .ok (.invokevirtual 361, 3) := by decide +kernel
theorem dX11_readHeight_105 : decode cX11_readHeight 105 = .ok (.istore 8, 2) := by decide +kernel
theorem dX11_readHeight_107 : decode cX11_readHeight 107 = .ok (.aload_n 0, 1) := by decide +kernel
theorem dX11_readHeight_108 : decode cX11_readHeight 108 = .ok (.invokevirtual 361, 3) := by decide +kernel
theorem dX11_readHeight_111 : decode cX11_readHeight 111 = .ok (.istore 9, 2) := by decide +kernel
theorem dX11_readHeight_113 : decode cX11_readHeight 113 = .ok (.iload 8, 2) := by decide +kernel
theorem dX11_readHeight_115 : decode cX11_readHeight 115 = .ok (.iconst 1, 1) := by decide +kernel
theorem dX11_readHeight_116 : decode cX11_readHeight 116 = .ok (.if_icmp .ne 19, 3) := by decide +kernel
theorem dX11_readHeight_119 : decode cX11_readHeight 119 = .ok (.iload 9, 2) := by decide +kernel
theorem dX11_readHeight_121 : decode cX11_readHeight 121 = .ok (.iconst 1, 1) := by decide +kernel
theorem dX11_readHeight_122 : decode cX11_readHeight 122 = .ok (.if_icmp .ne 13, 3) := by decide +kernel
theorem dX11_readHeight_125 : decode cX11_readHeight 125 = .ok (.aload_n 0, 1) := by decide +kernel
theorem dX11_readHeight_126 : decode cX11_readHeight 126 = .ok (.aload_n 0, 1) := by decide +kernel
theorem dX11_readHeight_127 : decode cX11_readHeight 127 = .ok (.getfield 336, 3) := by decide +kernel
theorem dX11_readHeight_130 : decode cX11_readHeight 130 = .ok (.iconst 1, 1) := by decide +kernel
theorem dX11_readHeight_131 : decode cX11_readHeight 131 = .ok (.isub, 1) := by decide +kernel
theorem dX11_readHeight_132 : decode cX11_readHeight 132 = .ok (.invokevirtual 358, 3) := by decide +kernel
theorem dX11_readHeight_135 : decode cX11_readHeight 135 = .ok (.aload_n 0, 1) := by decide +kernel
theorem dX11_readHeight_136 : decode cX11_readHeight 136 = .ok (.getfield 355, 3) := by decide +kernel
theorem dX11_readHeight_139 : decode cX11_readHeight 139 = .ok (.iconst (-1), 1) := by decide +kernel
theorem dX11_readHeight_140 : decode cX11_readHeight 140 = .ok (.if_icmp .eq 5, 3) := by decide +kernel
theorem dX11_readHeight_143 : decode cX11_readHeight 143 = .ok (.iconst 0, 1) := by decide +kernel
theorem dX11_readHeight_144 : decode cX11_readHeight 144 = .ok (.ireturn, 1) := by decide +kernel
theorem dX11_readHeight_145 : decode cX11_readHeight 145 = .ok (.ldc2_w 186, 3) := by decide +kernel
theorem dX11_readHeight_148 : decode cX11_readHeight 148 = .ok (.iload_n 1, 1) := by decide +kernel
theorem dX11_readHeight_149 : decode cX11_readHeight 149 = .ok (.iconst 1, 1) := by decide +kernel
theorem dX11_readHeight_150 : decode cX11_readHeight 150 = .ok (.iadd, 1) := by decide +kernel
theorem dX11_readHeight_151 : decode cX11_readHeight 151 = .ok (.lshr, 1) := by decide +kernel
theorem dX11_readHeight_152 : decode cX11_readHeight 152 = .ok (.lstore 10, 2) := by decide +kernel
theorem dX11_readHeight_154 : decode cX11_readHeight 154 = .ok (.iconst 0, 1) := by decide +kernel
theorem dX11_readHeight_155 : decode cX11_readHeight 155 = .ok (.istore 12, 2) := by decide +kernel
theorem dX11_readHeight_157 : decode cX11_readHeight 157 = .ok (.iconst 1, 1) := by decide +kernel
theorem dX11_readHeight_158 : decode cX11_readHeight 158 = .ok (.istore 13, 2) := by decide +kernel
theorem dX11_readHeight_160 : decode cX11_readHeight 160 = .ok (.iload 9, 2) := by decide +kernel
theorem dX11_readHeight_162 : decode cX11_readHeight 162 = .ok (.ifCond .ne 27, 3) := by decide +kernel
theorem dX11_readHeight_165 : decode cX11_readHeight 165 = .ok (.aload_n 0, 1) := by decide +kernel
theorem dX11_readHeight_166 : decode cX11_readHeight 166 = .ok (.iload_n 1, 1) := by decide +kernel
theorem dX11_readHeight_167 : decode cX11_readHeight 167 = .ok (.iconst 1, 1) := by decide +kernel
theorem dX11_readHeight_168 : decode cX11_readHeight 168 = .ok (.iadd, 1) := by decide +kernel
theorem dX11_readHeight_169 : decode cX11_readHeight 169 = .ok (.lload_n 2, 1) := by decide +kernel
theorem dX11_readHeight_170 : decode cX11_readHeight 170 = .ok (.iload 4, 2) := by decide +kernel
theorem dX11_readHeight_172 : decode cX11_readHeight 172 = .ok (.iload 7, 2) := by decide +kernel
theorem dX11_readHeight_174 : decode cX11_readHeight 174 = .ok (.iadd, 1) := by decide +kernel
theorem dX11_readHeight_175 : decode cX11_readHeight 175 = .ok (.invokevirtual 378, 3) := by decide +kernel
theorem dX11_readHeight_178 : decode cX11_readHeight 178 = .ok (.istore 12, 2) := by decide +kernel
theorem dX11_readHeight_180 : decode cX11_readHeight 180 = .ok (.aload_n 0, 1) := by decide +kernel
theorem dX11_readHeight_181 : decode cX11_readHeight 181 = .ok (.getfield 368, 3) := by decide +kernel
theorem dX11_readHeight_184 : decode cX11_readHeight 184 = .ok (.istore 13, 2) := by decide +kernel
theorem dX11_readHeight_186 : decode cX11_readHeight 186 = .ok (.goto 17, 3) := by decide +kernel
theorem dX11_readHeight_189 : decode cX11_readHeight 189 = .ok (.aload_n 0, 1) := by decide +kernel
theorem dX11_readHeight_190 : decode cX11_readHeight 190 = .ok (.aload_n 0, 1) := by decide +kernel
theorem dX11_readHeight_191 : decode cX11_readHeight 191 = .ok (.lload_n 2, 1) := by decide +kernel
theorem dX11_readHeight_192 : decode cX11_readHeight 192 = .ok (.iload 4, 2) := by decide +kernel
theorem dX11_readHeight_194 : decode cX11_readHeight 194 = .ok (.iload 7, 2) := by decide +kernel
theorem dX11_readHeight_196 : decode cX11_readHeight 196 = .ok (.iadd, 1) := by decide +kernel
theorem dX11_readHeight_197 : decode cX11_readHeight 197 = .ok (.invokevirtual 374, 3) := by decide +kernel
theorem dX11_readHeight_200 : decode cX11_readHeight 200 = .ok (.putfield 180, 3) := by decide +kernel
theorem dX11_readHeight_203 : decode cX11_readHeight 203 = .ok (.iconst 0, 1) := by decide +kernel
theorem dX11_readHeight_204 : decode cX11_readHeight 204 = .ok (.istore 14, 2) := by decide +kernel
theorem dX11_readHeight_206 : decode cX11_readHeight 206 = .ok (.iconst 1, 1) := by decide +kernel
theorem dX11_readHeight_207 : decode cX11_readHeight 207 = .ok (.istore 15, 2) := by decide +kernel
theorem dX11_readHeight_209 : decode cX11_readHeight 209 = .ok (.iload 8, 2) := by decide +kernel
theorem dX11_readHeight_211 : decode cX11_readHeight 211 = .ok (.ifCond .ne 30, 3) := by decide +kernel
theorem dX11_readHeight_214 : decode cX11_readHeight 214 = .ok (.aload_n 0, 1) := by decide +kernel
theorem dX11_readHeight_215 : decode cX11_readHeight 215 = .ok (.iload_n 1, 1) := by decide +kernel
theorem dX11_readHeight_216 : decode cX11_readHeight 216 = .ok (.iconst 1, 1) := by decide +kernel
theorem dX11_readHeight_217 : decode cX11_readHeight 217 = .ok (.iadd, 1) := by decide +kernel
theorem dX11_readHeight_218 : decode cX11_readHeight 218 = .ok (.lload_n 2, 1) := by decide +kernel
theorem dX11_readHeight_219 : decode cX11_readHeight 219 = .ok (.lload 10, 2) := by decide +kernel
theorem dX11_readHeight_221 : decode cX11_readHeight 221 = .ok (.ladd, 1) := by decide +kernel
theorem dX11_readHeight_222 : decode cX11_readHeight 222 = .ok (.iload 4, 2) := by decide +kernel
theorem dX11_readHeight_224 : decode cX11_readHeight 224 = .ok (.iload 7, 2) := by decide +kernel
theorem dX11_readHeight_226 : decode cX11_readHeight 226 = .ok (.iadd, 1) := by decide +kernel
theorem dX11_readHeight_227 : decode cX11_readHeight 227 = .ok (.invokevirtual 378, 3) := by decide +kernel
theorem dX11_readHeight_230 : decode cX11_readHeight 230 = .ok (.istore 14, 2) := by decide +kernel
theorem dX11_readHeight_232 : decode cX11_readHeight 232 = .ok (.aload_n 0, 1) := by decide +kernel
theorem dX11_readHeight_233 : decode cX11_readHeight 233 = .ok (.getfield 368, 3) := by decide +kernel
theorem dX11_readHeight_236 : decode cX11_readHeight 236 = .ok (.istore 15, 2) := by decide +kernel
theorem dX11_readHeight_238 : decode cX11_readHeight 238 = .ok (.goto 28, 3) := by decide +kernel
theorem dX11_readHeight_241 : decode cX11_readHeight 241 = .ok (.aload_n 0, 1) := by decide +kernel
theorem dX11_readHeight_242 : decode cX11_readHeight 242 = .ok (.getfield 355, 3) := by decide +kernel
theorem dX11_readHeight_245 : decode cX11_readHeight 245 = .ok (.iconst (-1), 1) := by decide +kernel
theorem dX11_readHeight_246 : decode cX11_readHeight 246 = .ok (.if_icmp .ne 20, 3) := by decide +kernel
theorem dX11_readHeight_249 : decode cX11_readHeight 249 = .ok (.aload_n 0, 1) := by decide +kernel
theorem dX11_readHeight_250 : decode cX11_readHeight 250 = .ok (.aload_n 0, 1) := by decide +kernel
theorem dX11_readHeight_251 : decode cX11_readHeight 251 = .ok (.lload_n 2, 1) := by decide +kernel
theorem dX11_readHeight_252 : decode cX11_readHeight 252 = .ok (.lload 10, 2) := by decide +kernel
theorem dX11_readHeight_254 : decode cX11_readHeight 254 = .ok (.ladd, 1) := by decide +kernel
theorem dX11_readHeight_255 : decode cX11_readHeight 255 = .ok (.iload 4, 2) := by decide +kernel
theorem dX11_readHeight_257 : decode cX11_readHeight 257 = .ok (.iload 7, 2) := by decide +kernel
theorem dX11_readHeight_259 : decode cX11_readHeight 259 = .ok (.iadd, 1) := by decide +kernel
theorem dX11_readHeight_260 : decode cX11_readHeight 260 = .ok (.invokevirtual 374, 3) := by decide +kernel
theorem dX11_readHeight_263 : decode cX11_readHeight 263 = .ok (.putfield 180, 3) := by decide +kernel
theorem dX11_readHeight_266 : decode cX11_readHeight 266 = .ok (.aload_n 0, 1) := by decide +kernel
theorem dX11_readHeight_267 : decode cX11_readHeight 267 = .ok (.iconst 0, 1) := by decide +kernel
theorem dX11_readHeight_268 : decode cX11_readHeight 268 = .ok (.putfield 368, 3) := by decide +kernel
theorem dX11_readHeight_271 : decode cX11_readHeight 271 = .ok (.aload_n 0, 1) := by decide +kernel
theorem dX11_readHeight_272 : decode cX11_readHeight 272 = .ok (.getfield 355, 3) := by decide +kernel
theorem dX11_readHeight_275 : decode cX11_readHeight 275 = .ok (.iconst (-1), 1) := by decide +kernel
theorem dX11_readHeight_276 : decode cX11_readHeight 276 = .ok (.if_icmp .eq 5, 3) := by decide +kernel
theorem dX11_readHeight_279 : decode cX11_readHeight 279 = .ok (.iconst 0, 1) := by decide +kernel
theorem dX11_readHeight_280 : decode cX11_readHeight 280 = .ok (.ireturn, 1) := by decide +kernel
theorem dX11_readHeight_281 : decode cX11_readHeight 281 = .ok (.iload 12, 2) := by decide +kernel
theorem dX11_readHeight_283 : decode cX11_readHeight 283 = .ok (.ifCond .le 8, 3) := by decide +kernel
theorem dX11_readHeight_286 : decode cX11_readHeight 286 = .ok (.iload 14, 2) := by decide +kernel
theorem dX11_readHeight_288 : decode cX11_readHeight 288 = .ok (.ifCond .gt 30, 3) := by decide +kernel
theorem dX11_readHeight_291 : decode cX11_readHeight 291 = .ok (.iload 13, 2) := by decide +kernel
theorem dX11_readHeight_293 : decode cX11_readHeight 293 = .ok (.ifCond .eq 15, 3) := by decide +kernel
theorem dX11_readHeight_296 : decode cX11_readHeight 296 = .ok (.iload 15, 2) := by decide +kernel
theorem dX11_readHeight_298 : decode cX11_readHeight 298 = .ok (.ifCond .eq 10, 3) := by decide +kernel
theorem dX11_readHeight_301 : decode cX11_readHeight 301 = .ok (.iload 12, 2) := by decide +kernel
theorem dX11_readHeight_303 : decode cX11_readHeight 303 = .ok (.iload 14, 2) := by decide +kernel
theorem dX11_readHeight_305 : decode cX11_readHeight 305 = .ok (.if_icmp .eq 13, 3) := by decide +kernel
theorem dX11_readHeight_308 : decode cX11_readHeight 308 = .ok (.iload 6, 2) := by decide +kernel
theorem dX11_readHeight_310 : decode cX11_readHeight 310 = .ok (.ifCond .eq 12, 3) := by decide +kernel
theorem dX11_readHeight_313 : decode cX11_readHeight 313 = .ok (.iload 7, 2) := by decide +kernel
theorem dX11_readHeight_315 : decode cX11_readHeight 315 = .ok (.ifCond .ne 7, 3) := by decide +kernel
theorem dX11_readHeight_318 : decode cX11_readHeight 318 = .ok (.iconst 1, 1) := by decide +kernel
theorem dX11_readHeight_319 : decode cX11_readHeight 319 = .ok (.goto 4, 3) := by decide +kernel
theorem dX11_readHeight_322 : decode cX11_readHeight 322 = .ok (.iconst 0, 1) := by decide +kernel
theorem dX11_readHeight_323 : decode cX11_readHeight 323 = .ok (.istore 16, 2) := by decide +kernel
theorem dX11_readHeight_325 : decode cX11_readHeight 325 = .ok (.iload 16, 2) := by decide +kernel
theorem dX11_readHeight_327 : decode cX11_readHeight 327 = .ok (.ifCond .ne 33, 3) := by decide +kernel
theorem dX11_readHeight_330 : decode cX11_readHeight 330 = .ok (.iload 9, 2) := by decide +kernel
theorem dX11_readHeight_332 : decode cX11_readHeight 332 = .ok (.ifCond .ne 13, 3) := by decide +kernel
theorem dX11_readHeight_335 : decode cX11_readHeight 335 = .ok (.iload 13, 2) := by decide +kernel
theorem dX11_readHeight_337 : decode cX11_readHeight 337 = .ok (.ifCond .eq 8, 3) := by decide +kernel
theorem dX11_readHeight_340 : decode cX11_readHeight 340 = .ok (.iload 12, 2) := by decide +kernel
theorem dX11_readHeight_342 : decode cX11_readHeight 342 = .ok (.ifCond .eq 18, 3) := by decide +kernel
theorem dX11_readHeight_345 : decode cX11_readHeight 345 = .ok (.iload 8, 2) := by decide +kernel
theorem dX11_readHeight_347 : decode cX11_readHeight 347 = .ok (.ifCond .ne 17, 3) := by decide +kernel
theorem dX11_readHeight_350 : decode cX11_readHeight 350 = .ok (.iload 15, 2) := by decide +kernel
theorem dX11_readHeight_352 : decode cX11_readHeight 352 = .ok (.ifCond .eq 12, 3) := by decide +kernel
theorem dX11_readHeight_355 : decode cX11_readHeight 355 = .ok (.iload 14, 2) := by decide +kernel
theorem dX11_readHeight_357 : decode cX11_readHeight 357 = .ok (.ifCond .ne 7, 3) := by decide +kernel
theorem dX11_readHeight_360 : decode cX11_readHeight 360 = .ok (.iconst 1, 1) := by decide +kernel
theorem dX11_readHeight_361 : decode cX11_readHeight 361 = .ok (.goto 4, 3) := by decide +kernel
theorem dX11_readHeight_364 : decode cX11_readHeight 364 = .ok (.iconst 0, 1) := by decide +kernel
theorem dX11_readHeight_365 : decode cX11_readHeight 365 = .ok (.istore 16, 2) := by decide +kernel
theorem dX11_readHeight_367 : decode cX11_readHeight 367 = .ok (.iload 16, 2) := by decide +kernel
theorem dX11_readHeight_369 : decode cX11_readHeight 369 = .ok (.ifCond .eq 9, 3) := by decide +kernel
theorem dX11_readHeight_372 : decode cX11_readHeight 372 = .ok (.aload_n 0, 1) := by decide +kernel
theorem dX11_readHeight_373 : decode cX11_readHeight 373 = .ok (.iload 5, 2) := by decide +kernel
theorem dX11_readHeight_375 : decode cX11_readHeight 375 = .ok (.invokevirtual 358, 3) := by decide +kernel
theorem dX11_readHeight_378 : decode cX11_readHeight 378 = .ok (.iload 7, 2) := by decide +kernel
theorem dX11_readHeight_380 : decode cX11_readHeight 380 = .ok (.iload 12, 2) := by decide +kernel
theorem dX11_readHeight_382 : decode cX11_readHeight 382 = .ok (.iload 14, 2) := by decide +kernel
theorem dX11_readHeight_384 : decode cX11_readHeight 384 = .ok (.if_icmp .ge 8, 3) := by decide +kernel
theorem dX11_readHeight_387 : decode cX11_readHeight 387 = .ok (.iload 12, 2) := by decide +kernel
theorem dX11_readHeight_389 : decode cX11_readHeight 389 = .ok (.goto 5, 3) := by decide +kernel
theorem dX11_readHeight_392 : decode cX11_readHeight 392 = .ok (.iload 14, 2) := by decide +kernel
theorem dX11_readHeight_394 : decode cX11_readHeight 394 = .ok (.iadd, 1) := by decide +kernel
theorem dX11_readHeight_395 : decode cX11_readHeight 395 = .ok (.ireturn, 1) := by decide +kernel
def cd_201 : dm_Code := [[dm_ald 1 0, dm_push 2 (.int 0), dm_putf 5 8 67 .boolean, dm_no, dm_no, dm_ald 6 0, dm_getf 9 8 66, dm_no, dm_no, dm_push 10 (.int (-1)), dm_ic_eq 13 15, dm_no, dm_no, dm_push 14 (.int 0), dm_ret .int, dm_ald 16 0],
  [dm_getf 19 8 65, dm_no, dm_no, dm_ist 21 5, dm_no, dm_ild 22 1, dm_push 24 (.int 60), dm_no, dm_ic_le 27 35, dm_no, dm_no, dm_ald 28 0, dm_ild 30 5, dm_no, dm_inv 33 197 1 8, dm_no],
  [dm_no, dm_push 34 (.int 0), dm_ret .int, dm_ald 36 0, dm_inv 39 198 0 8, dm_no, dm_no, dm_push 40 (.int 1), dm_ic_ne 43 71, dm_no, dm_no, dm_ald 44 0, dm_inv 47 199 0 8, dm_no, dm_no, dm_ist 49 6],
  [dm_no, dm_ald 50 0, dm_ald 51 0, dm_lld 52 2, dm_ild 54 4, dm_no, dm_ild 56 6, dm_no, dm_ii 57 (fun x y => x + y), dm_inv 60 202 2 8, dm_no, dm_no, dm_putf 63 8 29 .int, dm_no, dm_no, dm_ald 64 0],
  [dm_push 65 (.int 1), dm_putf 68 8 67 .boolean, dm_no, dm_no, dm_ild 70 6, dm_no, dm_ret .int, dm_ald 72 0, dm_inv 75 198 0 8, dm_no, dm_no, dm_push 76 (.int 1), dm_ic_ne 79 83, dm_no, dm_no, dm_push 80 (.int 1)],
  [dm_goto 84, dm_no, dm_no, dm_push 84 (.int 0), dm_ist 86 6, dm_no, dm_ild 88 6, dm_no, dm_if_eq 91 98, dm_no, dm_no, dm_ald 92 0, dm_inv 95 199 0 8, dm_no, dm_no, dm_goto 99],
  [dm_no, dm_no, dm_push 99 (.int 0), dm_ist 101 7, dm_no, dm_ald 102 0, dm_inv 105 198 0 8, dm_no, dm_no, dm_ist 107 8, dm_no, dm_ald 108 0, dm_inv 111 198 0 8, dm_no, dm_no, dm_ist 113 9],
  [dm_no, dm_ild 115 8, dm_no, dm_push 116 (.int 1), dm_ic_ne 119 135, dm_no, dm_no, dm_ild 121 9, dm_no, dm_push 122 (.int 1), dm_ic_ne 125 135, dm_no, dm_no, dm_ald 126 0, dm_ald 127 0, dm_getf 130 8 65],
  [dm_no, dm_no, dm_push 131 (.int 1), dm_ii 132 (fun x y => x - y), dm_inv 135 197 1 8, dm_no, dm_no, dm_ald 136 0, dm_getf 139 8 66, dm_no, dm_no, dm_push 140 (.int (-1)), dm_ic_eq 143 145, dm_no, dm_no, dm_push 144 (.int 0)],
  [dm_ret .int, dm_push 148 (.long 1152921504606846976), dm_no, dm_no, dm_ild 149 1, dm_push 150 (.int 1), dm_ii 151 (fun x y => x + y), dm_li 152 (fun x y => x >>> (y.toInt64 &&& 63)), dm_lst 154 10, dm_no, dm_push 155 (.int 0), dm_ist 157 12, dm_no, dm_push 158 (.int 1), dm_ist 160 13, dm_no],
  [dm_ild 162 9, dm_no, dm_if_ne 165 189, dm_no, dm_no, dm_ald 166 0, dm_ild 167 1, dm_push 168 (.int 1), dm_ii 169 (fun x y => x + y), dm_lld 170 2, dm_ild 172 4, dm_no, dm_ild 174 7, dm_no, dm_ii 175 (fun x y => x + y), dm_inv 178 201 3 8],
  [dm_no, dm_no, dm_ist 180 12, dm_no, dm_ald 181 0, dm_getf 184 8 67, dm_no, dm_no, dm_ist 186 13, dm_no, dm_goto 203, dm_no, dm_no, dm_ald 190 0, dm_ald 191 0, dm_lld 192 2],
  [dm_ild 194 4, dm_no, dm_ild 196 7, dm_no, dm_ii 197 (fun x y => x + y), dm_inv 200 202 2 8, dm_no, dm_no, dm_putf 203 8 29 .int, dm_no, dm_no, dm_push 204 (.int 0), dm_ist 206 14, dm_no, dm_push 207 (.int 1), dm_ist 209 15],
  [dm_no, dm_ild 211 8, dm_no, dm_if_ne 214 241, dm_no, dm_no, dm_ald 215 0, dm_ild 216 1, dm_push 217 (.int 1), dm_ii 218 (fun x y => x + y), dm_lld 219 2, dm_lld 221 10, dm_no, dm_ll 222 (fun x y => x + y), dm_ild 224 4, dm_no],
  [dm_ild 226 7, dm_no, dm_ii 227 (fun x y => x + y), dm_inv 230 201 3 8, dm_no, dm_no, dm_ist 232 14, dm_no, dm_ald 233 0, dm_getf 236 8 67, dm_no, dm_no, dm_ist 238 15, dm_no, dm_goto 266, dm_no],
  [dm_no, dm_ald 242 0, dm_getf 245 8 66, dm_no, dm_no, dm_push 246 (.int (-1)), dm_ic_ne 249 266, dm_no, dm_no, dm_ald 250 0, dm_ald 251 0, dm_lld 252 2, dm_lld 254 10, dm_no, dm_ll 255 (fun x y => x + y), dm_ild 257 4],
  [dm_no, dm_ild 259 7, dm_no, dm_ii 260 (fun x y => x + y), dm_inv 263 202 2 8, dm_no, dm_no, dm_putf 266 8 29 .int, dm_no, dm_no, dm_ald 267 0, dm_push 268 (.int 0), dm_putf 271 8 67 .boolean, dm_no, dm_no, dm_ald 272 0],
  [dm_getf 275 8 66, dm_no, dm_no, dm_push 276 (.int (-1)), dm_ic_eq 279 281, dm_no, dm_no, dm_push 280 (.int 0), dm_ret .int, dm_ild 283 12, dm_no, dm_if_le 286 291, dm_no, dm_no, dm_ild 288 14, dm_no],
  [dm_if_gt 291 318, dm_no, dm_no, dm_ild 293 13, dm_no, dm_if_eq 296 308, dm_no, dm_no, dm_ild 298 15, dm_no, dm_if_eq 301 308, dm_no, dm_no, dm_ild 303 12, dm_no, dm_ild 305 14],
  [dm_no, dm_ic_eq 308 318, dm_no, dm_no, dm_ild 310 6, dm_no, dm_if_eq 313 322, dm_no, dm_no, dm_ild 315 7, dm_no, dm_if_ne 318 322, dm_no, dm_no, dm_push 319 (.int 1), dm_goto 323],
  [dm_no, dm_no, dm_push 323 (.int 0), dm_ist 325 16, dm_no, dm_ild 327 16, dm_no, dm_if_ne 330 360, dm_no, dm_no, dm_ild 332 9, dm_no, dm_if_ne 335 345, dm_no, dm_no, dm_ild 337 13],
  [dm_no, dm_if_eq 340 345, dm_no, dm_no, dm_ild 342 12, dm_no, dm_if_eq 345 360, dm_no, dm_no, dm_ild 347 8, dm_no, dm_if_ne 350 364, dm_no, dm_no, dm_ild 352 15, dm_no],
  [dm_if_eq 355 364, dm_no, dm_no, dm_ild 357 14, dm_no, dm_if_ne 360 364, dm_no, dm_no, dm_push 361 (.int 1), dm_goto 365, dm_no, dm_no, dm_push 365 (.int 0), dm_ist 367 16, dm_no, dm_ild 369 16],
  [dm_no, dm_if_eq 372 378, dm_no, dm_no, dm_ald 373 0, dm_ild 375 5, dm_no, dm_inv 378 197 1 8, dm_no, dm_no, dm_ild 380 7, dm_no, dm_ild 382 12, dm_no, dm_ild 384 14, dm_no],
  [dm_ic_ge 387 392, dm_no, dm_no, dm_ild 389 12, dm_no, dm_goto 394, dm_no, dm_no, dm_ild 394 14, dm_no, dm_ii 395 (fun x y => x + y), dm_ret .int]]
theorem tr_201_0 : dm_AllR (dm_Good dm_tb RX11 cX11_readHeight 17 (some .int) false none) 0 [dm_ald 1 0, dm_push 2 (.int 0), dm_putf 5 8 67 .boolean, dm_no, dm_no, dm_ald 6 0, dm_getf 9 8 66, dm_no, dm_no, dm_push 10 (.int (-1)), dm_ic_eq 13 15, dm_no, dm_no, dm_push 14 (.int 0), dm_ret .int, dm_ald 16 0] := dr_c (dg_aload_n (k := 0) rfl dX11_readHeight_0) <| dr_c (dg_iconst (by decide) dX11_readHeight_1) <| dr_c (dg_putf (T := TX11) (C := RX11) (N := 68) dX11_readHeight_2 rfl (by decide) iw_X11 tyX11_ok nmX11 wd_1015 rfl rfl) <| dr_c (dg_no) <| dr_c (dg_no) <| dr_c (dg_aload_n (k := 0) rfl dX11_readHeight_5) <| dr_c (dg_getf (T := TX11) (C := RX11) (N := 68) dX11_readHeight_6 rfl (by decide) iw_X11 wd_1014) <| dr_c (dg_no) <| dr_c (dg_no) <| dr_c (dg_iconst (by decide) dX11_readHeight_9) <| dr_c (dg_ic_eq (by decide) dX11_readHeight_10) <| dr_c (dg_no) <| dr_c (dg_no) <| dr_c (dg_iconst (by decide) dX11_readHeight_13) <| dr_c (dg_ret dX11_readHeight_14) <| dr_c (dg_aload_n (k := 0) rfl dX11_readHeight_15) <| dr_n
theorem tr_201_1 : dm_AllR (dm_Good dm_tb RX11 cX11_readHeight 17 (some .int) false none) 16 [dm_getf 19 8 65, dm_no, dm_no, dm_ist 21 5, dm_no, dm_ild 22 1, dm_push 24 (.int 60), dm_no, dm_ic_le 27 35, dm_no, dm_no, dm_ald 28 0, dm_ild 30 5, dm_no, dm_inv 33 197 1 8, dm_no] := dr_c (dg_getf (T := TX11) (C := RX11) (N := 68) dX11_readHeight_16 rfl (by decide) iw_X11 wd_1013) <| dr_c (dg_no) <| dr_c (dg_no) <| dr_c (dg_istore (by decide) dX11_readHeight_19) <| dr_c (dg_no) <| dr_c (dg_iload_n (k := 1) rfl dX11_readHeight_21) <| dr_c (dg_bipush (by decide) dX11_readHeight_22) <| dr_c (dg_no) <| dr_c (dg_ic_le (by decide) dX11_readHeight_24) <| dr_c (dg_no) <| dr_c (dg_no) <| dr_c (dg_aload_n (k := 0) rfl dX11_readHeight_27) <| dr_c (dg_iload dX11_readHeight_28) <| dr_c (dg_no) <| dr_c (dg_inv dX11_readHeight_30 mo_197 rfl rfl wd_1389 wd_1391 wd_54 pd_197) <| dr_c (dg_no) <| dr_n
theorem tr_201_2 : dm_AllR (dm_Good dm_tb RX11 cX11_readHeight 17 (some .int) false none) 32 [dm_no, dm_push 34 (.int 0), dm_ret .int, dm_ald 36 0, dm_inv 39 198 0 8, dm_no, dm_no, dm_push 40 (.int 1), dm_ic_ne 43 71, dm_no, dm_no, dm_ald 44 0, dm_inv 47 199 0 8, dm_no, dm_no, dm_ist 49 6] := dr_c (dg_no) <| dr_c (dg_iconst (by decide) dX11_readHeight_33) <| dr_c (dg_ret dX11_readHeight_34) <| dr_c (dg_aload_n (k := 0) rfl dX11_readHeight_35) <| dr_c (dg_inv dX11_readHeight_36 mo_198 rfl rfl wd_1393 wd_1395 wd_55 pd_198) <| dr_c (dg_no) <| dr_c (dg_no) <| dr_c (dg_iconst (by decide) dX11_readHeight_39) <| dr_c (dg_ic_ne (by decide) dX11_readHeight_40) <| dr_c (dg_no) <| dr_c (dg_no) <| dr_c (dg_aload_n (k := 0) rfl dX11_readHeight_43) <| dr_c (dg_inv dX11_readHeight_44 mo_199 rfl rfl wd_1401 wd_1403 wd_57 pd_199) <| dr_c (dg_no) <| dr_c (dg_no) <| dr_c (dg_istore (by decide) dX11_readHeight_47) <| dr_n
theorem tr_201_3 : dm_AllR (dm_Good dm_tb RX11 cX11_readHeight 17 (some .int) false none) 48 [dm_no, dm_ald 50 0, dm_ald 51 0, dm_lld 52 2, dm_ild 54 4, dm_no, dm_ild 56 6, dm_no, dm_ii 57 (fun x y => x + y), dm_inv 60 202 2 8, dm_no, dm_no, dm_putf 63 8 29 .int, dm_no, dm_no, dm_ald 64 0] := dr_c (dg_no) <| dr_c (dg_aload_n (k := 0) rfl dX11_readHeight_49) <| dr_c (dg_aload_n (k := 0) rfl dX11_readHeight_50) <| dr_c (dg_lload_n (k := 2) rfl dX11_readHeight_51) <| dr_c (dg_iload dX11_readHeight_52) <| dr_c (dg_no) <| dr_c (dg_iload dX11_readHeight_54) <| dr_c (dg_no) <| dr_c (dg_iadd dX11_readHeight_56) <| dr_c (dg_inv dX11_readHeight_57 mo_202 rfl rfl wd_1405 wd_1407 wd_58 pd_202) <| dr_c (dg_no) <| dr_c (dg_no) <| dr_c (dg_putf (T := TX11) (C := RX11) (N := 68) dX11_readHeight_60 rfl (by decide) iw_X11 tyX11_ok nmX11 wd_977 rfl rfl) <| dr_c (dg_no) <| dr_c (dg_no) <| dr_c (dg_aload_n (k := 0) rfl dX11_readHeight_63) <| dr_n
theorem tr_201_4 : dm_AllR (dm_Good dm_tb RX11 cX11_readHeight 17 (some .int) false none) 64 [dm_push 65 (.int 1), dm_putf 68 8 67 .boolean, dm_no, dm_no, dm_ild 70 6, dm_no, dm_ret .int, dm_ald 72 0, dm_inv 75 198 0 8, dm_no, dm_no, dm_push 76 (.int 1), dm_ic_ne 79 83, dm_no, dm_no, dm_push 80 (.int 1)] := dr_c (dg_iconst (by decide) dX11_readHeight_64) <| dr_c (dg_putf (T := TX11) (C := RX11) (N := 68) dX11_readHeight_65 rfl (by decide) iw_X11 tyX11_ok nmX11 wd_1015 rfl rfl) <| dr_c (dg_no) <| dr_c (dg_no) <| dr_c (dg_iload dX11_readHeight_68) <| dr_c (dg_no) <| dr_c (dg_ret dX11_readHeight_70) <| dr_c (dg_aload_n (k := 0) rfl dX11_readHeight_71) <| dr_c (dg_inv dX11_readHeight_72 mo_198 rfl rfl wd_1393 wd_1395 wd_55 pd_198) <| dr_c (dg_no) <| dr_c (dg_no) <| dr_c (dg_iconst (by decide) dX11_readHeight_75) <| dr_c (dg_ic_ne (by decide) dX11_readHeight_76) <| dr_c (dg_no) <| dr_c (dg_no) <| dr_c (dg_iconst (by decide) dX11_readHeight_79) <| dr_n
theorem tr_201_5 : dm_AllR (dm_Good dm_tb RX11 cX11_readHeight 17 (some .int) false none) 80 [dm_goto 84, dm_no, dm_no, dm_push 84 (.int 0), dm_ist 86 6, dm_no, dm_ild 88 6, dm_no, dm_if_eq 91 98, dm_no, dm_no, dm_ald 92 0, dm_inv 95 199 0 8, dm_no, dm_no, dm_goto 99] := dr_c (dg_goto (by decide) dX11_readHeight_80) <| dr_c (dg_no) <| dr_c (dg_no) <| dr_c (dg_iconst (by decide) dX11_readHeight_83) <| dr_c (dg_istore (by decide) dX11_readHeight_84) <| dr_c (dg_no) <| dr_c (dg_iload dX11_readHeight_86) <| dr_c (dg_no) <| dr_c (dg_if_eq (by decide) dX11_readHeight_88) <| dr_c (dg_no) <| dr_c (dg_no) <| dr_c (dg_aload_n (k := 0) rfl dX11_readHeight_91) <| dr_c (dg_inv dX11_readHeight_92 mo_199 rfl rfl wd_1401 wd_1403 wd_57 pd_199) <| dr_c (dg_no) <| dr_c (dg_no) <| dr_c (dg_goto (by decide) dX11_readHeight_95) <| dr_n
theorem tr_201_6 : dm_AllR (dm_Good dm_tb RX11 cX11_readHeight 17 (some .int) false none) 96 [dm_no, dm_no, dm_push 99 (.int 0), dm_ist 101 7, dm_no, dm_ald 102 0, dm_inv 105 198 0 8, dm_no, dm_no, dm_ist 107 8, dm_no, dm_ald 108 0, dm_inv 111 198 0 8, dm_no, dm_no, dm_ist 113 9] := dr_c (dg_no) <| dr_c (dg_no) <| dr_c (dg_iconst (by decide) dX11_readHeight_98) <| dr_c (dg_istore (by decide) dX11_readHeight_99) <| dr_c (dg_no) <| dr_c (dg_aload_n (k := 0) rfl dX11_readHeight_101) <| dr_c (dg_inv dX11_readHeight_102 mo_198 rfl rfl wd_1393 wd_1395 wd_55 pd_198) <| dr_c (dg_no) <| dr_c (dg_no) <| dr_c (dg_istore (by decide) dX11_readHeight_105) <| dr_c (dg_no) <| dr_c (dg_aload_n (k := 0) rfl dX11_readHeight_107) <| dr_c (dg_inv dX11_readHeight_108 mo_198 rfl rfl wd_1393 wd_1395 wd_55 pd_198) <| dr_c (dg_no) <| dr_c (dg_no) <| dr_c (dg_istore (by decide) dX11_readHeight_111) <| dr_n
theorem tr_201_7 : dm_AllR (dm_Good dm_tb RX11 cX11_readHeight 17 (some .int) false none) 112 [dm_no, dm_ild 115 8, dm_no, dm_push 116 (.int 1), dm_ic_ne 119 135, dm_no, dm_no, dm_ild 121 9, dm_no, dm_push 122 (.int 1), dm_ic_ne 125 135, dm_no, dm_no, dm_ald 126 0, dm_ald 127 0, dm_getf 130 8 65] := dr_c (dg_no) <| dr_c (dg_iload dX11_readHeight_113) <| dr_c (dg_no) <| dr_c (dg_iconst (by decide) dX11_readHeight_115) <| dr_c (dg_ic_ne (by decide) dX11_readHeight_116) <| dr_c (dg_no) <| dr_c (dg_no) <| dr_c (dg_iload dX11_readHeight_119) <| dr_c (dg_no) <| dr_c (dg_iconst (by decide) dX11_readHeight_121) <| dr_c (dg_ic_ne (by decide) dX11_readHeight_122) <| dr_c (dg_no) <| dr_c (dg_no) <| dr_c (dg_aload_n (k := 0) rfl dX11_readHeight_125) <| dr_c (dg_aload_n (k := 0) rfl dX11_readHeight_126) <| dr_c (dg_getf (T := TX11) (C := RX11) (N := 68) dX11_readHeight_127 rfl (by decide) iw_X11 wd_1013) <| dr_n
theorem tr_201_8 : dm_AllR (dm_Good dm_tb RX11 cX11_readHeight 17 (some .int) false none) 128 [dm_no, dm_no, dm_push 131 (.int 1), dm_ii 132 (fun x y => x - y), dm_inv 135 197 1 8, dm_no, dm_no, dm_ald 136 0, dm_getf 139 8 66, dm_no, dm_no, dm_push 140 (.int (-1)), dm_ic_eq 143 145, dm_no, dm_no, dm_push 144 (.int 0)] := dr_c (dg_no) <| dr_c (dg_no) <| dr_c (dg_iconst (by decide) dX11_readHeight_130) <| dr_c (dg_isub dX11_readHeight_131) <| dr_c (dg_inv dX11_readHeight_132 mo_197 rfl rfl wd_1389 wd_1391 wd_54 pd_197) <| dr_c (dg_no) <| dr_c (dg_no) <| dr_c (dg_aload_n (k := 0) rfl dX11_readHeight_135) <| dr_c (dg_getf (T := TX11) (C := RX11) (N := 68) dX11_readHeight_136 rfl (by decide) iw_X11 wd_1014) <| dr_c (dg_no) <| dr_c (dg_no) <| dr_c (dg_iconst (by decide) dX11_readHeight_139) <| dr_c (dg_ic_eq (by decide) dX11_readHeight_140) <| dr_c (dg_no) <| dr_c (dg_no) <| dr_c (dg_iconst (by decide) dX11_readHeight_143) <| dr_n
theorem tr_201_9 : dm_AllR (dm_Good dm_tb RX11 cX11_readHeight 17 (some .int) false none) 144 [dm_ret .int, dm_push 148 (.long 1152921504606846976), dm_no, dm_no, dm_ild 149 1, dm_push 150 (.int 1), dm_ii 151 (fun x y => x + y), dm_li 152 (fun x y => x >>> (y.toInt64 &&& 63)), dm_lst 154 10, dm_no, dm_push 155 (.int 0), dm_ist 157 12, dm_no, dm_push 158 (.int 1), dm_ist 160 13, dm_no] := dr_c (dg_ret dX11_readHeight_144) <| dr_c (dg_ldc2 wd_918 dX11_readHeight_145) <| dr_c (dg_no) <| dr_c (dg_no) <| dr_c (dg_iload_n (k := 1) rfl dX11_readHeight_148) <| dr_c (dg_iconst (by decide) dX11_readHeight_149) <| dr_c (dg_iadd dX11_readHeight_150) <| dr_c (dg_lshr dX11_readHeight_151) <| dr_c (dg_lstore (by decide) dX11_readHeight_152) <| dr_c (dg_no) <| dr_c (dg_iconst (by decide) dX11_readHeight_154) <| dr_c (dg_istore (by decide) dX11_readHeight_155) <| dr_c (dg_no) <| dr_c (dg_iconst (by decide) dX11_readHeight_157) <| dr_c (dg_istore (by decide) dX11_readHeight_158) <| dr_c (dg_no) <| dr_n
theorem tr_201_10 : dm_AllR (dm_Good dm_tb RX11 cX11_readHeight 17 (some .int) false none) 160 [dm_ild 162 9, dm_no, dm_if_ne 165 189, dm_no, dm_no, dm_ald 166 0, dm_ild 167 1, dm_push 168 (.int 1), dm_ii 169 (fun x y => x + y), dm_lld 170 2, dm_ild 172 4, dm_no, dm_ild 174 7, dm_no, dm_ii 175 (fun x y => x + y), dm_inv 178 201 3 8] := dr_c (dg_iload dX11_readHeight_160) <| dr_c (dg_no) <| dr_c (dg_if_ne (by decide) dX11_readHeight_162) <| dr_c (dg_no) <| dr_c (dg_no) <| dr_c (dg_aload_n (k := 0) rfl dX11_readHeight_165) <| dr_c (dg_iload_n (k := 1) rfl dX11_readHeight_166) <| dr_c (dg_iconst (by decide) dX11_readHeight_167) <| dr_c (dg_iadd dX11_readHeight_168) <| dr_c (dg_lload_n (k := 2) rfl dX11_readHeight_169) <| dr_c (dg_iload dX11_readHeight_170) <| dr_c (dg_no) <| dr_c (dg_iload dX11_readHeight_172) <| dr_c (dg_no) <| dr_c (dg_iadd dX11_readHeight_174) <| dr_c (dg_inv dX11_readHeight_175 mo_201 rfl rfl wd_1397 wd_1399 wd_56 pd_201) <| dr_n
theorem tr_201_11 : dm_AllR (dm_Good dm_tb RX11 cX11_readHeight 17 (some .int) false none) 176 [dm_no, dm_no, dm_ist 180 12, dm_no, dm_ald 181 0, dm_getf 184 8 67, dm_no, dm_no, dm_ist 186 13, dm_no, dm_goto 203, dm_no, dm_no, dm_ald 190 0, dm_ald 191 0, dm_lld 192 2] := dr_c (dg_no) <| dr_c (dg_no) <| dr_c (dg_istore (by decide) dX11_readHeight_178) <| dr_c (dg_no) <| dr_c (dg_aload_n (k := 0) rfl dX11_readHeight_180) <| dr_c (dg_getf (T := TX11) (C := RX11) (N := 68) dX11_readHeight_181 rfl (by decide) iw_X11 wd_1015) <| dr_c (dg_no) <| dr_c (dg_no) <| dr_c (dg_istore (by decide) dX11_readHeight_184) <| dr_c (dg_no) <| dr_c (dg_goto (by decide) dX11_readHeight_186) <| dr_c (dg_no) <| dr_c (dg_no) <| dr_c (dg_aload_n (k := 0) rfl dX11_readHeight_189) <| dr_c (dg_aload_n (k := 0) rfl dX11_readHeight_190) <| dr_c (dg_lload_n (k := 2) rfl dX11_readHeight_191) <| dr_n
theorem tr_201_12 : dm_AllR (dm_Good dm_tb RX11 cX11_readHeight 17 (some .int) false none) 192 [dm_ild 194 4, dm_no, dm_ild 196 7, dm_no, dm_ii 197 (fun x y => x + y), dm_inv 200 202 2 8, dm_no, dm_no, dm_putf 203 8 29 .int, dm_no, dm_no, dm_push 204 (.int 0), dm_ist 206 14, dm_no, dm_push 207 (.int 1), dm_ist 209 15] := dr_c (dg_iload dX11_readHeight_192) <| dr_c (dg_no) <| dr_c (dg_iload dX11_readHeight_194) <| dr_c (dg_no) <| dr_c (dg_iadd dX11_readHeight_196) <| dr_c (dg_inv dX11_readHeight_197 mo_202 rfl rfl wd_1405 wd_1407 wd_58 pd_202) <| dr_c (dg_no) <| dr_c (dg_no) <| dr_c (dg_putf (T := TX11) (C := RX11) (N := 68) dX11_readHeight_200 rfl (by decide) iw_X11 tyX11_ok nmX11 wd_977 rfl rfl) <| dr_c (dg_no) <| dr_c (dg_no) <| dr_c (dg_iconst (by decide) dX11_readHeight_203) <| dr_c (dg_istore (by decide) dX11_readHeight_204) <| dr_c (dg_no) <| dr_c (dg_iconst (by decide) dX11_readHeight_206) <| dr_c (dg_istore (by decide) dX11_readHeight_207) <| dr_n
theorem tr_201_13 : dm_AllR (dm_Good dm_tb RX11 cX11_readHeight 17 (some .int) false none) 208 [dm_no, dm_ild 211 8, dm_no, dm_if_ne 214 241, dm_no, dm_no, dm_ald 215 0, dm_ild 216 1, dm_push 217 (.int 1), dm_ii 218 (fun x y => x + y), dm_lld 219 2, dm_lld 221 10, dm_no, dm_ll 222 (fun x y => x + y), dm_ild 224 4, dm_no] := dr_c (dg_no) <| dr_c (dg_iload dX11_readHeight_209) <| dr_c (dg_no) <| dr_c (dg_if_ne (by decide) dX11_readHeight_211) <| dr_c (dg_no) <| dr_c (dg_no) <| dr_c (dg_aload_n (k := 0) rfl dX11_readHeight_214) <| dr_c (dg_iload_n (k := 1) rfl dX11_readHeight_215) <| dr_c (dg_iconst (by decide) dX11_readHeight_216) <| dr_c (dg_iadd dX11_readHeight_217) <| dr_c (dg_lload_n (k := 2) rfl dX11_readHeight_218) <| dr_c (dg_lload dX11_readHeight_219) <| dr_c (dg_no) <| dr_c (dg_ladd dX11_readHeight_221) <| dr_c (dg_iload dX11_readHeight_222) <| dr_c (dg_no) <| dr_n
theorem tr_201_14 : dm_AllR (dm_Good dm_tb RX11 cX11_readHeight 17 (some .int) false none) 224 [dm_ild 226 7, dm_no, dm_ii 227 (fun x y => x + y), dm_inv 230 201 3 8, dm_no, dm_no, dm_ist 232 14, dm_no, dm_ald 233 0, dm_getf 236 8 67, dm_no, dm_no, dm_ist 238 15, dm_no, dm_goto 266, dm_no] := dr_c (dg_iload dX11_readHeight_224) <| dr_c (dg_no) <| dr_c (dg_iadd dX11_readHeight_226) <| dr_c (dg_inv dX11_readHeight_227 mo_201 rfl rfl wd_1397 wd_1399 wd_56 pd_201) <| dr_c (dg_no) <| dr_c (dg_no) <| dr_c (dg_istore (by decide) dX11_readHeight_230) <| dr_c (dg_no) <| dr_c (dg_aload_n (k := 0) rfl dX11_readHeight_232) <| dr_c (dg_getf (T := TX11) (C := RX11) (N := 68) dX11_readHeight_233 rfl (by decide) iw_X11 wd_1015) <| dr_c (dg_no) <| dr_c (dg_no) <| dr_c (dg_istore (by decide) dX11_readHeight_236) <| dr_c (dg_no) <| dr_c (dg_goto (by decide) dX11_readHeight_238) <| dr_c (dg_no) <| dr_n
theorem tr_201_15 : dm_AllR (dm_Good dm_tb RX11 cX11_readHeight 17 (some .int) false none) 240 [dm_no, dm_ald 242 0, dm_getf 245 8 66, dm_no, dm_no, dm_push 246 (.int (-1)), dm_ic_ne 249 266, dm_no, dm_no, dm_ald 250 0, dm_ald 251 0, dm_lld 252 2, dm_lld 254 10, dm_no, dm_ll 255 (fun x y => x + y), dm_ild 257 4] := dr_c (dg_no) <| dr_c (dg_aload_n (k := 0) rfl dX11_readHeight_241) <| dr_c (dg_getf (T := TX11) (C := RX11) (N := 68) dX11_readHeight_242 rfl (by decide) iw_X11 wd_1014) <| dr_c (dg_no) <| dr_c (dg_no) <| dr_c (dg_iconst (by decide) dX11_readHeight_245) <| dr_c (dg_ic_ne (by decide) dX11_readHeight_246) <| dr_c (dg_no) <| dr_c (dg_no) <| dr_c (dg_aload_n (k := 0) rfl dX11_readHeight_249) <| dr_c (dg_aload_n (k := 0) rfl dX11_readHeight_250) <| dr_c (dg_lload_n (k := 2) rfl dX11_readHeight_251) <| dr_c (dg_lload dX11_readHeight_252) <| dr_c (dg_no) <| dr_c (dg_ladd dX11_readHeight_254) <| dr_c (dg_iload dX11_readHeight_255) <| dr_n
theorem tr_201_16 : dm_AllR (dm_Good dm_tb RX11 cX11_readHeight 17 (some .int) false none) 256 [dm_no, dm_ild 259 7, dm_no, dm_ii 260 (fun x y => x + y), dm_inv 263 202 2 8, dm_no, dm_no, dm_putf 266 8 29 .int, dm_no, dm_no, dm_ald 267 0, dm_push 268 (.int 0), dm_putf 271 8 67 .boolean, dm_no, dm_no, dm_ald 272 0] := dr_c (dg_no) <| dr_c (dg_iload dX11_readHeight_257) <| dr_c (dg_no) <| dr_c (dg_iadd dX11_readHeight_259) <| dr_c (dg_inv dX11_readHeight_260 mo_202 rfl rfl wd_1405 wd_1407 wd_58 pd_202) <| dr_c (dg_no) <| dr_c (dg_no) <| dr_c (dg_putf (T := TX11) (C := RX11) (N := 68) dX11_readHeight_263 rfl (by decide) iw_X11 tyX11_ok nmX11 wd_977 rfl rfl) <| dr_c (dg_no) <| dr_c (dg_no) <| dr_c (dg_aload_n (k := 0) rfl dX11_readHeight_266) <| dr_c (dg_iconst (by decide) dX11_readHeight_267) <| dr_c (dg_putf (T := TX11) (C := RX11) (N := 68) dX11_readHeight_268 rfl (by decide) iw_X11 tyX11_ok nmX11 wd_1015 rfl rfl) <| dr_c (dg_no) <| dr_c (dg_no) <| dr_c (dg_aload_n (k := 0) rfl dX11_readHeight_271) <| dr_n
theorem tr_201_17 : dm_AllR (dm_Good dm_tb RX11 cX11_readHeight 17 (some .int) false none) 272 [dm_getf 275 8 66, dm_no, dm_no, dm_push 276 (.int (-1)), dm_ic_eq 279 281, dm_no, dm_no, dm_push 280 (.int 0), dm_ret .int, dm_ild 283 12, dm_no, dm_if_le 286 291, dm_no, dm_no, dm_ild 288 14, dm_no] := dr_c (dg_getf (T := TX11) (C := RX11) (N := 68) dX11_readHeight_272 rfl (by decide) iw_X11 wd_1014) <| dr_c (dg_no) <| dr_c (dg_no) <| dr_c (dg_iconst (by decide) dX11_readHeight_275) <| dr_c (dg_ic_eq (by decide) dX11_readHeight_276) <| dr_c (dg_no) <| dr_c (dg_no) <| dr_c (dg_iconst (by decide) dX11_readHeight_279) <| dr_c (dg_ret dX11_readHeight_280) <| dr_c (dg_iload dX11_readHeight_281) <| dr_c (dg_no) <| dr_c (dg_if_le (by decide) dX11_readHeight_283) <| dr_c (dg_no) <| dr_c (dg_no) <| dr_c (dg_iload dX11_readHeight_286) <| dr_c (dg_no) <| dr_n
theorem tr_201_18 : dm_AllR (dm_Good dm_tb RX11 cX11_readHeight 17 (some .int) false none) 288 [dm_if_gt 291 318, dm_no, dm_no, dm_ild 293 13, dm_no, dm_if_eq 296 308, dm_no, dm_no, dm_ild 298 15, dm_no, dm_if_eq 301 308, dm_no, dm_no, dm_ild 303 12, dm_no, dm_ild 305 14] := dr_c (dg_if_gt (by decide) dX11_readHeight_288) <| dr_c (dg_no) <| dr_c (dg_no) <| dr_c (dg_iload dX11_readHeight_291) <| dr_c (dg_no) <| dr_c (dg_if_eq (by decide) dX11_readHeight_293) <| dr_c (dg_no) <| dr_c (dg_no) <| dr_c (dg_iload dX11_readHeight_296) <| dr_c (dg_no) <| dr_c (dg_if_eq (by decide) dX11_readHeight_298) <| dr_c (dg_no) <| dr_c (dg_no) <| dr_c (dg_iload dX11_readHeight_301) <| dr_c (dg_no) <| dr_c (dg_iload dX11_readHeight_303) <| dr_n
theorem tr_201_19 : dm_AllR (dm_Good dm_tb RX11 cX11_readHeight 17 (some .int) false none) 304 [dm_no, dm_ic_eq 308 318, dm_no, dm_no, dm_ild 310 6, dm_no, dm_if_eq 313 322, dm_no, dm_no, dm_ild 315 7, dm_no, dm_if_ne 318 322, dm_no, dm_no, dm_push 319 (.int 1), dm_goto 323] := dr_c (dg_no) <| dr_c (dg_ic_eq (by decide) dX11_readHeight_305) <| dr_c (dg_no) <| dr_c (dg_no) <| dr_c (dg_iload dX11_readHeight_308) <| dr_c (dg_no) <| dr_c (dg_if_eq (by decide) dX11_readHeight_310) <| dr_c (dg_no) <| dr_c (dg_no) <| dr_c (dg_iload dX11_readHeight_313) <| dr_c (dg_no) <| dr_c (dg_if_ne (by decide) dX11_readHeight_315) <| dr_c (dg_no) <| dr_c (dg_no) <| dr_c (dg_iconst (by decide) dX11_readHeight_318) <| dr_c (dg_goto (by decide) dX11_readHeight_319) <| dr_n
theorem tr_201_20 : dm_AllR (dm_Good dm_tb RX11 cX11_readHeight 17 (some .int) false none) 320 [dm_no, dm_no, dm_push 323 (.int 0), dm_ist 325 16, dm_no, dm_ild 327 16, dm_no, dm_if_ne 330 360, dm_no, dm_no, dm_ild 332 9, dm_no, dm_if_ne 335 345, dm_no, dm_no, dm_ild 337 13] := dr_c (dg_no) <| dr_c (dg_no) <| dr_c (dg_iconst (by decide) dX11_readHeight_322) <| dr_c (dg_istore (by decide) dX11_readHeight_323) <| dr_c (dg_no) <| dr_c (dg_iload dX11_readHeight_325) <| dr_c (dg_no) <| dr_c (dg_if_ne (by decide) dX11_readHeight_327) <| dr_c (dg_no) <| dr_c (dg_no) <| dr_c (dg_iload dX11_readHeight_330) <| dr_c (dg_no) <| dr_c (dg_if_ne (by decide) dX11_readHeight_332) <| dr_c (dg_no) <| dr_c (dg_no) <| dr_c (dg_iload dX11_readHeight_335) <| dr_n
theorem tr_201_21 : dm_AllR (dm_Good dm_tb RX11 cX11_readHeight 17 (some .int) false none) 336 [dm_no, dm_if_eq 340 345, dm_no, dm_no, dm_ild 342 12, dm_no, dm_if_eq 345 360, dm_no, dm_no, dm_ild 347 8, dm_no, dm_if_ne 350 364, dm_no, dm_no, dm_ild 352 15, dm_no] := dr_c (dg_no) <| dr_c (dg_if_eq (by decide) dX11_readHeight_337) <| dr_c (dg_no) <| dr_c (dg_no) <| dr_c (dg_iload dX11_readHeight_340) <| dr_c (dg_no) <| dr_c (dg_if_eq (by decide) dX11_readHeight_342) <| dr_c (dg_no) <| dr_c (dg_no) <| dr_c (dg_iload dX11_readHeight_345) <| dr_c (dg_no) <| dr_c (dg_if_ne (by decide) dX11_readHeight_347) <| dr_c (dg_no) <| dr_c (dg_no) <| dr_c (dg_iload dX11_readHeight_350) <| dr_c (dg_no) <| dr_n
theorem tr_201_22 : dm_AllR (dm_Good dm_tb RX11 cX11_readHeight 17 (some .int) false none) 352 [dm_if_eq 355 364, dm_no, dm_no, dm_ild 357 14, dm_no, dm_if_ne 360 364, dm_no, dm_no, dm_push 361 (.int 1), dm_goto 365, dm_no, dm_no, dm_push 365 (.int 0), dm_ist 367 16, dm_no, dm_ild 369 16] := dr_c (dg_if_eq (by decide) dX11_readHeight_352) <| dr_c (dg_no) <| dr_c (dg_no) <| dr_c (dg_iload dX11_readHeight_355) <| dr_c (dg_no) <| dr_c (dg_if_ne (by decide) dX11_readHeight_357) <| dr_c (dg_no) <| dr_c (dg_no) <| dr_c (dg_iconst (by decide) dX11_readHeight_360) <| dr_c (dg_goto (by decide) dX11_readHeight_361) <| dr_c (dg_no) <| dr_c (dg_no) <| dr_c (dg_iconst (by decide) dX11_readHeight_364) <| dr_c (dg_istore (by decide) dX11_readHeight_365) <| dr_c (dg_no) <| dr_c (dg_iload dX11_readHeight_367) <| dr_n
theorem tr_201_23 : dm_AllR (dm_Good dm_tb RX11 cX11_readHeight 17 (some .int) false none) 368 [dm_no, dm_if_eq 372 378, dm_no, dm_no, dm_ald 373 0, dm_ild 375 5, dm_no, dm_inv 378 197 1 8, dm_no, dm_no, dm_ild 380 7, dm_no, dm_ild 382 12, dm_no, dm_ild 384 14, dm_no] := dr_c (dg_no) <| dr_c (dg_if_eq (by decide) dX11_readHeight_369) <| dr_c (dg_no) <| dr_c (dg_no) <| dr_c (dg_aload_n (k := 0) rfl dX11_readHeight_372) <| dr_c (dg_iload dX11_readHeight_373) <| dr_c (dg_no) <| dr_c (dg_inv dX11_readHeight_375 mo_197 rfl rfl wd_1389 wd_1391 wd_54 pd_197) <| dr_c (dg_no) <| dr_c (dg_no) <| dr_c (dg_iload dX11_readHeight_378) <| dr_c (dg_no) <| dr_c (dg_iload dX11_readHeight_380) <| dr_c (dg_no) <| dr_c (dg_iload dX11_readHeight_382) <| dr_c (dg_no) <| dr_n
theorem tr_201_24 : dm_AllR (dm_Good dm_tb RX11 cX11_readHeight 17 (some .int) false none) 384 [dm_ic_ge 387 392, dm_no, dm_no, dm_ild 389 12, dm_no, dm_goto 394, dm_no, dm_no, dm_ild 394 14, dm_no, dm_ii 395 (fun x y => x + y), dm_ret .int] := dr_c (dg_ic_ge (by decide) dX11_readHeight_384) <| dr_c (dg_no) <| dr_c (dg_no) <| dr_c (dg_iload dX11_readHeight_387) <| dr_c (dg_no) <| dr_c (dg_goto (by decide) dX11_readHeight_389) <| dr_c (dg_no) <| dr_c (dg_no) <| dr_c (dg_iload dX11_readHeight_392) <| dr_c (dg_no) <| dr_c (dg_iadd dX11_readHeight_394) <| dr_c (dg_ret dX11_readHeight_395) <| dr_n
theorem tk_201 : dm_AllC (dm_Good dm_tb RX11 cX11_readHeight 17 (some .int) false none) 0 cd_201 := dc_c (by decide) tr_201_0 <| dc_c (by decide) tr_201_1 <| dc_c (by decide) tr_201_2 <| dc_c (by decide) tr_201_3 <| dc_c (by decide) tr_201_4 <| dc_c (by decide) tr_201_5 <| dc_c (by decide) tr_201_6 <| dc_c (by decide) tr_201_7 <| dc_c (by decide) tr_201_8 <| dc_c (by decide) tr_201_9 <| dc_c (by decide) tr_201_10 <| dc_c (by decide) tr_201_11 <| dc_c (by decide) tr_201_12 <| dc_c (by decide) tr_201_13 <| dc_c (by decide) tr_201_14 <| dc_c (by decide) tr_201_15 <| dc_c (by decide) tr_201_16 <| dc_c (by decide) tr_201_17 <| dc_c (by decide) tr_201_18 <| dc_c (by decide) tr_201_19 <| dc_c (by decide) tr_201_20 <| dc_c (by decide) tr_201_21 <| dc_c (by decide) tr_201_22 <| dc_c (by decide) tr_201_23 <| dc_c (by decide) tr_201_24 <| dc_n
theorem dX11_step_0 : decode cX11_step 0 = .ok (.aload_n 0, 1) := by decide +kernel
theorem dX11_step_1 : decode cX11_step 1 = .ok (.getfield 180, 3) := by decide +kernel
theorem dX11_step_4 : decode cX11_step 4 = .ok (.ifCond .le 23, 3) := by decide +kernel
theorem dX11_step_7 : decode cX11_step 7 = .ok (.aload_n 0, 1) := by decide +kernel
theorem dX11_step_8 : decode cX11_step 8 = .ok (.getfield 86, 3) := by decide +kernel
theorem dX11_step_11 : decode cX11_step 11 = .ok (.aload_n 0, 1) := by decide +kernel
theorem dX11_step_12 : decode cX11_step 12 = .ok (.getfield 180, 3) := by decide +kernel
theorem dX11_step_15 : decode cX11_step 15 = .ok (.iconst 1, 1) := by decide +kernel
theorem dX11_step_16 : decode cX11_step 16 = .ok (.isub, 1) := by decide +kernel
theorem dX11_step_17 : decode cX11_step 17 = .ok (.iaload, 1) := by decide +kernel
theorem dX11_step_18 : decode cX11_step 18 = .ok (.iload_n 3, 1) := by decide +kernel
theorem dX11_step_19 : decode cX11_step 19 = .ok (.if_icmp .ne 8, 3) := by decide +kernel
theorem dX11_step_22 : decode cX11_step 22 = .ok (.aload_n 0, 1) := by decide +kernel
theorem dX11_step_23 : decode cX11_step 23 = .ok (.getfield 180, 3) := by decide +kernel
theorem dX11_step_26 : decode cX11_step 26 = .ok (.ireturn, 1) := by decide +kernel
theorem dX11_step_27 : decode cX11_step 27 = .ok (.aload_n 0, 1) := by decide +kernel
theorem dX11_step_28 : decode cX11_step 28 = .ok (.getfield 83, 3) := by decide +kernel
theorem dX11_step_31 : decode cX11_step 31 = .ok (.aload_n 0, 1) := by decide +kernel
theorem dX11_step_32 : decode cX11_step 32 = .ok (.getfield 180, 3) := by decide +kernel
theorem dX11_step_35 : decode cX11_step 35 = .ok (.lload_n 1, 1) := by decide +kernel
theorem dX11_step_36 : decode cX11_step 36 = .ok (.lastore, 1) := by decide +kernel
theorem dX11_step_37 : decode cX11_step 37 = .ok (.aload_n 0, 1) := by decide +kernel
theorem dX11_step_38 : decode cX11_step 38 = .ok (.getfield 86, 3) := by decide +kernel
theorem dX11_step_41 : decode cX11_step 41 = .ok (.aload_n 0, 1) := by decide +kernel
theorem dX11_step_42 : decode cX11_step 42 = .ok (.getfield 180, 3) := by decide +kernel
theorem dX11_step_45 : decode cX11_step 45 = .ok (.iload_n 3, 1) := by decide +kernel
theorem dX11_step_46 : decode cX11_step 46 = .ok (.iastore, 1) := by decide +kernel
theorem dX11_step_47 : decode cX11_step 47 = .ok (.aload_n 0, 1) := by decide +kernel
theorem dX11_step_48 : decode cX11_step 48 = .ok (.getfield 180, 3) := by decide +kernel
theorem dX11_step_51 : decode cX11_step 51 = .ok (.iconst 1, 1) := by decide +kernel
theorem dX11_step_52 : decode cX11_step 52 = .ok (.iadd, 1) := by decide +kernel
theorem dX11_step_53 : decode cX11_step 53 = .ok (.ireturn, 1) := by decide +kernel
def cd_202 : dm_Code := [[dm_ald 1 0, dm_getf 4 8 29, dm_no, dm_no, dm_if_le 7 27, dm_no, dm_no, dm_ald 8 0, dm_getf 11 8 28, dm_no, dm_no, dm_ald 12 0, dm_getf 15 8 29, dm_no, dm_no, dm_push 16 (.int 1)],
  [dm_ii 17 (fun x y => x - y), dm_iald 18, dm_ild 19 3, dm_ic_ne 22 27, dm_no, dm_no, dm_ald 23 0, dm_getf 26 8 29, dm_no, dm_no, dm_ret .int, dm_ald 28 0, dm_getf 31 8 27, dm_no, dm_no, dm_ald 32 0],
  [dm_getf 35 8 29, dm_no, dm_no, dm_lld 36 1, dm_last 37, dm_ald 38 0, dm_getf 41 8 28, dm_no, dm_no, dm_ald 42 0, dm_getf 45 8 29, dm_no, dm_no, dm_ild 46 3, dm_iast 47, dm_ald 48 0],
  [dm_getf 51 8 29, dm_no, dm_no, dm_push 52 (.int 1), dm_ii 53 (fun x y => x + y), dm_ret .int]]
theorem tr_202_0 : dm_AllR (dm_Good dm_tb RX11 cX11_step 4 (some .int) false none) 0 [dm_ald 1 0, dm_getf 4 8 29, dm_no, dm_no, dm_if_le 7 27, dm_no, dm_no, dm_ald 8 0, dm_getf 11 8 28, dm_no, dm_no, dm_ald 12 0, dm_getf 15 8 29, dm_no, dm_no, dm_push 16 (.int 1)] := dr_c (dg_aload_n (k := 0) rfl dX11_step_0) <| dr_c (dg_getf (T := TX11) (C := RX11) (N := 68) dX11_step_1 rfl (by decide) iw_X11 wd_977) <| dr_c (dg_no) <| dr_c (dg_no) <| dr_c (dg_if_le (by decide) dX11_step_4) <| dr_c (dg_no) <| dr_c (dg_no) <| dr_c (dg_aload_n (k := 0) rfl dX11_step_7) <| dr_c (dg_getf (T := TX11) (C := RX11) (N := 68) dX11_step_8 rfl (by decide) iw_X11 wd_976) <| dr_c (dg_no) <| dr_c (dg_no) <| dr_c (dg_aload_n (k := 0) rfl dX11_step_11) <| dr_c (dg_getf (T := TX11) (C := RX11) (N := 68) dX11_step_12 rfl (by decide) iw_X11 wd_977) <| dr_c (dg_no) <| dr_c (dg_no) <| dr_c (dg_iconst (by decide) dX11_step_15) <| dr_n
theorem tr_202_1 : dm_AllR (dm_Good dm_tb RX11 cX11_step 4 (some .int) false none) 16 [dm_ii 17 (fun x y => x - y), dm_iald 18, dm_ild 19 3, dm_ic_ne 22 27, dm_no, dm_no, dm_ald 23 0, dm_getf 26 8 29, dm_no, dm_no, dm_ret .int, dm_ald 28 0, dm_getf 31 8 27, dm_no, dm_no, dm_ald 32 0] := dr_c (dg_isub dX11_step_16) <| dr_c (dg_iald dX11_step_17) <| dr_c (dg_iload_n (k := 3) rfl dX11_step_18) <| dr_c (dg_ic_ne (by decide) dX11_step_19) <| dr_c (dg_no) <| dr_c (dg_no) <| dr_c (dg_aload_n (k := 0) rfl dX11_step_22) <| dr_c (dg_getf (T := TX11) (C := RX11) (N := 68) dX11_step_23 rfl (by decide) iw_X11 wd_977) <| dr_c (dg_no) <| dr_c (dg_no) <| dr_c (dg_ret dX11_step_26) <| dr_c (dg_aload_n (k := 0) rfl dX11_step_27) <| dr_c (dg_getf (T := TX11) (C := RX11) (N := 68) dX11_step_28 rfl (by decide) iw_X11 wd_975) <| dr_c (dg_no) <| dr_c (dg_no) <| dr_c (dg_aload_n (k := 0) rfl dX11_step_31) <| dr_n
theorem tr_202_2 : dm_AllR (dm_Good dm_tb RX11 cX11_step 4 (some .int) false none) 32 [dm_getf 35 8 29, dm_no, dm_no, dm_lld 36 1, dm_last 37, dm_ald 38 0, dm_getf 41 8 28, dm_no, dm_no, dm_ald 42 0, dm_getf 45 8 29, dm_no, dm_no, dm_ild 46 3, dm_iast 47, dm_ald 48 0] := dr_c (dg_getf (T := TX11) (C := RX11) (N := 68) dX11_step_32 rfl (by decide) iw_X11 wd_977) <| dr_c (dg_no) <| dr_c (dg_no) <| dr_c (dg_lload_n (k := 1) rfl dX11_step_35) <| dr_c (dg_last dX11_step_36) <| dr_c (dg_aload_n (k := 0) rfl dX11_step_37) <| dr_c (dg_getf (T := TX11) (C := RX11) (N := 68) dX11_step_38 rfl (by decide) iw_X11 wd_976) <| dr_c (dg_no) <| dr_c (dg_no) <| dr_c (dg_aload_n (k := 0) rfl dX11_step_41) <| dr_c (dg_getf (T := TX11) (C := RX11) (N := 68) dX11_step_42 rfl (by decide) iw_X11 wd_977) <| dr_c (dg_no) <| dr_c (dg_no) <| dr_c (dg_iload_n (k := 3) rfl dX11_step_45) <| dr_c (dg_iast dX11_step_46) <| dr_c (dg_aload_n (k := 0) rfl dX11_step_47) <| dr_n
theorem tr_202_3 : dm_AllR (dm_Good dm_tb RX11 cX11_step 4 (some .int) false none) 48 [dm_getf 51 8 29, dm_no, dm_no, dm_push 52 (.int 1), dm_ii 53 (fun x y => x + y), dm_ret .int] := dr_c (dg_getf (T := TX11) (C := RX11) (N := 68) dX11_step_48 rfl (by decide) iw_X11 wd_977) <| dr_c (dg_no) <| dr_c (dg_no) <| dr_c (dg_iconst (by decide) dX11_step_51) <| dr_c (dg_iadd dX11_step_52) <| dr_c (dg_ret dX11_step_53) <| dr_n
theorem tk_202 : dm_AllC (dm_Good dm_tb RX11 cX11_step 4 (some .int) false none) 0 cd_202 := dc_c (by decide) tr_202_0 <| dc_c (by decide) tr_202_1 <| dc_c (by decide) tr_202_2 <| dc_c (by decide) tr_202_3 <| dc_n
theorem dX11_read_0 : decode cX11_read 0 = .ok (.aload_n 0, 1) := by decide +kernel
theorem dX11_read_1 : decode cX11_read 1 = .ok (.iconst 0, 1) := by decide +kernel
theorem dX11_read_2 : decode cX11_read 2 = .ok (.putfield 165, 3) := by decide +kernel
theorem dX11_read_5 : decode cX11_read 5 = .ok (.aload_n 0, 1) := by decide +kernel
theorem dX11_read_6 : decode cX11_read 6 = .ok (.iconst (-1), 1) := by decide +kernel
theorem dX11_read_7 : decode cX11_read 7 = .ok (.putfield 355, 3) := by decide +kernel
theorem dX11_read_10 : decode cX11_read 10 = .ok (.aload_n 0, 1) := by decide +kernel
theorem dX11_read_11 : decode cX11_read 11 = .ok (.iconst 0, 1) := by decide +kernel
theorem dX11_read_12 : decode cX11_read 12 = .ok (.putfield 336, 3) := by decide +kernel
theorem dX11_read_15 : decode cX11_read 15 = .ok (.aload_n 0, 1) := by decide +kernel
theorem dX11_read_16 : decode cX11_read 16 = .ok (.iconst 0, 1) := by decide +kernel
theorem dX11_read_17 : decode cX11_read 17 = .ok (.putfield 180, 3) := by decide +kernel
theorem dX11_read_20 : decode cX11_read 20 = .ok (.aload_n 0, 1) := by decide +kernel
theorem dX11_read_21 : decode cX11_read 21 = .ok (.iconst 0, 1) := by decide +kernel
theorem dX11_read_22 : decode cX11_read 22 = .ok (.invokevirtual 365, 3) := by decide +kernel
theorem dX11_read_25 : decode cX11_read 25 = .ok (.pop, 1) := by decide +kernel
theorem dX11_read_26 : decode cX11_read 26 = .ok (.aload_n 0, 1) := by decide +kernel
theorem dX11_read_27 : decode cX11_read 27 = .ok (.iconst 0, 1) := by decide +kernel
theorem dX11_read_28 : decode cX11_read 28 = .ok (.lconst 0, 1) := by decide +kernel
theorem dX11_read_29 : decode cX11_read 29 = .ok (.iconst 0, 1) := by decide +kernel
theorem dX11_read_30 : decode cX11_read 30 = .ok (.invokevirtual 378, 3) := by decide +kernel
theorem dX11_read_33 : decode cX11_read 33 = .ok (.pop, 1) := by decide +kernel
theorem dX11_read_34 : decode cX11_read 34 = .ok (.aload_n 0, 1) := by decide +kernel
theorem dX11_read_35 : decode cX11_read 35 = .ok (.getfield 355, 3) := by decide +kernel
theorem dX11_read_38 : decode cX11_read 38 = .ok (.iconst (-1), 1) := by decide +kernel
theorem dX11_read_39 : decode cX11_read 39 = .ok (.if_icmp .ne 22, 3) := by decide +kernel
theorem dX11_read_42 : decode cX11_read 42 = .ok (.aload_n 0, 1) := by decide +kernel
theorem dX11_read_43 : decode cX11_read 43 = .ok (.getfield 336, 3) := by decide +kernel
theorem dX11_read_46 : decode cX11_read 46 = .ok (.aload_n 0, 1) := by decide +kernel
theorem dX11_read_47 : decode cX11_read 47 = .ok (.getfield 352, 3) := by decide +kernel
theorem dX11_read_50 : decode cX11_read 50 = .ok (.if_icmp .ge 11, 3) := by decide +kernel
theorem dX11_read_53 : decode cX11_read 53 = .ok (.aload_n 0, 1) := by decide +kernel
theorem dX11_read_54 : decode cX11_read 54 = .ok (.aload_n 0, 1) := by decide +kernel
theorem dX11_read_55 : decode cX11_read 55 = .ok (.getfield 336, 3) := by decide +kernel
theorem dX11_read_58 : decode cX11_read 58 = .ok (.invokevirtual 358, 3) := by decide +kernel
theorem dX11_read_61 : decode cX11_read 61 = .ok (.aload_n 0, 1) := by decide +kernel
theorem dX11_read_62 : decode cX11_read 62 = .ok (.aload_n 0, 1) := by decide +kernel
theorem dX11_read_63 : decode cX11_read 63 = .ok (.getfield 355, 3) := by decide +kernel
theorem dX11_read_66 : decode cX11_read 66 = .ok (.putfield 104, 3) := by decide +kernel
theorem dX11_read_69 : decode cX11_read 69 = .ok (.aload_n 0, 1) := by decide +kernel
theorem dX11_read_70 : decode cX11_read 70 = .ok (.getfield 355, 3) := by decide +kernel
theorem dX11_read_73 : decode cX11_read 73 = .ok (.iconst (-1), 1) := by decide +kernel
theorem dX11_read_74 : decode cX11_read 74 = .ok (.if_icmp .ne 21, 3) := by decide +kernel
theorem dX11_read_77 : decode cX11_read 77 = .ok (.aload_n 0, 1) := by decide +kernel
theorem dX11_read_78 : decode cX11_read 78 = .ok (.iconst 1, 1) := by decide +kernel
theorem dX11_read_79 : decode cX11_read 79 = .ok (.iconst 1, 1) := by decide +kernel
theorem dX11_read_80 : decode cX11_read 80 = .ok (.aload_n 0, 1) := by decide +kernel
theorem dX11_read_81 : decode cX11_read 81 = .ok (.lconst 0, 1) := by decide +kernel
theorem dX11_read_82 : decode cX11_read 82 = .ok (.ldc2_w 186, 3) := by decide +kernel
theorem dX11_read_85 : decode cX11_read 85 = .ok (.invokevirtual 200, 3) := by decide +kernel
theorem dX11_read_88 : decode cX11_read 88 = .ok (.iadd, 1) := by decide +kernel
theorem dX11_read_89 : decode cX11_read 89 = .ok (.invokevirtual 242, 3) := by decide +kernel
theorem dX11_read_92 : decode cX11_read 92 = .ok (.ifCond .ne 5, 3) := by decide +kernel
theorem dX11_read_95 : decode cX11_read 95 = .ok (.iconst (-1), 1) := by decide +kernel
theorem dX11_read_96 : decode cX11_read 96 = .ok (.ireturn, 1) := by decide +kernel
theorem dX11_read_97 : decode cX11_read 97 = .ok (.aload_n 0, 1) := by decide +kernel
theorem dX11_read_98 : decode cX11_read 98 = .ok (.iconst (-1), 1) := by decide +kernel
theorem dX11_read_99 : decode cX11_read 99 = .ok (.iconst (-1), 1) := by decide +kernel
theorem dX11_read_100 : decode cX11_read 100 = .ok (.invokevirtual 246, 3) := by decide +kernel
theorem dX11_read_103 : decode cX11_read 103 = .ok (.aload_n 0, 1) := by decide +kernel
theorem dX11_read_104 : decode cX11_read 104 = .ok (.iconst 0, 1) := by decide +kernel
theorem dX11_read_105 : decode cX11_read 105 = .ok (.putfield 183, 3) := by decide +kernel
theorem dX11_read_108 : decode cX11_read 108 = .ok (.aload_n 0, 1) := by decide +kernel
theorem dX11_read_109 : decode cX11_read 109 = .ok (.bipush 6, 2) := by decide +kernel
theorem dX11_read_111 : decode cX11_read 111 = .ok (.iconst (-1), 1) := by decide +kernel
theorem dX11_read_112 : decode cX11_read 112 = .ok (.iconst (-1), 1) := by decide +kernel
theorem dX11_read_113 : decode cX11_read 113 = .ok (.invokevirtual 188, 3) := by decide +kernel
theorem dX11_read_116 : decode cX11_read 116 = .ok (.ireturn, 1) := by decide +kernel
def cd_203 : dm_Code := [[dm_ald 1 0, dm_push 2 (.int 0), dm_putf 5 8 40 .int, dm_no, dm_no, dm_ald 6 0, dm_push 7 (.int (-1)), dm_putf 10 8 66 .int, dm_no, dm_no, dm_ald 11 0, dm_push 12 (.int 0), dm_putf 15 8 65 .int, dm_no, dm_no, dm_ald 16 0],
  [dm_push 17 (.int 0), dm_putf 20 8 29 .int, dm_no, dm_no, dm_ald 21 0, dm_push 22 (.int 0), dm_inv 25 200 1 8, dm_no, dm_no, dm_pop 26, dm_ald 27 0, dm_push 28 (.int 0), dm_push 29 (.long 0), dm_push 30 (.int 0), dm_inv 33 201 3 8, dm_no],
  [dm_no, dm_pop 34, dm_ald 35 0, dm_getf 38 8 66, dm_no, dm_no, dm_push 39 (.int (-1)), dm_ic_ne 42 61, dm_no, dm_no, dm_ald 43 0, dm_getf 46 8 65, dm_no, dm_no, dm_ald 47 0, dm_getf 50 8 36],
  [dm_no, dm_no, dm_ic_ge 53 61, dm_no, dm_no, dm_ald 54 0, dm_ald 55 0, dm_getf 58 8 65, dm_no, dm_no, dm_inv 61 197 1 8, dm_no, dm_no, dm_ald 62 0, dm_ald 63 0, dm_getf 66 8 66],
  [dm_no, dm_no, dm_putf 69 8 37 .int, dm_no, dm_no, dm_ald 70 0, dm_getf 73 8 66, dm_no, dm_no, dm_push 74 (.int (-1)), dm_ic_ne 77 95, dm_no, dm_no, dm_ald 78 0, dm_push 79 (.int 1), dm_push 80 (.int 1)],
  [dm_ald 81 0, dm_push 82 (.long 0), dm_push 85 (.long 1152921504606846976), dm_no, dm_no, dm_inv 88 151 2 8, dm_no, dm_no, dm_ii 89 (fun x y => x + y), dm_inv 92 139 2 8, dm_no, dm_no, dm_if_ne 95 97, dm_no, dm_no, dm_push 96 (.int (-1))],
  [dm_ret .int, dm_ald 98 0, dm_push 99 (.int (-1)), dm_push 100 (.int (-1)), dm_inv 103 155 2 8, dm_no, dm_no, dm_ald 104 0, dm_push 105 (.int 0), dm_putf 108 8 34 .int, dm_no, dm_no, dm_ald 109 0, dm_push 111 (.int 6), dm_no, dm_push 112 (.int (-1))],
  [dm_push 113 (.int (-1)), dm_inv 116 140 3 8, dm_no, dm_no, dm_ret .int]]
theorem tr_203_0 : dm_AllR (dm_Good dm_tb RX11 cX11_read 1 (some .int) false none) 0 [dm_ald 1 0, dm_push 2 (.int 0), dm_putf 5 8 40 .int, dm_no, dm_no, dm_ald 6 0, dm_push 7 (.int (-1)), dm_putf 10 8 66 .int, dm_no, dm_no, dm_ald 11 0, dm_push 12 (.int 0), dm_putf 15 8 65 .int, dm_no, dm_no, dm_ald 16 0] := dr_c (dg_aload_n (k := 0) rfl dX11_read_0) <| dr_c (dg_iconst (by decide) dX11_read_1) <| dr_c (dg_putf (T := TX11) (C := RX11) (N := 68) dX11_read_2 rfl (by decide) iw_X11 tyX11_ok nmX11 wd_988 rfl rfl) <| dr_c (dg_no) <| dr_c (dg_no) <| dr_c (dg_aload_n (k := 0) rfl dX11_read_5) <| dr_c (dg_iconst (by decide) dX11_read_6) <| dr_c (dg_putf (T := TX11) (C := RX11) (N := 68) dX11_read_7 rfl (by decide) iw_X11 tyX11_ok nmX11 wd_1014 rfl rfl) <| dr_c (dg_no) <| dr_c (dg_no) <| dr_c (dg_aload_n (k := 0) rfl dX11_read_10) <| dr_c (dg_iconst (by decide) dX11_read_11) <| dr_c (dg_putf (T := TX11) (C := RX11) (N := 68) dX11_read_12 rfl (by decide) iw_X11 tyX11_ok nmX11 wd_1013 rfl rfl) <| dr_c (dg_no) <| dr_c (dg_no) <| dr_c (dg_aload_n (k := 0) rfl dX11_read_15) <| dr_n
theorem tr_203_1 : dm_AllR (dm_Good dm_tb RX11 cX11_read 1 (some .int) false none) 16 [dm_push 17 (.int 0), dm_putf 20 8 29 .int, dm_no, dm_no, dm_ald 21 0, dm_push 22 (.int 0), dm_inv 25 200 1 8, dm_no, dm_no, dm_pop 26, dm_ald 27 0, dm_push 28 (.int 0), dm_push 29 (.long 0), dm_push 30 (.int 0), dm_inv 33 201 3 8, dm_no] := dr_c (dg_iconst (by decide) dX11_read_16) <| dr_c (dg_putf (T := TX11) (C := RX11) (N := 68) dX11_read_17 rfl (by decide) iw_X11 tyX11_ok nmX11 wd_977 rfl rfl) <| dr_c (dg_no) <| dr_c (dg_no) <| dr_c (dg_aload_n (k := 0) rfl dX11_read_20) <| dr_c (dg_iconst (by decide) dX11_read_21) <| dr_c (dg_inv dX11_read_22 mo_200 rfl rfl wd_1385 wd_1387 wd_53 pd_200) <| dr_c (dg_no) <| dr_c (dg_no) <| dr_c (dg_pop dX11_read_25) <| dr_c (dg_aload_n (k := 0) rfl dX11_read_26) <| dr_c (dg_iconst (by decide) dX11_read_27) <| dr_c (dg_lconst (by decide) dX11_read_28) <| dr_c (dg_iconst (by decide) dX11_read_29) <| dr_c (dg_inv dX11_read_30 mo_201 rfl rfl wd_1397 wd_1399 wd_56 pd_201) <| dr_c (dg_no) <| dr_n
theorem tr_203_2 : dm_AllR (dm_Good dm_tb RX11 cX11_read 1 (some .int) false none) 32 [dm_no, dm_pop 34, dm_ald 35 0, dm_getf 38 8 66, dm_no, dm_no, dm_push 39 (.int (-1)), dm_ic_ne 42 61, dm_no, dm_no, dm_ald 43 0, dm_getf 46 8 65, dm_no, dm_no, dm_ald 47 0, dm_getf 50 8 36] := dr_c (dg_no) <| dr_c (dg_pop dX11_read_33) <| dr_c (dg_aload_n (k := 0) rfl dX11_read_34) <| dr_c (dg_getf (T := TX11) (C := RX11) (N := 68) dX11_read_35 rfl (by decide) iw_X11 wd_1014) <| dr_c (dg_no) <| dr_c (dg_no) <| dr_c (dg_iconst (by decide) dX11_read_38) <| dr_c (dg_ic_ne (by decide) dX11_read_39) <| dr_c (dg_no) <| dr_c (dg_no) <| dr_c (dg_aload_n (k := 0) rfl dX11_read_42) <| dr_c (dg_getf (T := TX11) (C := RX11) (N := 68) dX11_read_43 rfl (by decide) iw_X11 wd_1013) <| dr_c (dg_no) <| dr_c (dg_no) <| dr_c (dg_aload_n (k := 0) rfl dX11_read_46) <| dr_c (dg_getf (T := TX11) (C := RX11) (N := 68) dX11_read_47 rfl (by decide) iw_X11 wd_984) <| dr_n
theorem tr_203_3 : dm_AllR (dm_Good dm_tb RX11 cX11_read 1 (some .int) false none) 48 [dm_no, dm_no, dm_ic_ge 53 61, dm_no, dm_no, dm_ald 54 0, dm_ald 55 0, dm_getf 58 8 65, dm_no, dm_no, dm_inv 61 197 1 8, dm_no, dm_no, dm_ald 62 0, dm_ald 63 0, dm_getf 66 8 66] := dr_c (dg_no) <| dr_c (dg_no) <| dr_c (dg_ic_ge (by decide) dX11_read_50) <| dr_c (dg_no) <| dr_c (dg_no) <| dr_c (dg_aload_n (k := 0) rfl dX11_read_53) <| dr_c (dg_aload_n (k := 0) rfl dX11_read_54) <| dr_c (dg_getf (T := TX11) (C := RX11) (N := 68) dX11_read_55 rfl (by decide) iw_X11 wd_1013) <| dr_c (dg_no) <| dr_c (dg_no) <| dr_c (dg_inv dX11_read_58 mo_197 rfl rfl wd_1389 wd_1391 wd_54 pd_197) <| dr_c (dg_no) <| dr_c (dg_no) <| dr_c (dg_aload_n (k := 0) rfl dX11_read_61) <| dr_c (dg_aload_n (k := 0) rfl dX11_read_62) <| dr_c (dg_getf (T := TX11) (C := RX11) (N := 68) dX11_read_63 rfl (by decide) iw_X11 wd_1014) <| dr_n
theorem tr_203_4 : dm_AllR (dm_Good dm_tb RX11 cX11_read 1 (some .int) false none) 64 [dm_no, dm_no, dm_putf 69 8 37 .int, dm_no, dm_no, dm_ald 70 0, dm_getf 73 8 66, dm_no, dm_no, dm_push 74 (.int (-1)), dm_ic_ne 77 95, dm_no, dm_no, dm_ald 78 0, dm_push 79 (.int 1), dm_push 80 (.int 1)] := dr_c (dg_no) <| dr_c (dg_no) <| dr_c (dg_putf (T := TX11) (C := RX11) (N := 68) dX11_read_66 rfl (by decide) iw_X11 tyX11_ok nmX11 wd_985 rfl rfl) <| dr_c (dg_no) <| dr_c (dg_no) <| dr_c (dg_aload_n (k := 0) rfl dX11_read_69) <| dr_c (dg_getf (T := TX11) (C := RX11) (N := 68) dX11_read_70 rfl (by decide) iw_X11 wd_1014) <| dr_c (dg_no) <| dr_c (dg_no) <| dr_c (dg_iconst (by decide) dX11_read_73) <| dr_c (dg_ic_ne (by decide) dX11_read_74) <| dr_c (dg_no) <| dr_c (dg_no) <| dr_c (dg_aload_n (k := 0) rfl dX11_read_77) <| dr_c (dg_iconst (by decide) dX11_read_78) <| dr_c (dg_iconst (by decide) dX11_read_79) <| dr_n
theorem tr_203_5 : dm_AllR (dm_Good dm_tb RX11 cX11_read 1 (some .int) false none) 80 [dm_ald 81 0, dm_push 82 (.long 0), dm_push 85 (.long 1152921504606846976), dm_no, dm_no, dm_inv 88 151 2 8, dm_no, dm_no, dm_ii 89 (fun x y => x + y), dm_inv 92 139 2 8, dm_no, dm_no, dm_if_ne 95 97, dm_no, dm_no, dm_push 96 (.int (-1))] := dr_c (dg_aload_n (k := 0) rfl dX11_read_80) <| dr_c (dg_lconst (by decide) dX11_read_81) <| dr_c (dg_ldc2 wd_918 dX11_read_82) <| dr_c (dg_no) <| dr_c (dg_no) <| dr_c (dg_inv dX11_read_85 mo_151 rfl rfl wd_932 wd_934 wd_19 pd_151) <| dr_c (dg_no) <| dr_c (dg_no) <| dr_c (dg_iadd dX11_read_88) <| dr_c (dg_inv dX11_read_89 mo_139 rfl rfl wd_1181 wd_1183 wd_28 pd_139) <| dr_c (dg_no) <| dr_c (dg_no) <| dr_c (dg_if_ne (by decide) dX11_read_92) <| dr_c (dg_no) <| dr_c (dg_no) <| dr_c (dg_iconst (by decide) dX11_read_95) <| dr_n
theorem tr_203_6 : dm_AllR (dm_Good dm_tb RX11 cX11_read 1 (some .int) false none) 96 [dm_ret .int, dm_ald 98 0, dm_push 99 (.int (-1)), dm_push 100 (.int (-1)), dm_inv 103 155 2 8, dm_no, dm_no, dm_ald 104 0, dm_push 105 (.int 0), dm_putf 108 8 34 .int, dm_no, dm_no, dm_ald 109 0, dm_push 111 (.int 6), dm_no, dm_push 112 (.int (-1))] := dr_c (dg_ret dX11_read_96) <| dr_c (dg_aload_n (k := 0) rfl dX11_read_97) <| dr_c (dg_iconst (by decide) dX11_read_98) <| dr_c (dg_iconst (by decide) dX11_read_99) <| dr_c (dg_inv dX11_read_100 mo_155 rfl rfl wd_1185 wd_1187 wd_29 pd_155) <| dr_c (dg_no) <| dr_c (dg_no) <| dr_c (dg_aload_n (k := 0) rfl dX11_read_103) <| dr_c (dg_iconst (by decide) dX11_read_104) <| dr_c (dg_putf (T := TX11) (C := RX11) (N := 68) dX11_read_105 rfl (by decide) iw_X11 tyX11_ok nmX11 wd_982 rfl rfl) <| dr_c (dg_no) <| dr_c (dg_no) <| dr_c (dg_aload_n (k := 0) rfl dX11_read_108) <| dr_c (dg_bipush (by decide) dX11_read_109) <| dr_c (dg_no) <| dr_c (dg_iconst (by decide) dX11_read_111) <| dr_n
theorem tr_203_7 : dm_AllR (dm_Good dm_tb RX11 cX11_read 1 (some .int) false none) 112 [dm_push 113 (.int (-1)), dm_inv 116 140 3 8, dm_no, dm_no, dm_ret .int] := dr_c (dg_iconst (by decide) dX11_read_112) <| dr_c (dg_inv dX11_read_113 mo_140 rfl rfl wd_919 wd_921 wd_16 pd_140) <| dr_c (dg_no) <| dr_c (dg_no) <| dr_c (dg_ret dX11_read_116) <| dr_n
theorem tk_203 : dm_AllC (dm_Good dm_tb RX11 cX11_read 1 (some .int) false none) 0 cd_203 := dc_c (by decide) tr_203_0 <| dc_c (by decide) tr_203_1 <| dc_c (by decide) tr_203_2 <| dc_c (by decide) tr_203_3 <| dc_c (by decide) tr_203_4 <| dc_c (by decide) tr_203_5 <| dc_c (by decide) tr_203_6 <| dc_c (by decide) tr_203_7 <| dc_n
theorem dX11_fault_0 : decode cX11_fault 0 = .ok (.aload_n 0, 1) := by decide +kernel
theorem dX11_fault_1 : decode cX11_fault 1 = .ok (.iconst 0, 1) := by decide +kernel
theorem dX11_fault_2 : decode cX11_fault 2 = .ok (.putfield 165, 3) := by decide +kernel
theorem dX11_fault_5 : decode cX11_fault 5 = .ok (.aload_n 0, 1) := by decide +kernel
theorem dX11_fault_6 : decode cX11_fault 6 = .ok (.getfield 104, 3) := by decide +kernel
theorem dX11_fault_9 : decode cX11_fault 9 = .ok (.ireturn, 1) := by decide +kernel
def cd_204 : dm_Code := [[dm_ald 1 0, dm_push 2 (.int 0), dm_putf 5 8 40 .int, dm_no, dm_no, dm_ald 6 0, dm_getf 9 8 37, dm_no, dm_no, dm_ret .int]]
theorem tr_204_0 : dm_AllR (dm_Good dm_tb RX11 cX11_fault 1 (some .int) false none) 0 [dm_ald 1 0, dm_push 2 (.int 0), dm_putf 5 8 40 .int, dm_no, dm_no, dm_ald 6 0, dm_getf 9 8 37, dm_no, dm_no, dm_ret .int] := dr_c (dg_aload_n (k := 0) rfl dX11_fault_0) <| dr_c (dg_iconst (by decide) dX11_fault_1) <| dr_c (dg_putf (T := TX11) (C := RX11) (N := 68) dX11_fault_2 rfl (by decide) iw_X11 tyX11_ok nmX11 wd_988 rfl rfl) <| dr_c (dg_no) <| dr_c (dg_no) <| dr_c (dg_aload_n (k := 0) rfl dX11_fault_5) <| dr_c (dg_getf (T := TX11) (C := RX11) (N := 68) dX11_fault_6 rfl (by decide) iw_X11 wd_985) <| dr_c (dg_no) <| dr_c (dg_no) <| dr_c (dg_ret dX11_fault_9) <| dr_n
theorem tk_204 : dm_AllC (dm_Good dm_tb RX11 cX11_fault 1 (some .int) false none) 0 cd_204 := dc_c (by decide) tr_204_0 <| dc_n
theorem dX11_image_0 : decode cX11_image 0 = .ok (.aload_n 0, 1) := by decide +kernel
theorem dX11_image_1 : decode cX11_image 1 = .ok (.iconst 0, 1) := by decide +kernel
theorem dX11_image_2 : decode cX11_image 2 = .ok (.putfield 165, 3) := by decide +kernel
theorem dX11_image_5 : decode cX11_image 5 = .ok (.aload_n 0, 1) := by decide +kernel
theorem dX11_image_6 : decode cX11_image 6 = .ok (.iconst 1, 1) := by decide +kernel
theorem dX11_image_7 : decode cX11_image 7 = .ok (.putfield 381, 3) := by decide +kernel
theorem dX11_image_10 : decode cX11_image 10 = .ok (.iconst 0, 1) := by decide +kernel
theorem dX11_image_11 : decode cX11_image 11 = .ok (.istore_n 1, 1) := by decide +kernel
theorem dX11_image_12 : decode cX11_image 12 = .ok (.iload_n 1, 1) := by decide +kernel
theorem dX11_image_13 : decode cX11_image 13 = .ok (.sipush 24000, 3) := by decide +kernel
theorem dX11_image_16 : decode cX11_image 16 = .ok (.if_icmp .ge 57, 3) := by decide +kernel
theorem dX11_image_19 : decode cX11_image 19 = .ok (.aload_n 0, 1) := by decide +kernel
theorem dX11_image_20 : decode cX11_image 20 = .ok (.getfield 111, 3) := by decide +kernel
theorem dX11_image_23 : decode cX11_image 23 = .ok (.iload_n 1, 1) := by decide +kernel
theorem dX11_image_24 : decode cX11_image 24 = .ok (.aload_n 0, 1) := by decide +kernel
theorem dX11_image_25 : decode cX11_image 25 = .ok (.getfield 9, 3) := by decide +kernel
theorem dX11_image_28 : decode cX11_image 28 = .ok (.iload_n 1, 1) := by decide +kernel
theorem dX11_image_29 : decode cX11_image 29 = .ok (.laload, 1) := by decide +kernel
theorem dX11_image_30 : decode cX11_image 30 = .ok (.lastore, 1) := by decide +kernel
theorem dX11_image_31 : decode cX11_image 31 = .ok (.aload_n 0, 1) := by decide +kernel
theorem dX11_image_32 : decode cX11_image 32 = .ok (.getfield 114, 3) := by decide +kernel
theorem dX11_image_35 : decode cX11_image 35 = .ok (.iload_n 1, 1) := by decide +kernel
theorem dX11_image_36 : decode cX11_image 36 = .ok (.aload_n 0, 1) := by decide +kernel
theorem dX11_image_37 : decode cX11_image 37 = .ok (.getfield 13, 3) := by decide +kernel
theorem dX11_image_40 : decode cX11_image 40 = .ok (.iload_n 1, 1) := by decide +kernel
theorem dX11_image_41 : decode cX11_image 41 = .ok (.iaload, 1) := by decide +kernel
theorem dX11_image_42 : decode cX11_image 42 = .ok (.iastore, 1) := by decide +kernel
theorem dX11_image_43 : decode cX11_image 43 = .ok (.aload_n 0, 1) := by decide +kernel
theorem dX11_image_44 : decode cX11_image 44 = .ok (.getfield 117, 3) := by decide +kernel
theorem dX11_image_47 : decode cX11_image 47 = .ok (.iload_n 1, 1) := by decide +kernel
theorem dX11_image_48 : decode cX11_image 48 = .ok (.aload_n 0, 1) := by decide +kernel
theorem dX11_image_49 : decode cX11_image 49 = .ok (.getfield 17, 3) := by decide +kernel
theorem dX11_image_52 : decode cX11_image 52 = .ok (.iload_n 1, 1) := by decide +kernel
theorem dX11_image_53 : decode cX11_image 53 = .ok (.laload, 1) := by decide +kernel
theorem dX11_image_54 : decode cX11_image 54 = .ok (.lastore, 1) := by decide +kernel
theorem dX11_image_55 : decode cX11_image 55 = .ok (.aload_n 0, 1) := by decide +kernel
theorem dX11_image_56 : decode cX11_image 56 = .ok (.getfield 120, 3) := by decide +kernel
theorem dX11_image_59 : decode cX11_image 59 = .ok (.iload_n 1, 1) := by decide +kernel
theorem dX11_image_60 : decode cX11_image 60 = .ok (.aload_n 0, 1) := by decide +kernel
theorem dX11_image_61 : decode cX11_image 61 = .ok (.getfield 20, 3) := by decide +kernel
theorem dX11_image_64 : decode cX11_image 64 = .ok (.iload_n 1, 1) := by decide +kernel
theorem dX11_image_65 : decode cX11_image 65 = .ok (.laload, 1) := by decide +kernel
theorem dX11_image_66 : decode cX11_image 66 = .ok (.lastore, 1) := by decide +kernel
theorem dX11_image_67 : decode cX11_image 67 = .ok (.iinc 1 1, 3) := by decide +kernel
theorem dX11_image_70 : decode cX11_image 70 = .ok (.goto (-58), 3) := by decide +kernel
theorem dX11_image_73 : decode cX11_image 73 = .ok (.iconst 0, 1) := by decide +kernel
theorem dX11_image_74 : decode cX11_image 74 = .ok (.istore_n 1, 1) := by decide +kernel
theorem dX11_image_75 : decode cX11_image 75 = .ok (.iload_n 1, 1) := by decide +kernel
theorem dX11_image_76 : decode cX11_image 76 = .ok (.sipush 1000, 3) := by decide +kernel
theorem dX11_image_79 : decode cX11_image 79 = .ok (.if_icmp .gt 33, 3) := by decide +kernel
theorem dX11_image_82 : decode cX11_image 82 = .ok (.aload_n 0, 1) := by decide +kernel
theorem dX11_image_83 : decode cX11_image 83 = .ok (.getfield 123, 3) := by decide +kernel
theorem dX11_image_86 : decode cX11_image 86 = .ok (.iload_n 1, 1) := by decide +kernel
theorem dX11_image_87 : decode cX11_image 87 = .ok (.aload_n 0, 1) := by decide +kernel
theorem dX11_image_88 : decode cX11_image 88 = .ok (.getfield 23, 3) := by decide +kernel
theorem dX11_image_91 : decode cX11_image 91 = .ok (.iload_n 1, 1) := by decide +kernel
theorem dX11_image_92 : decode cX11_image 92 = .ok (.iaload, 1) := by decide +kernel
theorem dX11_image_93 : decode cX11_image 93 = .ok (.iastore, 1) := by decide +kernel
theorem dX11_image_94 : decode cX11_image 94 = .ok (.aload_n 0, 1) := by decide +kernel
theorem dX11_image_95 : decode cX11_image 95 = .ok (.getfield 126, 3) := by decide +kernel
theorem dX11_image_98 : decode cX11_image 98 = .ok (.iload_n 1, 1) := by decide +kernel
theorem dX11_image_99 : decode cX11_image 99 = .ok (.aload_n 0, 1) := by decide +kernel
theorem dX11_image_100 : decode cX11_image 100 = .ok (.getfield 26, 3) := by decide +kernel
theorem dX11_image_103 : decode cX11_image 103 = .ok (.iload_n 1, 1) := by decide +kernel
theorem dX11_image_104 : decode cX11_image 104 = .ok (.iaload, 1) := by decide +kernel
theorem dX11_image_105 : decode cX11_image 105 = .ok (.iastore, 1) := by decide +kernel
theorem dX11_image_106 : decode cX11_image 106 = .ok (.iinc 1 1, 3) := by decide +kernel
theorem dX11_image_109 : decode cX11_image 109 = .ok (.goto (-34), 3) := by decide +kernel
theorem dX11_image_112 : decode cX11_image 112 = .ok (.iconst 0, 1) := by decide +kernel
theorem dX11_image_113 : decode cX11_image 113 = .ok (.istore_n 1, 1) := by decide +kernel
theorem dX11_image_114 : decode cX11_image 114 = .ok (.iload_n 1, 1) := by decide +kernel
theorem dX11_image_115 : decode cX11_image 115 = .ok (.sipush 1000, 3) := by decide +kernel
theorem dX11_image_118 : decode cX11_image 118 = .ok (.if_icmp .ge 105, 3) := by decide +kernel
theorem dX11_image_121 : decode cX11_image 121 = .ok (.aload_n 0, 1) := by decide +kernel
theorem dX11_image_122 : decode cX11_image 122 = .ok (.getfield 129, 3) := by decide +kernel
theorem dX11_image_125 : decode cX11_image 125 = .ok (.iload_n 1, 1) := by decide +kernel
theorem dX11_image_126 : decode cX11_image 126 = .ok (.aload_n 0, 1) := by decide +kernel
theorem dX11_image_127 : decode cX11_image 127 = .ok (.getfield 29, 3) := by decide +kernel
theorem dX11_image_130 : decode cX11_image 130 = .ok (.iload_n 1, 1) := by decide +kernel
theorem dX11_image_131 : decode cX11_image 131 = .ok (.baload, 1) := by decide +kernel
theorem dX11_image_132 : decode cX11_image 132 = .ok (.bastore, 1) := by decide +kernel
theorem dX11_image_133 : decode cX11_image 133 = .ok (.aload_n 0, 1) := by decide +kernel
theorem dX11_image_134 : decode cX11_image 134 = .ok (.getfield 132, 3) := by decide +kernel
theorem dX11_image_137 : decode cX11_image 137 = .ok (.iload_n 1, 1) := by decide +kernel
theorem dX11_image_138 : decode cX11_image 138 = .ok (.aload_n 0, 1) := by decide +kernel
theorem dX11_image_139 : decode cX11_image 139 = .ok (.getfield 33, 3) := by decide +kernel
theorem dX11_image_142 : decode cX11_image 142 = .ok (.iload_n 1, 1) := by decide +kernel
theorem dX11_image_143 : decode cX11_image 143 = .ok (.baload, 1) := by decide +kernel
theorem dX11_image_144 : decode cX11_image 144 = .ok (.bastore, 1) := by decide +kernel
theorem dX11_image_145 : decode cX11_image 145 = .ok (.aload_n 0, 1) := by decide +kernel
theorem dX11_image_146 : decode cX11_image 146 = .ok (.getfield 135, 3) := by decide +kernel
theorem dX11_image_149 : decode cX11_image 149 = .ok (.iload_n 1, 1) := by decide +kernel
theorem dX11_image_150 : decode cX11_image 150 = .ok (.aload_n 0, 1) := by decide +kernel
theorem dX11_image_151 : decode cX11_image 151 = .ok (.getfield 36, 3) := by decide +kernel
theorem dX11_image_154 : decode cX11_image 154 = .ok (.iload_n 1, 1) := by decide +kernel
theorem dX11_image_155 : decode cX11_image 155 = .ok (.baload, 1) := by decide +kernel
theorem dX11_image_156 : decode cX11_image 156 = .ok (.bastore, 1) := by decide +kernel
theorem dX11_image_157 : decode cX11_image 157 = .ok (.aload_n 0, 1) := by decide +kernel
theorem dX11_image_158 : decode cX11_image 158 = .ok (.getfield 138, 3) := by decide +kernel
theorem dX11_image_161 : decode cX11_image 161 = .ok (.iload_n 1, 1) := by decide +kernel
theorem dX11_image_162 : decode cX11_image 162 = .ok (.aload_n 0, 1) := by decide +kernel
theorem dX11_image_163 : decode cX11_image 163 = .ok (.getfield 39, 3) := by decide +kernel
theorem dX11_image_166 : decode cX11_image 166 = .ok (.iload_n 1, 1) := by decide +kernel
theorem dX11_image_167 : decode cX11_image 167 = .ok (.baload, 1) := by decide +kernel
theorem dX11_image_168 : decode cX11_image 168 = .ok (.bastore, 1) := by decide +kernel
theorem dX11_image_169 : decode cX11_image 169 = .ok (.aload_n 0, 1) := by decide +kernel
theorem dX11_image_170 : decode cX11_image 170 = .ok (.getfield 141, 3) := by decide +kernel
theorem dX11_image_173 : decode cX11_image 173 = .ok (.iload_n 1, 1) := by decide +kernel
theorem dX11_image_174 : decode cX11_image 174 = .ok (.aload_n 0, 1) := by decide +kernel
theorem dX11_image_175 : decode cX11_image 175 = .ok (.getfield 43, 3) := by decide +kernel
theorem dX11_image_178 : decode cX11_image 178 = .ok (.iload_n 1, 1) := by decide +kernel
theorem dX11_image_179 : decode cX11_image 179 = .ok (.saload, 1) := by decide +kernel
theorem dX11_image_180 : decode cX11_image 180 = .ok (.sastore, 1) := by decide +kernel
theorem dX11_image_181 : decode cX11_image 181 = .ok (.aload_n 0, 1) := by decide +kernel
theorem dX11_image_182 : decode cX11_image 182 = .ok (.getfield 144, 3) := by decide +kernel
theorem dX11_image_185 : decode cX11_image 185 = .ok (.iload_n 1, 1) := by decide +kernel
theorem dX11_image_186 : decode cX11_image 186 = .ok (.aload_n 0, 1) := by decide +kernel
theorem dX11_image_187 : decode cX11_image 187 = .ok (.getfield 47, 3) := by decide +kernel
theorem dX11_image_190 : decode cX11_image 190 = .ok (.iload_n 1, 1) := by decide +kernel
theorem dX11_image_191 : decode cX11_image 191 = .ok (.saload, 1) := by decide +kernel
theorem dX11_image_192 : decode cX11_image 192 = .ok (.sastore, 1) := by decide +kernel
theorem dX11_image_193 : decode cX11_image 193 = .ok (.aload_n 0, 1) := by decide +kernel
theorem dX11_image_194 : decode cX11_image 194 = .ok (.getfield 147, 3) := by decide +kernel
theorem dX11_image_197 : decode cX11_image 197 = .ok (.iload_n 1, 1) := by decide +kernel
theorem dX11_image_198 : decode cX11_image 198 = .ok (.aload_n 0, 1) := by decide +kernel
theorem dX11_image_199 : decode cX11_image 199 = .ok (.getfield 50, 3) := by decide +kernel
theorem dX11_image_202 : decode cX11_image 202 = .ok (.iload_n 1, 1) := by decide +kernel
theorem dX11_image_203 : decode cX11_image 203 = .ok (.iaload, 1) := by decide +kernel
theorem dX11_image_204 : decode cX11_image 204 = .ok (.iastore, 1) := by decide +kernel
theorem dX11_image_205 : decode cX11_image 205 = .ok (.aload_n 0, 1) := by decide +kernel
theorem dX11_image_206 : decode cX11_image 206 = .ok (.getfield 150, 3) := by decide +kernel
theorem dX11_image_209 : decode cX11_image 209 = .ok (.iload_n 1, 1) := by decide +kernel
theorem dX11_image_210 : decode cX11_image 210 = .ok (.aload_n 0, 1) := by decide +kernel
theorem dX11_image_211 : decode cX11_image 211 = .ok (.getfield 53, 3) := by decide +kernel
theorem dX11_image_214 : decode cX11_image 214 = .ok (.iload_n 1, 1) := by decide +kernel
theorem dX11_image_215 : decode cX11_image 215 = .ok (.iaload, 1) := by decide +kernel
theorem dX11_image_216 : decode cX11_image 216 = .ok (.iastore, 1) := by decide +kernel
theorem dX11_image_217 : decode cX11_image 217 = .ok (.iinc 1 1, 3) := by decide +kernel
theorem dX11_image_220 : decode cX11_image 220 = .ok (.goto (-106), 3) := by decide +kernel
theorem dX11_image_223 : decode cX11_image 223 = .ok (.iconst 0, 1) := by decide +kernel
theorem dX11_image_224 : decode cX11_image 224 = .ok (.istore_n 1, 1) := by decide +kernel
theorem dX11_image_225 : decode cX11_image 225 = .ok (.iload_n 1, 1) := by decide +kernel
theorem dX11_image_226 : decode cX11_image 226 = .ok (.sipush 16000, 3) := by decide +kernel
theorem dX11_image_229 : decode cX11_image 229 = .ok (.if_icmp .ge 21, 3) := by decide +kernel
theorem dX11_image_232 : decode cX11_image 232 = .ok (.aload_n 0, 1) := by decide +kernel
theorem dX11_image_233 : decode cX11_image 233 = .ok (.getfield 153, 3) := by decide +kernel
theorem dX11_image_236 : decode cX11_image 236 = .ok (.iload_n 1, 1) := by decide +kernel
theorem dX11_image_237 : decode cX11_image 237 = .ok (.aload_n 0, 1) := by decide +kernel
theorem dX11_image_238 : decode cX11_image 238 = .ok (.getfield 56, 3) := by decide +kernel
theorem dX11_image_241 : decode cX11_image 241 = .ok (.iload_n 1, 1) := by decide +kernel
theorem dX11_image_242 : decode cX11_image 242 = .ok (.laload, 1) := by decide +kernel
theorem dX11_image_243 : decode cX11_image 243 = .ok (.lastore, 1) := by decide +kernel
theorem dX11_image_244 : decode cX11_image 244 = .ok (.iinc 1 1, 3) := by decide +kernel
theorem dX11_image_247 : decode cX11_image 247 = .ok (.goto (-22), 3) := by decide +kernel
theorem dX11_image_250 : decode cX11_image 250 = .ok (.aload_n 0, 1) := by decide +kernel
theorem dX11_image_251 : decode cX11_image 251 = .ok (.aload_n 0, 1) := by decide +kernel
theorem dX11_image_252 : decode cX11_image 252 = .ok (.getfield 168, 3) := by decide +kernel
theorem dX11_image_255 : decode cX11_image 255 = .ok (.putfield 384, 3) := by decide +kernel
theorem dX11_image_258 : decode cX11_image 258 = .ok (.aload_n 0, 1) := by decide +kernel
theorem dX11_image_259 : decode cX11_image 259 = .ok (.aload_n 0, 1) := by decide +kernel
theorem dX11_image_260 : decode cX11_image 260 = .ok (.getfield 171, 3) := by decide +kernel
theorem dX11_image_263 : decode cX11_image 263 = .ok (.putfield 387, 3) := by decide +kernel
theorem dX11_image_266 : decode cX11_image 266 = .ok (.aload_n 0, 1) := by decide +kernel
theorem dX11_image_267 : decode cX11_image 267 = .ok (.aload_n 0, 1) := by decide +kernel
theorem dX11_image_268 : decode cX11_image 268 = .ok (.getfield 174, 3) := by decide +kernel
theorem dX11_image_271 : decode cX11_image 271 = .ok (.putfield 390, 3) := by decide +kernel
theorem dX11_image_274 : decode cX11_image 274 = .ok (.iconst 1, 1) := by decide +kernel
theorem dX11_image_275 : decode cX11_image 275 = .ok (.ireturn, 1) := by decide +kernel
def cd_205 : dm_Code := [[dm_ald 1 0, dm_push 2 (.int 0), dm_putf 5 8 40 .int, dm_no, dm_no, dm_ald 6 0, dm_push 7 (.int 1), dm_putf 10 8 41 .boolean, dm_no, dm_no, dm_push 11 (.int 0), dm_ist 12 1, dm_ild 13 1, dm_push 16 (.int 24000), dm_no, dm_no],
  [dm_ic_ge 19 73, dm_no, dm_no, dm_ald 20 0, dm_getf 23 8 42, dm_no, dm_no, dm_ild 24 1, dm_ald 25 0, dm_getf 28 8 0, dm_no, dm_no, dm_ild 29 1, dm_lald 30, dm_last 31, dm_ald 32 0],
  [dm_getf 35 8 43, dm_no, dm_no, dm_ild 36 1, dm_ald 37 0, dm_getf 40 8 1, dm_no, dm_no, dm_ild 41 1, dm_iald 42, dm_iast 43, dm_ald 44 0, dm_getf 47 8 44, dm_no, dm_no, dm_ild 48 1],
  [dm_ald 49 0, dm_getf 52 8 2, dm_no, dm_no, dm_ild 53 1, dm_lald 54, dm_last 55, dm_ald 56 0, dm_getf 59 8 45, dm_no, dm_no, dm_ild 60 1, dm_ald 61 0, dm_getf 64 8 3, dm_no, dm_no],
  [dm_ild 65 1, dm_lald 66, dm_last 67, dm_iinc 70 1 1, dm_no, dm_no, dm_goto 12, dm_no, dm_no, dm_push 74 (.int 0), dm_ist 75 1, dm_ild 76 1, dm_push 79 (.int 1000), dm_no, dm_no, dm_ic_gt 82 112],
  [dm_no, dm_no, dm_ald 83 0, dm_getf 86 8 46, dm_no, dm_no, dm_ild 87 1, dm_ald 88 0, dm_getf 91 8 4, dm_no, dm_no, dm_ild 92 1, dm_iald 93, dm_iast 94, dm_ald 95 0, dm_getf 98 8 47],
  [dm_no, dm_no, dm_ild 99 1, dm_ald 100 0, dm_getf 103 8 5, dm_no, dm_no, dm_ild 104 1, dm_iald 105, dm_iast 106, dm_iinc 109 1 1, dm_no, dm_no, dm_goto 75, dm_no, dm_no],
  [dm_push 113 (.int 0), dm_ist 114 1, dm_ild 115 1, dm_push 118 (.int 1000), dm_no, dm_no, dm_ic_ge 121 223, dm_no, dm_no, dm_ald 122 0, dm_getf 125 8 48, dm_no, dm_no, dm_ild 126 1, dm_ald 127 0, dm_getf 130 8 6],
  [dm_no, dm_no, dm_ild 131 1, dm_bald 132, dm_bast 133, dm_ald 134 0, dm_getf 137 8 49, dm_no, dm_no, dm_ild 138 1, dm_ald 139 0, dm_getf 142 8 7, dm_no, dm_no, dm_ild 143 1, dm_bald 144],
  [dm_bast 145, dm_ald 146 0, dm_getf 149 8 50, dm_no, dm_no, dm_ild 150 1, dm_ald 151 0, dm_getf 154 8 8, dm_no, dm_no, dm_ild 155 1, dm_bald 156, dm_bast 157, dm_ald 158 0, dm_getf 161 8 51, dm_no],
  [dm_no, dm_ild 162 1, dm_ald 163 0, dm_getf 166 8 9, dm_no, dm_no, dm_ild 167 1, dm_bald 168, dm_bast 169, dm_ald 170 0, dm_getf 173 8 52, dm_no, dm_no, dm_ild 174 1, dm_ald 175 0, dm_getf 178 8 10],
  [dm_no, dm_no, dm_ild 179 1, dm_sald 180, dm_sast 181, dm_ald 182 0, dm_getf 185 8 53, dm_no, dm_no, dm_ild 186 1, dm_ald 187 0, dm_getf 190 8 11, dm_no, dm_no, dm_ild 191 1, dm_sald 192],
  [dm_sast 193, dm_ald 194 0, dm_getf 197 8 54, dm_no, dm_no, dm_ild 198 1, dm_ald 199 0, dm_getf 202 8 12, dm_no, dm_no, dm_ild 203 1, dm_iald 204, dm_iast 205, dm_ald 206 0, dm_getf 209 8 55, dm_no],
  [dm_no, dm_ild 210 1, dm_ald 211 0, dm_getf 214 8 13, dm_no, dm_no, dm_ild 215 1, dm_iald 216, dm_iast 217, dm_iinc 220 1 1, dm_no, dm_no, dm_goto 114, dm_no, dm_no, dm_push 224 (.int 0)],
  [dm_ist 225 1, dm_ild 226 1, dm_push 229 (.int 16000), dm_no, dm_no, dm_ic_ge 232 250, dm_no, dm_no, dm_ald 233 0, dm_getf 236 8 56, dm_no, dm_no, dm_ild 237 1, dm_ald 238 0, dm_getf 241 8 14, dm_no],
  [dm_no, dm_ild 242 1, dm_lald 243, dm_last 244, dm_iinc 247 1 1, dm_no, dm_no, dm_goto 225, dm_no, dm_no, dm_ald 251 0, dm_ald 252 0, dm_getf 255 8 15, dm_no, dm_no, dm_putf 258 8 57 .int],
  [dm_no, dm_no, dm_ald 259 0, dm_ald 260 0, dm_getf 263 8 16, dm_no, dm_no, dm_putf 266 8 58 .int, dm_no, dm_no, dm_ald 267 0, dm_ald 268 0, dm_getf 271 8 17, dm_no, dm_no, dm_putf 274 8 59 .int],
  [dm_no, dm_no, dm_push 275 (.int 1), dm_ret .boolean]]
theorem tr_205_0 : dm_AllR (dm_Good dm_tb RX11 cX11_image 2 (some .boolean) false none) 0 [dm_ald 1 0, dm_push 2 (.int 0), dm_putf 5 8 40 .int, dm_no, dm_no, dm_ald 6 0, dm_push 7 (.int 1), dm_putf 10 8 41 .boolean, dm_no, dm_no, dm_push 11 (.int 0), dm_ist 12 1, dm_ild 13 1, dm_push 16 (.int 24000), dm_no, dm_no] := dr_c (dg_aload_n (k := 0) rfl dX11_image_0) <| dr_c (dg_iconst (by decide) dX11_image_1) <| dr_c (dg_putf (T := TX11) (C := RX11) (N := 68) dX11_image_2 rfl (by decide) iw_X11 tyX11_ok nmX11 wd_988 rfl rfl) <| dr_c (dg_no) <| dr_c (dg_no) <| dr_c (dg_aload_n (k := 0) rfl dX11_image_5) <| dr_c (dg_iconst (by decide) dX11_image_6) <| dr_c (dg_putf (T := TX11) (C := RX11) (N := 68) dX11_image_7 rfl (by decide) iw_X11 tyX11_ok nmX11 wd_989 rfl rfl) <| dr_c (dg_no) <| dr_c (dg_no) <| dr_c (dg_iconst (by decide) dX11_image_10) <| dr_c (dg_istore_n (k := 1) rfl (by decide) dX11_image_11) <| dr_c (dg_iload_n (k := 1) rfl dX11_image_12) <| dr_c (dg_sipush (by decide) dX11_image_13) <| dr_c (dg_no) <| dr_c (dg_no) <| dr_n
theorem tr_205_1 : dm_AllR (dm_Good dm_tb RX11 cX11_image 2 (some .boolean) false none) 16 [dm_ic_ge 19 73, dm_no, dm_no, dm_ald 20 0, dm_getf 23 8 42, dm_no, dm_no, dm_ild 24 1, dm_ald 25 0, dm_getf 28 8 0, dm_no, dm_no, dm_ild 29 1, dm_lald 30, dm_last 31, dm_ald 32 0] := dr_c (dg_ic_ge (by decide) dX11_image_16) <| dr_c (dg_no) <| dr_c (dg_no) <| dr_c (dg_aload_n (k := 0) rfl dX11_image_19) <| dr_c (dg_getf (T := TX11) (C := RX11) (N := 68) dX11_image_20 rfl (by decide) iw_X11 wd_990) <| dr_c (dg_no) <| dr_c (dg_no) <| dr_c (dg_iload_n (k := 1) rfl dX11_image_23) <| dr_c (dg_aload_n (k := 0) rfl dX11_image_24) <| dr_c (dg_getf (T := TX11) (C := RX11) (N := 68) dX11_image_25 rfl (by decide) iw_X11 wd_948) <| dr_c (dg_no) <| dr_c (dg_no) <| dr_c (dg_iload_n (k := 1) rfl dX11_image_28) <| dr_c (dg_lald dX11_image_29) <| dr_c (dg_last dX11_image_30) <| dr_c (dg_aload_n (k := 0) rfl dX11_image_31) <| dr_n
theorem tr_205_2 : dm_AllR (dm_Good dm_tb RX11 cX11_image 2 (some .boolean) false none) 32 [dm_getf 35 8 43, dm_no, dm_no, dm_ild 36 1, dm_ald 37 0, dm_getf 40 8 1, dm_no, dm_no, dm_ild 41 1, dm_iald 42, dm_iast 43, dm_ald 44 0, dm_getf 47 8 44, dm_no, dm_no, dm_ild 48 1] := dr_c (dg_getf (T := TX11) (C := RX11) (N := 68) dX11_image_32 rfl (by decide) iw_X11 wd_991) <| dr_c (dg_no) <| dr_c (dg_no) <| dr_c (dg_iload_n (k := 1) rfl dX11_image_35) <| dr_c (dg_aload_n (k := 0) rfl dX11_image_36) <| dr_c (dg_getf (T := TX11) (C := RX11) (N := 68) dX11_image_37 rfl (by decide) iw_X11 wd_949) <| dr_c (dg_no) <| dr_c (dg_no) <| dr_c (dg_iload_n (k := 1) rfl dX11_image_40) <| dr_c (dg_iald dX11_image_41) <| dr_c (dg_iast dX11_image_42) <| dr_c (dg_aload_n (k := 0) rfl dX11_image_43) <| dr_c (dg_getf (T := TX11) (C := RX11) (N := 68) dX11_image_44 rfl (by decide) iw_X11 wd_992) <| dr_c (dg_no) <| dr_c (dg_no) <| dr_c (dg_iload_n (k := 1) rfl dX11_image_47) <| dr_n
theorem tr_205_3 : dm_AllR (dm_Good dm_tb RX11 cX11_image 2 (some .boolean) false none) 48 [dm_ald 49 0, dm_getf 52 8 2, dm_no, dm_no, dm_ild 53 1, dm_lald 54, dm_last 55, dm_ald 56 0, dm_getf 59 8 45, dm_no, dm_no, dm_ild 60 1, dm_ald 61 0, dm_getf 64 8 3, dm_no, dm_no] := dr_c (dg_aload_n (k := 0) rfl dX11_image_48) <| dr_c (dg_getf (T := TX11) (C := RX11) (N := 68) dX11_image_49 rfl (by decide) iw_X11 wd_950) <| dr_c (dg_no) <| dr_c (dg_no) <| dr_c (dg_iload_n (k := 1) rfl dX11_image_52) <| dr_c (dg_lald dX11_image_53) <| dr_c (dg_last dX11_image_54) <| dr_c (dg_aload_n (k := 0) rfl dX11_image_55) <| dr_c (dg_getf (T := TX11) (C := RX11) (N := 68) dX11_image_56 rfl (by decide) iw_X11 wd_993) <| dr_c (dg_no) <| dr_c (dg_no) <| dr_c (dg_iload_n (k := 1) rfl dX11_image_59) <| dr_c (dg_aload_n (k := 0) rfl dX11_image_60) <| dr_c (dg_getf (T := TX11) (C := RX11) (N := 68) dX11_image_61 rfl (by decide) iw_X11 wd_951) <| dr_c (dg_no) <| dr_c (dg_no) <| dr_n
theorem tr_205_4 : dm_AllR (dm_Good dm_tb RX11 cX11_image 2 (some .boolean) false none) 64 [dm_ild 65 1, dm_lald 66, dm_last 67, dm_iinc 70 1 1, dm_no, dm_no, dm_goto 12, dm_no, dm_no, dm_push 74 (.int 0), dm_ist 75 1, dm_ild 76 1, dm_push 79 (.int 1000), dm_no, dm_no, dm_ic_gt 82 112] := dr_c (dg_iload_n (k := 1) rfl dX11_image_64) <| dr_c (dg_lald dX11_image_65) <| dr_c (dg_last dX11_image_66) <| dr_c (dg_iinc (by decide) (by decide) dX11_image_67) <| dr_c (dg_no) <| dr_c (dg_no) <| dr_c (dg_goto (by decide) dX11_image_70) <| dr_c (dg_no) <| dr_c (dg_no) <| dr_c (dg_iconst (by decide) dX11_image_73) <| dr_c (dg_istore_n (k := 1) rfl (by decide) dX11_image_74) <| dr_c (dg_iload_n (k := 1) rfl dX11_image_75) <| dr_c (dg_sipush (by decide) dX11_image_76) <| dr_c (dg_no) <| dr_c (dg_no) <| dr_c (dg_ic_gt (by decide) dX11_image_79) <| dr_n
theorem tr_205_5 : dm_AllR (dm_Good dm_tb RX11 cX11_image 2 (some .boolean) false none) 80 [dm_no, dm_no, dm_ald 83 0, dm_getf 86 8 46, dm_no, dm_no, dm_ild 87 1, dm_ald 88 0, dm_getf 91 8 4, dm_no, dm_no, dm_ild 92 1, dm_iald 93, dm_iast 94, dm_ald 95 0, dm_getf 98 8 47] := dr_c (dg_no) <| dr_c (dg_no) <| dr_c (dg_aload_n (k := 0) rfl dX11_image_82) <| dr_c (dg_getf (T := TX11) (C := RX11) (N := 68) dX11_image_83 rfl (by decide) iw_X11 wd_994) <| dr_c (dg_no) <| dr_c (dg_no) <| dr_c (dg_iload_n (k := 1) rfl dX11_image_86) <| dr_c (dg_aload_n (k := 0) rfl dX11_image_87) <| dr_c (dg_getf (T := TX11) (C := RX11) (N := 68) dX11_image_88 rfl (by decide) iw_X11 wd_952) <| dr_c (dg_no) <| dr_c (dg_no) <| dr_c (dg_iload_n (k := 1) rfl dX11_image_91) <| dr_c (dg_iald dX11_image_92) <| dr_c (dg_iast dX11_image_93) <| dr_c (dg_aload_n (k := 0) rfl dX11_image_94) <| dr_c (dg_getf (T := TX11) (C := RX11) (N := 68) dX11_image_95 rfl (by decide) iw_X11 wd_995) <| dr_n
theorem tr_205_6 : dm_AllR (dm_Good dm_tb RX11 cX11_image 2 (some .boolean) false none) 96 [dm_no, dm_no, dm_ild 99 1, dm_ald 100 0, dm_getf 103 8 5, dm_no, dm_no, dm_ild 104 1, dm_iald 105, dm_iast 106, dm_iinc 109 1 1, dm_no, dm_no, dm_goto 75, dm_no, dm_no] := dr_c (dg_no) <| dr_c (dg_no) <| dr_c (dg_iload_n (k := 1) rfl dX11_image_98) <| dr_c (dg_aload_n (k := 0) rfl dX11_image_99) <| dr_c (dg_getf (T := TX11) (C := RX11) (N := 68) dX11_image_100 rfl (by decide) iw_X11 wd_953) <| dr_c (dg_no) <| dr_c (dg_no) <| dr_c (dg_iload_n (k := 1) rfl dX11_image_103) <| dr_c (dg_iald dX11_image_104) <| dr_c (dg_iast dX11_image_105) <| dr_c (dg_iinc (by decide) (by decide) dX11_image_106) <| dr_c (dg_no) <| dr_c (dg_no) <| dr_c (dg_goto (by decide) dX11_image_109) <| dr_c (dg_no) <| dr_c (dg_no) <| dr_n
theorem tr_205_7 : dm_AllR (dm_Good dm_tb RX11 cX11_image 2 (some .boolean) false none) 112 [dm_push 113 (.int 0), dm_ist 114 1, dm_ild 115 1, dm_push 118 (.int 1000), dm_no, dm_no, dm_ic_ge 121 223, dm_no, dm_no, dm_ald 122 0, dm_getf 125 8 48, dm_no, dm_no, dm_ild 126 1, dm_ald 127 0, dm_getf 130 8 6] := dr_c (dg_iconst (by decide) dX11_image_112) <| dr_c (dg_istore_n (k := 1) rfl (by decide) dX11_image_113) <| dr_c (dg_iload_n (k := 1) rfl dX11_image_114) <| dr_c (dg_sipush (by decide) dX11_image_115) <| dr_c (dg_no) <| dr_c (dg_no) <| dr_c (dg_ic_ge (by decide) dX11_image_118) <| dr_c (dg_no) <| dr_c (dg_no) <| dr_c (dg_aload_n (k := 0) rfl dX11_image_121) <| dr_c (dg_getf (T := TX11) (C := RX11) (N := 68) dX11_image_122 rfl (by decide) iw_X11 wd_996) <| dr_c (dg_no) <| dr_c (dg_no) <| dr_c (dg_iload_n (k := 1) rfl dX11_image_125) <| dr_c (dg_aload_n (k := 0) rfl dX11_image_126) <| dr_c (dg_getf (T := TX11) (C := RX11) (N := 68) dX11_image_127 rfl (by decide) iw_X11 wd_954) <| dr_n
theorem tr_205_8 : dm_AllR (dm_Good dm_tb RX11 cX11_image 2 (some .boolean) false none) 128 [dm_no, dm_no, dm_ild 131 1, dm_bald 132, dm_bast 133, dm_ald 134 0, dm_getf 137 8 49, dm_no, dm_no, dm_ild 138 1, dm_ald 139 0, dm_getf 142 8 7, dm_no, dm_no, dm_ild 143 1, dm_bald 144] := dr_c (dg_no) <| dr_c (dg_no) <| dr_c (dg_iload_n (k := 1) rfl dX11_image_130) <| dr_c (dg_bald dX11_image_131) <| dr_c (dg_bast dX11_image_132) <| dr_c (dg_aload_n (k := 0) rfl dX11_image_133) <| dr_c (dg_getf (T := TX11) (C := RX11) (N := 68) dX11_image_134 rfl (by decide) iw_X11 wd_997) <| dr_c (dg_no) <| dr_c (dg_no) <| dr_c (dg_iload_n (k := 1) rfl dX11_image_137) <| dr_c (dg_aload_n (k := 0) rfl dX11_image_138) <| dr_c (dg_getf (T := TX11) (C := RX11) (N := 68) dX11_image_139 rfl (by decide) iw_X11 wd_955) <| dr_c (dg_no) <| dr_c (dg_no) <| dr_c (dg_iload_n (k := 1) rfl dX11_image_142) <| dr_c (dg_bald dX11_image_143) <| dr_n
theorem tr_205_9 : dm_AllR (dm_Good dm_tb RX11 cX11_image 2 (some .boolean) false none) 144 [dm_bast 145, dm_ald 146 0, dm_getf 149 8 50, dm_no, dm_no, dm_ild 150 1, dm_ald 151 0, dm_getf 154 8 8, dm_no, dm_no, dm_ild 155 1, dm_bald 156, dm_bast 157, dm_ald 158 0, dm_getf 161 8 51, dm_no] := dr_c (dg_bast dX11_image_144) <| dr_c (dg_aload_n (k := 0) rfl dX11_image_145) <| dr_c (dg_getf (T := TX11) (C := RX11) (N := 68) dX11_image_146 rfl (by decide) iw_X11 wd_998) <| dr_c (dg_no) <| dr_c (dg_no) <| dr_c (dg_iload_n (k := 1) rfl dX11_image_149) <| dr_c (dg_aload_n (k := 0) rfl dX11_image_150) <| dr_c (dg_getf (T := TX11) (C := RX11) (N := 68) dX11_image_151 rfl (by decide) iw_X11 wd_956) <| dr_c (dg_no) <| dr_c (dg_no) <| dr_c (dg_iload_n (k := 1) rfl dX11_image_154) <| dr_c (dg_bald dX11_image_155) <| dr_c (dg_bast dX11_image_156) <| dr_c (dg_aload_n (k := 0) rfl dX11_image_157) <| dr_c (dg_getf (T := TX11) (C := RX11) (N := 68) dX11_image_158 rfl (by decide) iw_X11 wd_999) <| dr_c (dg_no) <| dr_n
theorem tr_205_10 : dm_AllR (dm_Good dm_tb RX11 cX11_image 2 (some .boolean) false none) 160 [dm_no, dm_ild 162 1, dm_ald 163 0, dm_getf 166 8 9, dm_no, dm_no, dm_ild 167 1, dm_bald 168, dm_bast 169, dm_ald 170 0, dm_getf 173 8 52, dm_no, dm_no, dm_ild 174 1, dm_ald 175 0, dm_getf 178 8 10] := dr_c (dg_no) <| dr_c (dg_iload_n (k := 1) rfl dX11_image_161) <| dr_c (dg_aload_n (k := 0) rfl dX11_image_162) <| dr_c (dg_getf (T := TX11) (C := RX11) (N := 68) dX11_image_163 rfl (by decide) iw_X11 wd_957) <| dr_c (dg_no) <| dr_c (dg_no) <| dr_c (dg_iload_n (k := 1) rfl dX11_image_166) <| dr_c (dg_bald dX11_image_167) <| dr_c (dg_bast dX11_image_168) <| dr_c (dg_aload_n (k := 0) rfl dX11_image_169) <| dr_c (dg_getf (T := TX11) (C := RX11) (N := 68) dX11_image_170 rfl (by decide) iw_X11 wd_1000) <| dr_c (dg_no) <| dr_c (dg_no) <| dr_c (dg_iload_n (k := 1) rfl dX11_image_173) <| dr_c (dg_aload_n (k := 0) rfl dX11_image_174) <| dr_c (dg_getf (T := TX11) (C := RX11) (N := 68) dX11_image_175 rfl (by decide) iw_X11 wd_958) <| dr_n
theorem tr_205_11 : dm_AllR (dm_Good dm_tb RX11 cX11_image 2 (some .boolean) false none) 176 [dm_no, dm_no, dm_ild 179 1, dm_sald 180, dm_sast 181, dm_ald 182 0, dm_getf 185 8 53, dm_no, dm_no, dm_ild 186 1, dm_ald 187 0, dm_getf 190 8 11, dm_no, dm_no, dm_ild 191 1, dm_sald 192] := dr_c (dg_no) <| dr_c (dg_no) <| dr_c (dg_iload_n (k := 1) rfl dX11_image_178) <| dr_c (dg_sald dX11_image_179) <| dr_c (dg_sast dX11_image_180) <| dr_c (dg_aload_n (k := 0) rfl dX11_image_181) <| dr_c (dg_getf (T := TX11) (C := RX11) (N := 68) dX11_image_182 rfl (by decide) iw_X11 wd_1001) <| dr_c (dg_no) <| dr_c (dg_no) <| dr_c (dg_iload_n (k := 1) rfl dX11_image_185) <| dr_c (dg_aload_n (k := 0) rfl dX11_image_186) <| dr_c (dg_getf (T := TX11) (C := RX11) (N := 68) dX11_image_187 rfl (by decide) iw_X11 wd_959) <| dr_c (dg_no) <| dr_c (dg_no) <| dr_c (dg_iload_n (k := 1) rfl dX11_image_190) <| dr_c (dg_sald dX11_image_191) <| dr_n
theorem tr_205_12 : dm_AllR (dm_Good dm_tb RX11 cX11_image 2 (some .boolean) false none) 192 [dm_sast 193, dm_ald 194 0, dm_getf 197 8 54, dm_no, dm_no, dm_ild 198 1, dm_ald 199 0, dm_getf 202 8 12, dm_no, dm_no, dm_ild 203 1, dm_iald 204, dm_iast 205, dm_ald 206 0, dm_getf 209 8 55, dm_no] := dr_c (dg_sast dX11_image_192) <| dr_c (dg_aload_n (k := 0) rfl dX11_image_193) <| dr_c (dg_getf (T := TX11) (C := RX11) (N := 68) dX11_image_194 rfl (by decide) iw_X11 wd_1002) <| dr_c (dg_no) <| dr_c (dg_no) <| dr_c (dg_iload_n (k := 1) rfl dX11_image_197) <| dr_c (dg_aload_n (k := 0) rfl dX11_image_198) <| dr_c (dg_getf (T := TX11) (C := RX11) (N := 68) dX11_image_199 rfl (by decide) iw_X11 wd_960) <| dr_c (dg_no) <| dr_c (dg_no) <| dr_c (dg_iload_n (k := 1) rfl dX11_image_202) <| dr_c (dg_iald dX11_image_203) <| dr_c (dg_iast dX11_image_204) <| dr_c (dg_aload_n (k := 0) rfl dX11_image_205) <| dr_c (dg_getf (T := TX11) (C := RX11) (N := 68) dX11_image_206 rfl (by decide) iw_X11 wd_1003) <| dr_c (dg_no) <| dr_n
theorem tr_205_13 : dm_AllR (dm_Good dm_tb RX11 cX11_image 2 (some .boolean) false none) 208 [dm_no, dm_ild 210 1, dm_ald 211 0, dm_getf 214 8 13, dm_no, dm_no, dm_ild 215 1, dm_iald 216, dm_iast 217, dm_iinc 220 1 1, dm_no, dm_no, dm_goto 114, dm_no, dm_no, dm_push 224 (.int 0)] := dr_c (dg_no) <| dr_c (dg_iload_n (k := 1) rfl dX11_image_209) <| dr_c (dg_aload_n (k := 0) rfl dX11_image_210) <| dr_c (dg_getf (T := TX11) (C := RX11) (N := 68) dX11_image_211 rfl (by decide) iw_X11 wd_961) <| dr_c (dg_no) <| dr_c (dg_no) <| dr_c (dg_iload_n (k := 1) rfl dX11_image_214) <| dr_c (dg_iald dX11_image_215) <| dr_c (dg_iast dX11_image_216) <| dr_c (dg_iinc (by decide) (by decide) dX11_image_217) <| dr_c (dg_no) <| dr_c (dg_no) <| dr_c (dg_goto (by decide) dX11_image_220) <| dr_c (dg_no) <| dr_c (dg_no) <| dr_c (dg_iconst (by decide) dX11_image_223) <| dr_n
theorem tr_205_14 : dm_AllR (dm_Good dm_tb RX11 cX11_image 2 (some .boolean) false none) 224 [dm_ist 225 1, dm_ild 226 1, dm_push 229 (.int 16000), dm_no, dm_no, dm_ic_ge 232 250, dm_no, dm_no, dm_ald 233 0, dm_getf 236 8 56, dm_no, dm_no, dm_ild 237 1, dm_ald 238 0, dm_getf 241 8 14, dm_no] := dr_c (dg_istore_n (k := 1) rfl (by decide) dX11_image_224) <| dr_c (dg_iload_n (k := 1) rfl dX11_image_225) <| dr_c (dg_sipush (by decide) dX11_image_226) <| dr_c (dg_no) <| dr_c (dg_no) <| dr_c (dg_ic_ge (by decide) dX11_image_229) <| dr_c (dg_no) <| dr_c (dg_no) <| dr_c (dg_aload_n (k := 0) rfl dX11_image_232) <| dr_c (dg_getf (T := TX11) (C := RX11) (N := 68) dX11_image_233 rfl (by decide) iw_X11 wd_1004) <| dr_c (dg_no) <| dr_c (dg_no) <| dr_c (dg_iload_n (k := 1) rfl dX11_image_236) <| dr_c (dg_aload_n (k := 0) rfl dX11_image_237) <| dr_c (dg_getf (T := TX11) (C := RX11) (N := 68) dX11_image_238 rfl (by decide) iw_X11 wd_962) <| dr_c (dg_no) <| dr_n
theorem tr_205_15 : dm_AllR (dm_Good dm_tb RX11 cX11_image 2 (some .boolean) false none) 240 [dm_no, dm_ild 242 1, dm_lald 243, dm_last 244, dm_iinc 247 1 1, dm_no, dm_no, dm_goto 225, dm_no, dm_no, dm_ald 251 0, dm_ald 252 0, dm_getf 255 8 15, dm_no, dm_no, dm_putf 258 8 57 .int] := dr_c (dg_no) <| dr_c (dg_iload_n (k := 1) rfl dX11_image_241) <| dr_c (dg_lald dX11_image_242) <| dr_c (dg_last dX11_image_243) <| dr_c (dg_iinc (by decide) (by decide) dX11_image_244) <| dr_c (dg_no) <| dr_c (dg_no) <| dr_c (dg_goto (by decide) dX11_image_247) <| dr_c (dg_no) <| dr_c (dg_no) <| dr_c (dg_aload_n (k := 0) rfl dX11_image_250) <| dr_c (dg_aload_n (k := 0) rfl dX11_image_251) <| dr_c (dg_getf (T := TX11) (C := RX11) (N := 68) dX11_image_252 rfl (by decide) iw_X11 wd_963) <| dr_c (dg_no) <| dr_c (dg_no) <| dr_c (dg_putf (T := TX11) (C := RX11) (N := 68) dX11_image_255 rfl (by decide) iw_X11 tyX11_ok nmX11 wd_1005 rfl rfl) <| dr_n
theorem tr_205_16 : dm_AllR (dm_Good dm_tb RX11 cX11_image 2 (some .boolean) false none) 256 [dm_no, dm_no, dm_ald 259 0, dm_ald 260 0, dm_getf 263 8 16, dm_no, dm_no, dm_putf 266 8 58 .int, dm_no, dm_no, dm_ald 267 0, dm_ald 268 0, dm_getf 271 8 17, dm_no, dm_no, dm_putf 274 8 59 .int] := dr_c (dg_no) <| dr_c (dg_no) <| dr_c (dg_aload_n (k := 0) rfl dX11_image_258) <| dr_c (dg_aload_n (k := 0) rfl dX11_image_259) <| dr_c (dg_getf (T := TX11) (C := RX11) (N := 68) dX11_image_260 rfl (by decide) iw_X11 wd_964) <| dr_c (dg_no) <| dr_c (dg_no) <| dr_c (dg_putf (T := TX11) (C := RX11) (N := 68) dX11_image_263 rfl (by decide) iw_X11 tyX11_ok nmX11 wd_1006 rfl rfl) <| dr_c (dg_no) <| dr_c (dg_no) <| dr_c (dg_aload_n (k := 0) rfl dX11_image_266) <| dr_c (dg_aload_n (k := 0) rfl dX11_image_267) <| dr_c (dg_getf (T := TX11) (C := RX11) (N := 68) dX11_image_268 rfl (by decide) iw_X11 wd_965) <| dr_c (dg_no) <| dr_c (dg_no) <| dr_c (dg_putf (T := TX11) (C := RX11) (N := 68) dX11_image_271 rfl (by decide) iw_X11 tyX11_ok nmX11 wd_1007 rfl rfl) <| dr_n
theorem tr_205_17 : dm_AllR (dm_Good dm_tb RX11 cX11_image 2 (some .boolean) false none) 272 [dm_no, dm_no, dm_push 275 (.int 1), dm_ret .boolean] := dr_c (dg_no) <| dr_c (dg_no) <| dr_c (dg_iconst (by decide) dX11_image_274) <| dr_c (dg_ret dX11_image_275) <| dr_n
theorem tk_205 : dm_AllC (dm_Good dm_tb RX11 cX11_image 2 (some .boolean) false none) 0 cd_205 := dc_c (by decide) tr_205_0 <| dc_c (by decide) tr_205_1 <| dc_c (by decide) tr_205_2 <| dc_c (by decide) tr_205_3 <| dc_c (by decide) tr_205_4 <| dc_c (by decide) tr_205_5 <| dc_c (by decide) tr_205_6 <| dc_c (by decide) tr_205_7 <| dc_c (by decide) tr_205_8 <| dc_c (by decide) tr_205_9 <| dc_c (by decide) tr_205_10 <| dc_c (by decide) tr_205_11 <| dc_c (by decide) tr_205_12 <| dc_c (by decide) tr_205_13 <| dc_c (by decide) tr_205_14 <| dc_c (by decide) tr_205_15 <| dc_c (by decide) tr_205_16 <| dc_c (by decide) tr_205_17 <| dc_n
theorem dX11_back_0 : decode cX11_back 0 = .ok (.aload_n 0, 1) := by decide +kernel
theorem dX11_back_1 : decode cX11_back 1 = .ok (.iconst 0, 1) := by decide +kernel
theorem dX11_back_2 : decode cX11_back 2 = .ok (.putfield 165, 3) := by decide +kernel
theorem dX11_back_5 : decode cX11_back 5 = .ok (.aload_n 0, 1) := by decide +kernel
theorem dX11_back_6 : decode cX11_back 6 = .ok (.getfield 381, 3) := by decide +kernel
theorem dX11_back_9 : decode cX11_back 9 = .ok (.ifCond .ne 5, 3) := by decide +kernel
theorem dX11_back_12 : decode cX11_back 12 = .ok (.iconst 0, 1) := by decide +kernel
theorem dX11_back_13 : decode cX11_back 13 = .ok (.ireturn, 1) := by decide +kernel
theorem dX11_back_14 : decode cX11_back 14 = .ok (.iconst 0, 1) := by decide +kernel
theorem dX11_back_15 : decode cX11_back 15 = .ok (.istore_n 1, 1) := by decide +kernel
theorem dX11_back_16 : decode cX11_back 16 = .ok (.iload_n 1, 1) := by decide +kernel
theorem dX11_back_17 : decode cX11_back 17 = .ok (.sipush 24000, 3) := by decide +kernel
theorem dX11_back_20 : decode cX11_back 20 = .ok (.if_icmp .ge 57, 3) := by decide +kernel
theorem dX11_back_23 : decode cX11_back 23 = .ok (.aload_n 0, 1) := by decide +kernel
theorem dX11_back_24 : decode cX11_back 24 = .ok (.getfield 9, 3) := by decide +kernel
theorem dX11_back_27 : decode cX11_back 27 = .ok (.iload_n 1, 1) := by decide +kernel
theorem dX11_back_28 : decode cX11_back 28 = .ok (.aload_n 0, 1) := by decide +kernel
theorem dX11_back_29 : decode cX11_back 29 = .ok (.getfield 111, 3) := by decide +kernel
theorem dX11_back_32 : decode cX11_back 32 = .ok (.iload_n 1, 1) := by decide +kernel
theorem dX11_back_33 : decode cX11_back 33 = .ok (.laload, 1) := by decide +kernel
theorem dX11_back_34 : decode cX11_back 34 = .ok (.lastore, 1) := by decide +kernel
theorem dX11_back_35 : decode cX11_back 35 = .ok (.aload_n 0, 1) := by decide +kernel
theorem dX11_back_36 : decode cX11_back 36 = .ok (.getfield 13, 3) := by decide +kernel
theorem dX11_back_39 : decode cX11_back 39 = .ok (.iload_n 1, 1) := by decide +kernel
theorem dX11_back_40 : decode cX11_back 40 = .ok (.aload_n 0, 1) := by decide +kernel
theorem dX11_back_41 : decode cX11_back 41 = .ok (.getfield 114, 3) := by decide +kernel
theorem dX11_back_44 : decode cX11_back 44 = .ok (.iload_n 1, 1) := by decide +kernel
theorem dX11_back_45 : decode cX11_back 45 = .ok (.iaload, 1) := by decide +kernel
theorem dX11_back_46 : decode cX11_back 46 = .ok (.iastore, 1) := by decide +kernel
theorem dX11_back_47 : decode cX11_back 47 = .ok (.aload_n 0, 1) := by decide +kernel
theorem dX11_back_48 : decode cX11_back 48 = .ok (.getfield 17, 3) := by decide +kernel
theorem dX11_back_51 : decode cX11_back 51 = .ok (.iload_n 1, 1) := by decide +kernel
theorem dX11_back_52 : decode cX11_back 52 = .ok (.aload_n 0, 1) := by decide +kernel
theorem dX11_back_53 : decode cX11_back 53 = .ok (.getfield 117, 3) := by decide +kernel
theorem dX11_back_56 : decode cX11_back 56 = .ok (.iload_n 1, 1) := by decide +kernel
theorem dX11_back_57 : decode cX11_back 57 = .ok (.laload, 1) := by decide +kernel
theorem dX11_back_58 : decode cX11_back 58 = .ok (.lastore, 1) := by decide +kernel
theorem dX11_back_59 : decode cX11_back 59 = .ok (.aload_n 0, 1) := by decide +kernel
theorem dX11_back_60 : decode cX11_back 60 = .ok (.getfield 20, 3) := by decide +kernel
theorem dX11_back_63 : decode cX11_back 63 = .ok (.iload_n 1, 1) := by decide +kernel
theorem dX11_back_64 : decode cX11_back 64 = .ok (.aload_n 0, 1) := by decide +kernel
theorem dX11_back_65 : decode cX11_back 65 = .ok (.getfield 120, 3) := by decide +kernel
theorem dX11_back_68 : decode cX11_back 68 = .ok (.iload_n 1, 1) := by decide +kernel
theorem dX11_back_69 : decode cX11_back 69 = .ok (.laload, 1) := by decide +kernel
theorem dX11_back_70 : decode cX11_back 70 = .ok (.lastore, 1) := by decide +kernel
theorem dX11_back_71 : decode cX11_back 71 = .ok (.iinc 1 1, 3) := by decide +kernel
theorem dX11_back_74 : decode cX11_back 74 = .ok (.goto (-58), 3) := by decide +kernel
theorem dX11_back_77 : decode cX11_back 77 = .ok (.iconst 0, 1) := by decide +kernel
theorem dX11_back_78 : decode cX11_back 78 = .ok (.istore_n 1, 1) := by decide +kernel
theorem dX11_back_79 : decode cX11_back 79 = .ok (.iload_n 1, 1) := by decide +kernel
theorem dX11_back_80 : decode cX11_back 80 = .ok (.sipush 1000, 3) := by decide +kernel
theorem dX11_back_83 : decode cX11_back 83 = .ok (.if_icmp .gt 33, 3) := by decide +kernel
theorem dX11_back_86 : decode cX11_back 86 = .ok (.aload_n 0, 1) := by decide +kernel
theorem dX11_back_87 : decode cX11_back 87 = .ok (.getfield 23, 3) := by decide +kernel
theorem dX11_back_90 : decode cX11_back 90 = .ok (.iload_n 1, 1) := by decide +kernel
theorem dX11_back_91 : decode cX11_back 91 = .ok (.aload_n 0, 1) := by decide +kernel
theorem dX11_back_92 : decode cX11_back 92 = .ok (.getfield 123, 3) := by decide +kernel
theorem dX11_back_95 : decode cX11_back 95 = .ok (.iload_n 1, 1) := by decide +kernel
theorem dX11_back_96 : decode cX11_back 96 = .ok (.iaload, 1) := by decide +kernel
theorem dX11_back_97 : decode cX11_back 97 = .ok (.iastore, 1) := by decide +kernel
theorem dX11_back_98 : decode cX11_back 98 = .ok (.aload_n 0, 1) := by decide +kernel
theorem dX11_back_99 : decode cX11_back 99 = .ok (.getfield 26, 3) := by decide +kernel
theorem dX11_back_102 : decode cX11_back 102 = .ok (.iload_n 1, 1) := by decide +kernel
theorem dX11_back_103 : decode cX11_back 103 = .ok (.aload_n 0, 1) := by decide +kernel
theorem dX11_back_104 : decode cX11_back 104 = .ok (.getfield 126, 3) := by decide +kernel
theorem dX11_back_107 : decode cX11_back 107 = .ok (.iload_n 1, 1) := by decide +kernel
theorem dX11_back_108 : decode cX11_back 108 = .ok (.iaload, 1) := by decide +kernel
theorem dX11_back_109 : decode cX11_back 109 = .ok (.iastore, 1) := by decide +kernel
theorem dX11_back_110 : decode cX11_back 110 = .ok (.iinc 1 1, 3) := by decide +kernel
theorem dX11_back_113 : decode cX11_back 113 = .ok (.goto (-34), 3) := by decide +kernel
theorem dX11_back_116 : decode cX11_back 116 = .ok (.iconst 0, 1) := by decide +kernel
theorem dX11_back_117 : decode cX11_back 117 = .ok (.istore_n 1, 1) := by decide +kernel
theorem dX11_back_118 : decode cX11_back 118 = .ok (.iload_n 1, 1) := by decide +kernel
theorem dX11_back_119 : decode cX11_back 119 = .ok (.sipush 1000, 3) := by decide +kernel
theorem dX11_back_122 : decode cX11_back 122 = .ok (.if_icmp .ge 105, 3) := by decide +kernel
theorem dX11_back_125 : decode cX11_back 125 = .ok (.aload_n 0, 1) := by decide +kernel
theorem dX11_back_126 : decode cX11_back 126 = .ok (.getfield 29, 3) := by decide +kernel
theorem dX11_back_129 : decode cX11_back 129 = .ok (.iload_n 1, 1) := by decide +kernel
theorem dX11_back_130 : decode cX11_back 130 = .ok (.aload_n 0, 1) := by decide +kernel
theorem dX11_back_131 : decode cX11_back 131 = .ok (.getfield 129, 3) := by decide +kernel
theorem dX11_back_134 : decode cX11_back 134 = .ok (.iload_n 1, 1) := by decide +kernel
theorem dX11_back_135 : decode cX11_back 135 = .ok (.baload, 1) := by decide +kernel
theorem dX11_back_136 : decode cX11_back 136 = .ok (.bastore, 1) := by decide +kernel
theorem dX11_back_137 : decode cX11_back 137 = .ok (.aload_n 0, 1) := by decide +kernel
theorem dX11_back_138 : decode cX11_back 138 = .ok (.getfield 33, 3) := by decide +kernel
theorem dX11_back_141 : decode cX11_back 141 = .ok (.iload_n 1, 1) := by decide +kernel
theorem dX11_back_142 : decode cX11_back 142 = .ok (.aload_n 0, 1) := by decide +kernel
theorem dX11_back_143 : decode cX11_back 143 = .ok (.getfield 132, 3) := by decide +kernel
theorem dX11_back_146 : decode cX11_back 146 = .ok (.iload_n 1, 1) := by decide +kernel
theorem dX11_back_147 : decode cX11_back 147 = .ok (.baload, 1) := by decide +kernel
theorem dX11_back_148 : decode cX11_back 148 = .ok (.bastore, 1) := by decide +kernel
theorem dX11_back_149 : decode cX11_back 149 = .ok (.aload_n 0, 1) := by decide +kernel
theorem dX11_back_150 : decode cX11_back 150 = .ok (.getfield 36, 3) := by decide +kernel
theorem dX11_back_153 : decode cX11_back 153 = .ok (.iload_n 1, 1) := by decide +kernel
theorem dX11_back_154 : decode cX11_back 154 = .ok (.aload_n 0, 1) := by decide +kernel
theorem dX11_back_155 : decode cX11_back 155 = .ok (.getfield 135, 3) := by decide +kernel
theorem dX11_back_158 : decode cX11_back 158 = .ok (.iload_n 1, 1) := by decide +kernel
theorem dX11_back_159 : decode cX11_back 159 = .ok (.baload, 1) := by decide +kernel
theorem dX11_back_160 : decode cX11_back 160 = .ok (.bastore, 1) := by decide +kernel
theorem dX11_back_161 : decode cX11_back 161 = .ok (.aload_n 0, 1) := by decide +kernel
theorem dX11_back_162 : decode cX11_back 162 = .ok (.getfield 39, 3) := by decide +kernel
theorem dX11_back_165 : decode cX11_back 165 = .ok (.iload_n 1, 1) := by decide +kernel
theorem dX11_back_166 : decode cX11_back 166 = .ok (.aload_n 0, 1) := by decide +kernel
theorem dX11_back_167 : decode cX11_back 167 = .ok (.getfield 138, 3) := by decide +kernel
theorem dX11_back_170 : decode cX11_back 170 = .ok (.iload_n 1, 1) := by decide +kernel
theorem dX11_back_171 : decode cX11_back 171 = .ok (.baload, 1) := by decide +kernel
theorem dX11_back_172 : decode cX11_back 172 = .ok (.bastore, 1) := by decide +kernel
theorem dX11_back_173 : decode cX11_back 173 = .ok (.aload_n 0, 1) := by decide +kernel
theorem dX11_back_174 : decode cX11_back 174 = .ok (.getfield 43, 3) := by decide +kernel
theorem dX11_back_177 : decode cX11_back 177 = .ok (.iload_n 1, 1) := by decide +kernel
theorem dX11_back_178 : decode cX11_back 178 = .ok (.aload_n 0, 1) := by decide +kernel
theorem dX11_back_179 : decode cX11_back 179 = .ok (.getfield 141, 3) := by decide +kernel
theorem dX11_back_182 : decode cX11_back 182 = .ok (.iload_n 1, 1) := by decide +kernel
theorem dX11_back_183 : decode cX11_back 183 = .ok (.saload, 1) := by decide +kernel
theorem dX11_back_184 : decode cX11_back 184 = .ok (.sastore, 1) := by decide +kernel
theorem dX11_back_185 : decode cX11_back 185 = .ok (.aload_n 0, 1) := by decide +kernel
theorem dX11_back_186 : decode cX11_back 186 = .ok (.getfield 47, 3) := by decide +kernel
theorem dX11_back_189 : decode cX11_back 189 = .ok (.iload_n 1, 1) := by decide +kernel
theorem dX11_back_190 : decode cX11_back 190 = .ok (.aload_n 0, 1) := by decide +kernel
theorem dX11_back_191 : decode cX11_back 191 = .ok (.getfield 144, 3) := by decide +kernel
theorem dX11_back_194 : decode cX11_back 194 = .ok (.iload_n 1, 1) := by decide +kernel
theorem dX11_back_195 : decode cX11_back 195 = .ok (.saload, 1) := by decide +kernel
theorem dX11_back_196 : decode cX11_back 196 = .ok (.sastore, 1) := by decide +kernel
theorem dX11_back_197 : decode cX11_back 197 = .ok (.aload_n 0, 1) := by decide +kernel
theorem dX11_back_198 : decode cX11_back 198 = .ok (.getfield 50, 3) := by decide +kernel
theorem dX11_back_201 : decode cX11_back 201 = .ok (.iload_n 1, 1) := by decide +kernel
theorem dX11_back_202 : decode cX11_back 202 = .ok (.aload_n 0, 1) := by decide +kernel
theorem dX11_back_203 : decode cX11_back 203 = .ok (.getfield 147, 3) := by decide +kernel
theorem dX11_back_206 : decode cX11_back 206 = .ok (.iload_n 1, 1) := by decide +kernel
theorem dX11_back_207 : decode cX11_back 207 = .ok (.iaload, 1) := by decide +kernel
theorem dX11_back_208 : decode cX11_back 208 = .ok (.iastore, 1) := by decide +kernel
theorem dX11_back_209 : decode cX11_back 209 = .ok (.aload_n 0, 1) := by decide +kernel
theorem dX11_back_210 : decode cX11_back 210 = .ok (.getfield 53, 3) := by decide +kernel
theorem dX11_back_213 : decode cX11_back 213 = .ok (.iload_n 1, 1) := by decide +kernel
theorem dX11_back_214 : decode cX11_back 214 = .ok (.aload_n 0, 1) := by decide +kernel
theorem dX11_back_215 : decode cX11_back 215 = .ok (.getfield 150, 3) := by decide +kernel
theorem dX11_back_218 : decode cX11_back 218 = .ok (.iload_n 1, 1) := by decide +kernel
theorem dX11_back_219 : decode cX11_back 219 = .ok (.iaload, 1) := by decide +kernel
theorem dX11_back_220 : decode cX11_back 220 = .ok (.iastore, 1) := by decide +kernel
theorem dX11_back_221 : decode cX11_back 221 = .ok (.iinc 1 1, 3) := by decide +kernel
theorem dX11_back_224 : decode cX11_back 224 = .ok (.goto (-106), 3) := by decide +kernel
theorem dX11_back_227 : decode cX11_back 227 = .ok (.iconst 0, 1) := by decide +kernel
theorem dX11_back_228 : decode cX11_back 228 = .ok (.istore_n 1, 1) := by decide +kernel
theorem dX11_back_229 : decode cX11_back 229 = .ok (.iload_n 1, 1) := by decide +kernel
theorem dX11_back_230 : decode cX11_back 230 = .ok (.sipush 16000, 3) := by decide +kernel
theorem dX11_back_233 : decode cX11_back 233 = .ok (.if_icmp .ge 21, 3) := by decide +kernel
theorem dX11_back_236 : decode cX11_back 236 = .ok (.aload_n 0, 1) := by decide +kernel
theorem dX11_back_237 : decode cX11_back 237 = .ok (.getfield 56, 3) := by decide +kernel
theorem dX11_back_240 : decode cX11_back 240 = .ok (.iload_n 1, 1) := by decide +kernel
theorem dX11_back_241 : decode cX11_back 241 = .ok (.aload_n 0, 1) := by decide +kernel
theorem dX11_back_242 : decode cX11_back 242 = .ok (.getfield 153, 3) := by decide +kernel
theorem dX11_back_245 : decode cX11_back 245 = .ok (.iload_n 1, 1) := by decide +kernel
theorem dX11_back_246 : decode cX11_back 246 = .ok (.laload, 1) := by decide +kernel
theorem dX11_back_247 : decode cX11_back 247 = .ok (.lastore, 1) := by decide +kernel
theorem dX11_back_248 : decode cX11_back 248 = .ok (.iinc 1 1, 3) := by decide +kernel
theorem dX11_back_251 : decode cX11_back 251 = .ok (.goto (-22), 3) := by decide +kernel
theorem dX11_back_254 : decode cX11_back 254 = .ok (.aload_n 0, 1) := by decide +kernel
theorem dX11_back_255 : decode cX11_back 255 = .ok (.aload_n 0, 1) := by decide +kernel
theorem dX11_back_256 : decode cX11_back 256 = .ok (.getfield 384, 3) := by decide +kernel
theorem dX11_back_259 : decode cX11_back 259 = .ok (.putfield 168, 3) := by decide +kernel
theorem dX11_back_262 : decode cX11_back 262 = .ok (.aload_n 0, 1) := by decide +kernel
theorem dX11_back_263 : decode cX11_back 263 = .ok (.aload_n 0, 1) := by decide +kernel
theorem dX11_back_264 : decode cX11_back 264 = .ok (.getfield 387, 3) := by decide +kernel
theorem dX11_back_267 : decode cX11_back 267 = .ok (.putfield 171, 3) := by decide +kernel
theorem dX11_back_270 : decode cX11_back 270 = .ok (.aload_n 0, 1) := by decide +kernel
theorem dX11_back_271 : decode cX11_back 271 = .ok (.aload_n 0, 1) := by decide +kernel
theorem dX11_back_272 : decode cX11_back 272 = .ok (.getfield 390, 3) := by decide +kernel
theorem dX11_back_275 : decode cX11_back 275 = .ok (.putfield 174, 3) := by decide +kernel
theorem dX11_back_278 : decode cX11_back 278 = .ok (.aload_n 0, 1) := by decide +kernel
theorem dX11_back_279 : decode cX11_back 279 = .ok (.iconst 0, 1) := by decide +kernel
theorem dX11_back_280 : decode cX11_back 280 = .ok (.putfield 177, 3) := by decide +kernel
theorem dX11_back_283 : decode cX11_back 283 = .ok (.iconst 1, 1) := by decide +kernel
theorem dX11_back_284 : decode cX11_back 284 = .ok (.ireturn, 1) := by decide +kernel
def cd_206 : dm_Code := [[dm_ald 1 0, dm_push 2 (.int 0), dm_putf 5 8 40 .int, dm_no, dm_no, dm_ald 6 0, dm_getf 9 8 41, dm_no, dm_no, dm_if_ne 12 14, dm_no, dm_no, dm_push 13 (.int 0), dm_ret .boolean, dm_push 15 (.int 0), dm_ist 16 1],
  [dm_ild 17 1, dm_push 20 (.int 24000), dm_no, dm_no, dm_ic_ge 23 77, dm_no, dm_no, dm_ald 24 0, dm_getf 27 8 0, dm_no, dm_no, dm_ild 28 1, dm_ald 29 0, dm_getf 32 8 42, dm_no, dm_no],
  [dm_ild 33 1, dm_lald 34, dm_last 35, dm_ald 36 0, dm_getf 39 8 1, dm_no, dm_no, dm_ild 40 1, dm_ald 41 0, dm_getf 44 8 43, dm_no, dm_no, dm_ild 45 1, dm_iald 46, dm_iast 47, dm_ald 48 0],
  [dm_getf 51 8 2, dm_no, dm_no, dm_ild 52 1, dm_ald 53 0, dm_getf 56 8 44, dm_no, dm_no, dm_ild 57 1, dm_lald 58, dm_last 59, dm_ald 60 0, dm_getf 63 8 3, dm_no, dm_no, dm_ild 64 1],
  [dm_ald 65 0, dm_getf 68 8 45, dm_no, dm_no, dm_ild 69 1, dm_lald 70, dm_last 71, dm_iinc 74 1 1, dm_no, dm_no, dm_goto 16, dm_no, dm_no, dm_push 78 (.int 0), dm_ist 79 1, dm_ild 80 1],
  [dm_push 83 (.int 1000), dm_no, dm_no, dm_ic_gt 86 116, dm_no, dm_no, dm_ald 87 0, dm_getf 90 8 4, dm_no, dm_no, dm_ild 91 1, dm_ald 92 0, dm_getf 95 8 46, dm_no, dm_no, dm_ild 96 1],
  [dm_iald 97, dm_iast 98, dm_ald 99 0, dm_getf 102 8 5, dm_no, dm_no, dm_ild 103 1, dm_ald 104 0, dm_getf 107 8 47, dm_no, dm_no, dm_ild 108 1, dm_iald 109, dm_iast 110, dm_iinc 113 1 1, dm_no],
  [dm_no, dm_goto 79, dm_no, dm_no, dm_push 117 (.int 0), dm_ist 118 1, dm_ild 119 1, dm_push 122 (.int 1000), dm_no, dm_no, dm_ic_ge 125 227, dm_no, dm_no, dm_ald 126 0, dm_getf 129 8 6, dm_no],
  [dm_no, dm_ild 130 1, dm_ald 131 0, dm_getf 134 8 48, dm_no, dm_no, dm_ild 135 1, dm_bald 136, dm_bast 137, dm_ald 138 0, dm_getf 141 8 7, dm_no, dm_no, dm_ild 142 1, dm_ald 143 0, dm_getf 146 8 49],
  [dm_no, dm_no, dm_ild 147 1, dm_bald 148, dm_bast 149, dm_ald 150 0, dm_getf 153 8 8, dm_no, dm_no, dm_ild 154 1, dm_ald 155 0, dm_getf 158 8 50, dm_no, dm_no, dm_ild 159 1, dm_bald 160],
  [dm_bast 161, dm_ald 162 0, dm_getf 165 8 9, dm_no, dm_no, dm_ild 166 1, dm_ald 167 0, dm_getf 170 8 51, dm_no, dm_no, dm_ild 171 1, dm_bald 172, dm_bast 173, dm_ald 174 0, dm_getf 177 8 10, dm_no],
  [dm_no, dm_ild 178 1, dm_ald 179 0, dm_getf 182 8 52, dm_no, dm_no, dm_ild 183 1, dm_sald 184, dm_sast 185, dm_ald 186 0, dm_getf 189 8 11, dm_no, dm_no, dm_ild 190 1, dm_ald 191 0, dm_getf 194 8 53],
  [dm_no, dm_no, dm_ild 195 1, dm_sald 196, dm_sast 197, dm_ald 198 0, dm_getf 201 8 12, dm_no, dm_no, dm_ild 202 1, dm_ald 203 0, dm_getf 206 8 54, dm_no, dm_no, dm_ild 207 1, dm_iald 208],
  [dm_iast 209, dm_ald 210 0, dm_getf 213 8 13, dm_no, dm_no, dm_ild 214 1, dm_ald 215 0, dm_getf 218 8 55, dm_no, dm_no, dm_ild 219 1, dm_iald 220, dm_iast 221, dm_iinc 224 1 1, dm_no, dm_no],
  [dm_goto 118, dm_no, dm_no, dm_push 228 (.int 0), dm_ist 229 1, dm_ild 230 1, dm_push 233 (.int 16000), dm_no, dm_no, dm_ic_ge 236 254, dm_no, dm_no, dm_ald 237 0, dm_getf 240 8 14, dm_no, dm_no],
  [dm_ild 241 1, dm_ald 242 0, dm_getf 245 8 56, dm_no, dm_no, dm_ild 246 1, dm_lald 247, dm_last 248, dm_iinc 251 1 1, dm_no, dm_no, dm_goto 229, dm_no, dm_no, dm_ald 255 0, dm_ald 256 0],
  [dm_getf 259 8 57, dm_no, dm_no, dm_putf 262 8 15 .int, dm_no, dm_no, dm_ald 263 0, dm_ald 264 0, dm_getf 267 8 58, dm_no, dm_no, dm_putf 270 8 16 .int, dm_no, dm_no, dm_ald 271 0, dm_ald 272 0],
  [dm_getf 275 8 59, dm_no, dm_no, dm_putf 278 8 17 .int, dm_no, dm_no, dm_ald 279 0, dm_push 280 (.int 0), dm_putf 283 8 26 .int, dm_no, dm_no, dm_push 284 (.int 1), dm_ret .boolean]]
theorem tr_206_0 : dm_AllR (dm_Good dm_tb RX11 cX11_back 2 (some .boolean) false none) 0 [dm_ald 1 0, dm_push 2 (.int 0), dm_putf 5 8 40 .int, dm_no, dm_no, dm_ald 6 0, dm_getf 9 8 41, dm_no, dm_no, dm_if_ne 12 14, dm_no, dm_no, dm_push 13 (.int 0), dm_ret .boolean, dm_push 15 (.int 0), dm_ist 16 1] := dr_c (dg_aload_n (k := 0) rfl dX11_back_0) <| dr_c (dg_iconst (by decide) dX11_back_1) <| dr_c (dg_putf (T := TX11) (C := RX11) (N := 68) dX11_back_2 rfl (by decide) iw_X11 tyX11_ok nmX11 wd_988 rfl rfl) <| dr_c (dg_no) <| dr_c (dg_no) <| dr_c (dg_aload_n (k := 0) rfl dX11_back_5) <| dr_c (dg_getf (T := TX11) (C := RX11) (N := 68) dX11_back_6 rfl (by decide) iw_X11 wd_989) <| dr_c (dg_no) <| dr_c (dg_no) <| dr_c (dg_if_ne (by decide) dX11_back_9) <| dr_c (dg_no) <| dr_c (dg_no) <| dr_c (dg_iconst (by decide) dX11_back_12) <| dr_c (dg_ret dX11_back_13) <| dr_c (dg_iconst (by decide) dX11_back_14) <| dr_c (dg_istore_n (k := 1) rfl (by decide) dX11_back_15) <| dr_n
theorem tr_206_1 : dm_AllR (dm_Good dm_tb RX11 cX11_back 2 (some .boolean) false none) 16 [dm_ild 17 1, dm_push 20 (.int 24000), dm_no, dm_no, dm_ic_ge 23 77, dm_no, dm_no, dm_ald 24 0, dm_getf 27 8 0, dm_no, dm_no, dm_ild 28 1, dm_ald 29 0, dm_getf 32 8 42, dm_no, dm_no] := dr_c (dg_iload_n (k := 1) rfl dX11_back_16) <| dr_c (dg_sipush (by decide) dX11_back_17) <| dr_c (dg_no) <| dr_c (dg_no) <| dr_c (dg_ic_ge (by decide) dX11_back_20) <| dr_c (dg_no) <| dr_c (dg_no) <| dr_c (dg_aload_n (k := 0) rfl dX11_back_23) <| dr_c (dg_getf (T := TX11) (C := RX11) (N := 68) dX11_back_24 rfl (by decide) iw_X11 wd_948) <| dr_c (dg_no) <| dr_c (dg_no) <| dr_c (dg_iload_n (k := 1) rfl dX11_back_27) <| dr_c (dg_aload_n (k := 0) rfl dX11_back_28) <| dr_c (dg_getf (T := TX11) (C := RX11) (N := 68) dX11_back_29 rfl (by decide) iw_X11 wd_990) <| dr_c (dg_no) <| dr_c (dg_no) <| dr_n
theorem tr_206_2 : dm_AllR (dm_Good dm_tb RX11 cX11_back 2 (some .boolean) false none) 32 [dm_ild 33 1, dm_lald 34, dm_last 35, dm_ald 36 0, dm_getf 39 8 1, dm_no, dm_no, dm_ild 40 1, dm_ald 41 0, dm_getf 44 8 43, dm_no, dm_no, dm_ild 45 1, dm_iald 46, dm_iast 47, dm_ald 48 0] := dr_c (dg_iload_n (k := 1) rfl dX11_back_32) <| dr_c (dg_lald dX11_back_33) <| dr_c (dg_last dX11_back_34) <| dr_c (dg_aload_n (k := 0) rfl dX11_back_35) <| dr_c (dg_getf (T := TX11) (C := RX11) (N := 68) dX11_back_36 rfl (by decide) iw_X11 wd_949) <| dr_c (dg_no) <| dr_c (dg_no) <| dr_c (dg_iload_n (k := 1) rfl dX11_back_39) <| dr_c (dg_aload_n (k := 0) rfl dX11_back_40) <| dr_c (dg_getf (T := TX11) (C := RX11) (N := 68) dX11_back_41 rfl (by decide) iw_X11 wd_991) <| dr_c (dg_no) <| dr_c (dg_no) <| dr_c (dg_iload_n (k := 1) rfl dX11_back_44) <| dr_c (dg_iald dX11_back_45) <| dr_c (dg_iast dX11_back_46) <| dr_c (dg_aload_n (k := 0) rfl dX11_back_47) <| dr_n
theorem tr_206_3 : dm_AllR (dm_Good dm_tb RX11 cX11_back 2 (some .boolean) false none) 48 [dm_getf 51 8 2, dm_no, dm_no, dm_ild 52 1, dm_ald 53 0, dm_getf 56 8 44, dm_no, dm_no, dm_ild 57 1, dm_lald 58, dm_last 59, dm_ald 60 0, dm_getf 63 8 3, dm_no, dm_no, dm_ild 64 1] := dr_c (dg_getf (T := TX11) (C := RX11) (N := 68) dX11_back_48 rfl (by decide) iw_X11 wd_950) <| dr_c (dg_no) <| dr_c (dg_no) <| dr_c (dg_iload_n (k := 1) rfl dX11_back_51) <| dr_c (dg_aload_n (k := 0) rfl dX11_back_52) <| dr_c (dg_getf (T := TX11) (C := RX11) (N := 68) dX11_back_53 rfl (by decide) iw_X11 wd_992) <| dr_c (dg_no) <| dr_c (dg_no) <| dr_c (dg_iload_n (k := 1) rfl dX11_back_56) <| dr_c (dg_lald dX11_back_57) <| dr_c (dg_last dX11_back_58) <| dr_c (dg_aload_n (k := 0) rfl dX11_back_59) <| dr_c (dg_getf (T := TX11) (C := RX11) (N := 68) dX11_back_60 rfl (by decide) iw_X11 wd_951) <| dr_c (dg_no) <| dr_c (dg_no) <| dr_c (dg_iload_n (k := 1) rfl dX11_back_63) <| dr_n
theorem tr_206_4 : dm_AllR (dm_Good dm_tb RX11 cX11_back 2 (some .boolean) false none) 64 [dm_ald 65 0, dm_getf 68 8 45, dm_no, dm_no, dm_ild 69 1, dm_lald 70, dm_last 71, dm_iinc 74 1 1, dm_no, dm_no, dm_goto 16, dm_no, dm_no, dm_push 78 (.int 0), dm_ist 79 1, dm_ild 80 1] := dr_c (dg_aload_n (k := 0) rfl dX11_back_64) <| dr_c (dg_getf (T := TX11) (C := RX11) (N := 68) dX11_back_65 rfl (by decide) iw_X11 wd_993) <| dr_c (dg_no) <| dr_c (dg_no) <| dr_c (dg_iload_n (k := 1) rfl dX11_back_68) <| dr_c (dg_lald dX11_back_69) <| dr_c (dg_last dX11_back_70) <| dr_c (dg_iinc (by decide) (by decide) dX11_back_71) <| dr_c (dg_no) <| dr_c (dg_no) <| dr_c (dg_goto (by decide) dX11_back_74) <| dr_c (dg_no) <| dr_c (dg_no) <| dr_c (dg_iconst (by decide) dX11_back_77) <| dr_c (dg_istore_n (k := 1) rfl (by decide) dX11_back_78) <| dr_c (dg_iload_n (k := 1) rfl dX11_back_79) <| dr_n
theorem tr_206_5 : dm_AllR (dm_Good dm_tb RX11 cX11_back 2 (some .boolean) false none) 80 [dm_push 83 (.int 1000), dm_no, dm_no, dm_ic_gt 86 116, dm_no, dm_no, dm_ald 87 0, dm_getf 90 8 4, dm_no, dm_no, dm_ild 91 1, dm_ald 92 0, dm_getf 95 8 46, dm_no, dm_no, dm_ild 96 1] := dr_c (dg_sipush (by decide) dX11_back_80) <| dr_c (dg_no) <| dr_c (dg_no) <| dr_c (dg_ic_gt (by decide) dX11_back_83) <| dr_c (dg_no) <| dr_c (dg_no) <| dr_c (dg_aload_n (k := 0) rfl dX11_back_86) <| dr_c (dg_getf (T := TX11) (C := RX11) (N := 68) dX11_back_87 rfl (by decide) iw_X11 wd_952) <| dr_c (dg_no) <| dr_c (dg_no) <| dr_c (dg_iload_n (k := 1) rfl dX11_back_90) <| dr_c (dg_aload_n (k := 0) rfl dX11_back_91) <| dr_c (dg_getf (T := TX11) (C := RX11) (N := 68) dX11_back_92 rfl (by decide) iw_X11 wd_994) <| dr_c (dg_no) <| dr_c (dg_no) <| dr_c (dg_iload_n (k := 1) rfl dX11_back_95) <| dr_n
theorem tr_206_6 : dm_AllR (dm_Good dm_tb RX11 cX11_back 2 (some .boolean) false none) 96 [dm_iald 97, dm_iast 98, dm_ald 99 0, dm_getf 102 8 5, dm_no, dm_no, dm_ild 103 1, dm_ald 104 0, dm_getf 107 8 47, dm_no, dm_no, dm_ild 108 1, dm_iald 109, dm_iast 110, dm_iinc 113 1 1, dm_no] := dr_c (dg_iald dX11_back_96) <| dr_c (dg_iast dX11_back_97) <| dr_c (dg_aload_n (k := 0) rfl dX11_back_98) <| dr_c (dg_getf (T := TX11) (C := RX11) (N := 68) dX11_back_99 rfl (by decide) iw_X11 wd_953) <| dr_c (dg_no) <| dr_c (dg_no) <| dr_c (dg_iload_n (k := 1) rfl dX11_back_102) <| dr_c (dg_aload_n (k := 0) rfl dX11_back_103) <| dr_c (dg_getf (T := TX11) (C := RX11) (N := 68) dX11_back_104 rfl (by decide) iw_X11 wd_995) <| dr_c (dg_no) <| dr_c (dg_no) <| dr_c (dg_iload_n (k := 1) rfl dX11_back_107) <| dr_c (dg_iald dX11_back_108) <| dr_c (dg_iast dX11_back_109) <| dr_c (dg_iinc (by decide) (by decide) dX11_back_110) <| dr_c (dg_no) <| dr_n
theorem tr_206_7 : dm_AllR (dm_Good dm_tb RX11 cX11_back 2 (some .boolean) false none) 112 [dm_no, dm_goto 79, dm_no, dm_no, dm_push 117 (.int 0), dm_ist 118 1, dm_ild 119 1, dm_push 122 (.int 1000), dm_no, dm_no, dm_ic_ge 125 227, dm_no, dm_no, dm_ald 126 0, dm_getf 129 8 6, dm_no] := dr_c (dg_no) <| dr_c (dg_goto (by decide) dX11_back_113) <| dr_c (dg_no) <| dr_c (dg_no) <| dr_c (dg_iconst (by decide) dX11_back_116) <| dr_c (dg_istore_n (k := 1) rfl (by decide) dX11_back_117) <| dr_c (dg_iload_n (k := 1) rfl dX11_back_118) <| dr_c (dg_sipush (by decide) dX11_back_119) <| dr_c (dg_no) <| dr_c (dg_no) <| dr_c (dg_ic_ge (by decide) dX11_back_122) <| dr_c (dg_no) <| dr_c (dg_no) <| dr_c (dg_aload_n (k := 0) rfl dX11_back_125) <| dr_c (dg_getf (T := TX11) (C := RX11) (N := 68) dX11_back_126 rfl (by decide) iw_X11 wd_954) <| dr_c (dg_no) <| dr_n
theorem tr_206_8 : dm_AllR (dm_Good dm_tb RX11 cX11_back 2 (some .boolean) false none) 128 [dm_no, dm_ild 130 1, dm_ald 131 0, dm_getf 134 8 48, dm_no, dm_no, dm_ild 135 1, dm_bald 136, dm_bast 137, dm_ald 138 0, dm_getf 141 8 7, dm_no, dm_no, dm_ild 142 1, dm_ald 143 0, dm_getf 146 8 49] := dr_c (dg_no) <| dr_c (dg_iload_n (k := 1) rfl dX11_back_129) <| dr_c (dg_aload_n (k := 0) rfl dX11_back_130) <| dr_c (dg_getf (T := TX11) (C := RX11) (N := 68) dX11_back_131 rfl (by decide) iw_X11 wd_996) <| dr_c (dg_no) <| dr_c (dg_no) <| dr_c (dg_iload_n (k := 1) rfl dX11_back_134) <| dr_c (dg_bald dX11_back_135) <| dr_c (dg_bast dX11_back_136) <| dr_c (dg_aload_n (k := 0) rfl dX11_back_137) <| dr_c (dg_getf (T := TX11) (C := RX11) (N := 68) dX11_back_138 rfl (by decide) iw_X11 wd_955) <| dr_c (dg_no) <| dr_c (dg_no) <| dr_c (dg_iload_n (k := 1) rfl dX11_back_141) <| dr_c (dg_aload_n (k := 0) rfl dX11_back_142) <| dr_c (dg_getf (T := TX11) (C := RX11) (N := 68) dX11_back_143 rfl (by decide) iw_X11 wd_997) <| dr_n
theorem tr_206_9 : dm_AllR (dm_Good dm_tb RX11 cX11_back 2 (some .boolean) false none) 144 [dm_no, dm_no, dm_ild 147 1, dm_bald 148, dm_bast 149, dm_ald 150 0, dm_getf 153 8 8, dm_no, dm_no, dm_ild 154 1, dm_ald 155 0, dm_getf 158 8 50, dm_no, dm_no, dm_ild 159 1, dm_bald 160] := dr_c (dg_no) <| dr_c (dg_no) <| dr_c (dg_iload_n (k := 1) rfl dX11_back_146) <| dr_c (dg_bald dX11_back_147) <| dr_c (dg_bast dX11_back_148) <| dr_c (dg_aload_n (k := 0) rfl dX11_back_149) <| dr_c (dg_getf (T := TX11) (C := RX11) (N := 68) dX11_back_150 rfl (by decide) iw_X11 wd_956) <| dr_c (dg_no) <| dr_c (dg_no) <| dr_c (dg_iload_n (k := 1) rfl dX11_back_153) <| dr_c (dg_aload_n (k := 0) rfl dX11_back_154) <| dr_c (dg_getf (T := TX11) (C := RX11) (N := 68) dX11_back_155 rfl (by decide) iw_X11 wd_998) <| dr_c (dg_no) <| dr_c (dg_no) <| dr_c (dg_iload_n (k := 1) rfl dX11_back_158) <| dr_c (dg_bald dX11_back_159) <| dr_n
theorem tr_206_10 : dm_AllR (dm_Good dm_tb RX11 cX11_back 2 (some .boolean) false none) 160 [dm_bast 161, dm_ald 162 0, dm_getf 165 8 9, dm_no, dm_no, dm_ild 166 1, dm_ald 167 0, dm_getf 170 8 51, dm_no, dm_no, dm_ild 171 1, dm_bald 172, dm_bast 173, dm_ald 174 0, dm_getf 177 8 10, dm_no] := dr_c (dg_bast dX11_back_160) <| dr_c (dg_aload_n (k := 0) rfl dX11_back_161) <| dr_c (dg_getf (T := TX11) (C := RX11) (N := 68) dX11_back_162 rfl (by decide) iw_X11 wd_957) <| dr_c (dg_no) <| dr_c (dg_no) <| dr_c (dg_iload_n (k := 1) rfl dX11_back_165) <| dr_c (dg_aload_n (k := 0) rfl dX11_back_166) <| dr_c (dg_getf (T := TX11) (C := RX11) (N := 68) dX11_back_167 rfl (by decide) iw_X11 wd_999) <| dr_c (dg_no) <| dr_c (dg_no) <| dr_c (dg_iload_n (k := 1) rfl dX11_back_170) <| dr_c (dg_bald dX11_back_171) <| dr_c (dg_bast dX11_back_172) <| dr_c (dg_aload_n (k := 0) rfl dX11_back_173) <| dr_c (dg_getf (T := TX11) (C := RX11) (N := 68) dX11_back_174 rfl (by decide) iw_X11 wd_958) <| dr_c (dg_no) <| dr_n
theorem tr_206_11 : dm_AllR (dm_Good dm_tb RX11 cX11_back 2 (some .boolean) false none) 176 [dm_no, dm_ild 178 1, dm_ald 179 0, dm_getf 182 8 52, dm_no, dm_no, dm_ild 183 1, dm_sald 184, dm_sast 185, dm_ald 186 0, dm_getf 189 8 11, dm_no, dm_no, dm_ild 190 1, dm_ald 191 0, dm_getf 194 8 53] := dr_c (dg_no) <| dr_c (dg_iload_n (k := 1) rfl dX11_back_177) <| dr_c (dg_aload_n (k := 0) rfl dX11_back_178) <| dr_c (dg_getf (T := TX11) (C := RX11) (N := 68) dX11_back_179 rfl (by decide) iw_X11 wd_1000) <| dr_c (dg_no) <| dr_c (dg_no) <| dr_c (dg_iload_n (k := 1) rfl dX11_back_182) <| dr_c (dg_sald dX11_back_183) <| dr_c (dg_sast dX11_back_184) <| dr_c (dg_aload_n (k := 0) rfl dX11_back_185) <| dr_c (dg_getf (T := TX11) (C := RX11) (N := 68) dX11_back_186 rfl (by decide) iw_X11 wd_959) <| dr_c (dg_no) <| dr_c (dg_no) <| dr_c (dg_iload_n (k := 1) rfl dX11_back_189) <| dr_c (dg_aload_n (k := 0) rfl dX11_back_190) <| dr_c (dg_getf (T := TX11) (C := RX11) (N := 68) dX11_back_191 rfl (by decide) iw_X11 wd_1001) <| dr_n
theorem tr_206_12 : dm_AllR (dm_Good dm_tb RX11 cX11_back 2 (some .boolean) false none) 192 [dm_no, dm_no, dm_ild 195 1, dm_sald 196, dm_sast 197, dm_ald 198 0, dm_getf 201 8 12, dm_no, dm_no, dm_ild 202 1, dm_ald 203 0, dm_getf 206 8 54, dm_no, dm_no, dm_ild 207 1, dm_iald 208] := dr_c (dg_no) <| dr_c (dg_no) <| dr_c (dg_iload_n (k := 1) rfl dX11_back_194) <| dr_c (dg_sald dX11_back_195) <| dr_c (dg_sast dX11_back_196) <| dr_c (dg_aload_n (k := 0) rfl dX11_back_197) <| dr_c (dg_getf (T := TX11) (C := RX11) (N := 68) dX11_back_198 rfl (by decide) iw_X11 wd_960) <| dr_c (dg_no) <| dr_c (dg_no) <| dr_c (dg_iload_n (k := 1) rfl dX11_back_201) <| dr_c (dg_aload_n (k := 0) rfl dX11_back_202) <| dr_c (dg_getf (T := TX11) (C := RX11) (N := 68) dX11_back_203 rfl (by decide) iw_X11 wd_1002) <| dr_c (dg_no) <| dr_c (dg_no) <| dr_c (dg_iload_n (k := 1) rfl dX11_back_206) <| dr_c (dg_iald dX11_back_207) <| dr_n
theorem tr_206_13 : dm_AllR (dm_Good dm_tb RX11 cX11_back 2 (some .boolean) false none) 208 [dm_iast 209, dm_ald 210 0, dm_getf 213 8 13, dm_no, dm_no, dm_ild 214 1, dm_ald 215 0, dm_getf 218 8 55, dm_no, dm_no, dm_ild 219 1, dm_iald 220, dm_iast 221, dm_iinc 224 1 1, dm_no, dm_no] := dr_c (dg_iast dX11_back_208) <| dr_c (dg_aload_n (k := 0) rfl dX11_back_209) <| dr_c (dg_getf (T := TX11) (C := RX11) (N := 68) dX11_back_210 rfl (by decide) iw_X11 wd_961) <| dr_c (dg_no) <| dr_c (dg_no) <| dr_c (dg_iload_n (k := 1) rfl dX11_back_213) <| dr_c (dg_aload_n (k := 0) rfl dX11_back_214) <| dr_c (dg_getf (T := TX11) (C := RX11) (N := 68) dX11_back_215 rfl (by decide) iw_X11 wd_1003) <| dr_c (dg_no) <| dr_c (dg_no) <| dr_c (dg_iload_n (k := 1) rfl dX11_back_218) <| dr_c (dg_iald dX11_back_219) <| dr_c (dg_iast dX11_back_220) <| dr_c (dg_iinc (by decide) (by decide) dX11_back_221) <| dr_c (dg_no) <| dr_c (dg_no) <| dr_n
theorem tr_206_14 : dm_AllR (dm_Good dm_tb RX11 cX11_back 2 (some .boolean) false none) 224 [dm_goto 118, dm_no, dm_no, dm_push 228 (.int 0), dm_ist 229 1, dm_ild 230 1, dm_push 233 (.int 16000), dm_no, dm_no, dm_ic_ge 236 254, dm_no, dm_no, dm_ald 237 0, dm_getf 240 8 14, dm_no, dm_no] := dr_c (dg_goto (by decide) dX11_back_224) <| dr_c (dg_no) <| dr_c (dg_no) <| dr_c (dg_iconst (by decide) dX11_back_227) <| dr_c (dg_istore_n (k := 1) rfl (by decide) dX11_back_228) <| dr_c (dg_iload_n (k := 1) rfl dX11_back_229) <| dr_c (dg_sipush (by decide) dX11_back_230) <| dr_c (dg_no) <| dr_c (dg_no) <| dr_c (dg_ic_ge (by decide) dX11_back_233) <| dr_c (dg_no) <| dr_c (dg_no) <| dr_c (dg_aload_n (k := 0) rfl dX11_back_236) <| dr_c (dg_getf (T := TX11) (C := RX11) (N := 68) dX11_back_237 rfl (by decide) iw_X11 wd_962) <| dr_c (dg_no) <| dr_c (dg_no) <| dr_n
theorem tr_206_15 : dm_AllR (dm_Good dm_tb RX11 cX11_back 2 (some .boolean) false none) 240 [dm_ild 241 1, dm_ald 242 0, dm_getf 245 8 56, dm_no, dm_no, dm_ild 246 1, dm_lald 247, dm_last 248, dm_iinc 251 1 1, dm_no, dm_no, dm_goto 229, dm_no, dm_no, dm_ald 255 0, dm_ald 256 0] := dr_c (dg_iload_n (k := 1) rfl dX11_back_240) <| dr_c (dg_aload_n (k := 0) rfl dX11_back_241) <| dr_c (dg_getf (T := TX11) (C := RX11) (N := 68) dX11_back_242 rfl (by decide) iw_X11 wd_1004) <| dr_c (dg_no) <| dr_c (dg_no) <| dr_c (dg_iload_n (k := 1) rfl dX11_back_245) <| dr_c (dg_lald dX11_back_246) <| dr_c (dg_last dX11_back_247) <| dr_c (dg_iinc (by decide) (by decide) dX11_back_248) <| dr_c (dg_no) <| dr_c (dg_no) <| dr_c (dg_goto (by decide) dX11_back_251) <| dr_c (dg_no) <| dr_c (dg_no) <| dr_c (dg_aload_n (k := 0) rfl dX11_back_254) <| dr_c (dg_aload_n (k := 0) rfl dX11_back_255) <| dr_n
theorem tr_206_16 : dm_AllR (dm_Good dm_tb RX11 cX11_back 2 (some .boolean) false none) 256 [dm_getf 259 8 57, dm_no, dm_no, dm_putf 262 8 15 .int, dm_no, dm_no, dm_ald 263 0, dm_ald 264 0, dm_getf 267 8 58, dm_no, dm_no, dm_putf 270 8 16 .int, dm_no, dm_no, dm_ald 271 0, dm_ald 272 0] := dr_c (dg_getf (T := TX11) (C := RX11) (N := 68) dX11_back_256 rfl (by decide) iw_X11 wd_1005) <| dr_c (dg_no) <| dr_c (dg_no) <| dr_c (dg_putf (T := TX11) (C := RX11) (N := 68) dX11_back_259 rfl (by decide) iw_X11 tyX11_ok nmX11 wd_963 rfl rfl) <| dr_c (dg_no) <| dr_c (dg_no) <| dr_c (dg_aload_n (k := 0) rfl dX11_back_262) <| dr_c (dg_aload_n (k := 0) rfl dX11_back_263) <| dr_c (dg_getf (T := TX11) (C := RX11) (N := 68) dX11_back_264 rfl (by decide) iw_X11 wd_1006) <| dr_c (dg_no) <| dr_c (dg_no) <| dr_c (dg_putf (T := TX11) (C := RX11) (N := 68) dX11_back_267 rfl (by decide) iw_X11 tyX11_ok nmX11 wd_964 rfl rfl) <| dr_c (dg_no) <| dr_c (dg_no) <| dr_c (dg_aload_n (k := 0) rfl dX11_back_270) <| dr_c (dg_aload_n (k := 0) rfl dX11_back_271) <| dr_n
theorem tr_206_17 : dm_AllR (dm_Good dm_tb RX11 cX11_back 2 (some .boolean) false none) 272 [dm_getf 275 8 59, dm_no, dm_no, dm_putf 278 8 17 .int, dm_no, dm_no, dm_ald 279 0, dm_push 280 (.int 0), dm_putf 283 8 26 .int, dm_no, dm_no, dm_push 284 (.int 1), dm_ret .boolean] := dr_c (dg_getf (T := TX11) (C := RX11) (N := 68) dX11_back_272 rfl (by decide) iw_X11 wd_1007) <| dr_c (dg_no) <| dr_c (dg_no) <| dr_c (dg_putf (T := TX11) (C := RX11) (N := 68) dX11_back_275 rfl (by decide) iw_X11 tyX11_ok nmX11 wd_965 rfl rfl) <| dr_c (dg_no) <| dr_c (dg_no) <| dr_c (dg_aload_n (k := 0) rfl dX11_back_278) <| dr_c (dg_iconst (by decide) dX11_back_279) <| dr_c (dg_putf (T := TX11) (C := RX11) (N := 68) dX11_back_280 rfl (by decide) iw_X11 tyX11_ok nmX11 wd_974 rfl rfl) <| dr_c (dg_no) <| dr_c (dg_no) <| dr_c (dg_iconst (by decide) dX11_back_283) <| dr_c (dg_ret dX11_back_284) <| dr_n
theorem tk_206 : dm_AllC (dm_Good dm_tb RX11 cX11_back 2 (some .boolean) false none) 0 cd_206 := dc_c (by decide) tr_206_0 <| dc_c (by decide) tr_206_1 <| dc_c (by decide) tr_206_2 <| dc_c (by decide) tr_206_3 <| dc_c (by decide) tr_206_4 <| dc_c (by decide) tr_206_5 <| dc_c (by decide) tr_206_6 <| dc_c (by decide) tr_206_7 <| dc_c (by decide) tr_206_8 <| dc_c (by decide) tr_206_9 <| dc_c (by decide) tr_206_10 <| dc_c (by decide) tr_206_11 <| dc_c (by decide) tr_206_12 <| dc_c (by decide) tr_206_13 <| dc_c (by decide) tr_206_14 <| dc_c (by decide) tr_206_15 <| dc_c (by decide) tr_206_16 <| dc_c (by decide) tr_206_17 <| dc_n
theorem dX11_count_0 : decode cX11_count 0 = .ok (.aload_n 0, 1) := by decide +kernel
theorem dX11_count_1 : decode cX11_count 1 = .ok (.iconst 0, 1) := by decide +kernel
theorem dX11_count_2 : decode cX11_count 2 = .ok (.putfield 165, 3) := by decide +kernel
theorem dX11_count_5 : decode cX11_count 5 = .ok (.iconst 0, 1) := by decide +kernel
theorem dX11_count_6 : decode cX11_count 6 = .ok (.istore_n 2, 1) := by decide +kernel
theorem dX11_count_7 : decode cX11_count 7 = .ok (.iload_n 1, 1) := by decide +kernel
theorem dX11_count_8 : decode cX11_count 8 = .ok (.tableswitch 137 0 6 #[44, 49, 87, 117, 122, 127, 132], 44) := by decide +kernel
theorem dX11_count_52 : decode cX11_count 52 = .ok (.aload_n 0, 1) := by decide +kernel
theorem dX11_count_53 : decode cX11_count 53 = .ok (.getfield 168, 3) := by decide +kernel
theorem dX11_count_56 : decode cX11_count 56 = .ok (.ireturn, 1) := by decide +kernel
theorem dX11_count_57 : decode cX11_count 57 = .ok (.iconst 0, 1) := by decide +kernel
theorem dX11_count_58 : decode cX11_count 58 = .ok (.istore_n 3, 1) := by decide +kernel
theorem dX11_count_59 : decode cX11_count 59 = .ok (.iload_n 3, 1) := by decide +kernel
theorem dX11_count_60 : decode cX11_count 60 = .ok (.aload_n 0, 1) := by decide +kernel
theorem dX11_count_61 : decode cX11_count 61 = .ok (.getfield 168, 3) := by decide +kernel
theorem dX11_count_64 : decode cX11_count 64 = .ok (.if_icmp .ge 29, 3) := by decide +kernel
theorem dX11_count_67 : decode cX11_count 67 = .ok (.aload_n 0, 1) := by decide +kernel
theorem dX11_count_68 : decode cX11_count 68 = .ok (.getfield 29, 3) := by decide +kernel
theorem dX11_count_71 : decode cX11_count 71 = .ok (.iload_n 3, 1) := by decide +kernel
theorem dX11_count_72 : decode cX11_count 72 = .ok (.baload, 1) := by decide +kernel
theorem dX11_count_73 : decode cX11_count 73 = .ok (.ifCond .eq 14, 3) := by decide +kernel
theorem dX11_count_76 : decode cX11_count 76 = .ok (.aload_n 0, 1) := by decide +kernel
theorem dX11_count_77 : decode cX11_count 77 = .ok (.iload_n 3, 1) := by decide +kernel
theorem dX11_count_78 : decode cX11_count 78 = .ok (.invokevirtual 229, 3) := by decide +kernel
theorem dX11_count_81 : decode cX11_count 81 = .ok (.ifCond .eq 6, 3) := by decide +kernel
theorem dX11_count_84 : decode cX11_count 84 = .ok (.iinc 2 1, 3) := by decide +kernel
theorem dX11_count_87 : decode cX11_count 87 = .ok (.iinc 3 1, 3) := by decide +kernel
theorem dX11_count_90 : decode cX11_count 90 = .ok (.goto (-31), 3) := by decide +kernel
theorem dX11_count_93 : decode cX11_count 93 = .ok (.iload_n 2, 1) := by decide +kernel
theorem dX11_count_94 : decode cX11_count 94 = .ok (.ireturn, 1) := by decide +kernel
theorem dX11_count_95 : decode cX11_count 95 = .ok (.iconst 0, 1) := by decide +kernel
theorem dX11_count_96 : decode cX11_count 96 = .ok (.istore_n 3, 1) := by decide +kernel
theorem dX11_count_97 : decode cX11_count 97 = .ok (.iload_n 3, 1) := by decide +kernel
theorem dX11_count_98 : decode cX11_count 98 = .ok (.aload_n 0, 1) := by decide +kernel
theorem dX11_count_99 : decode cX11_count 99 = .ok (.getfield 168, 3) := by decide +kernel
theorem dX11_count_102 : decode cX11_count 102 = .ok (.if_icmp .ge 21, 3) := by decide +kernel
theorem dX11_count_105 : decode cX11_count 105 = .ok (.aload_n 0, 1) := by decide +kernel
theorem dX11_count_106 : decode cX11_count 106 = .ok (.getfield 33, 3) := by decide +kernel
theorem dX11_count_109 : decode cX11_count 109 = .ok (.iload_n 3, 1) := by decide +kernel
theorem dX11_count_110 : decode cX11_count 110 = .ok (.baload, 1) := by decide +kernel
theorem dX11_count_111 : decode cX11_count 111 = .ok (.ifCond .eq 6, 3) := by decide +kernel
theorem dX11_count_114 : decode cX11_count 114 = .ok (.iinc 2 1, 3) := by decide +kernel
theorem dX11_count_117 : decode cX11_count 117 = .ok (.iinc 3 1, 3) := by decide +kernel
theorem dX11_count_120 : decode cX11_count 120 = .ok (.goto (-23), 3) := by decide +kernel
theorem dX11_count_123 : decode cX11_count 123 = .ok (.iload_n 2, 1) := by decide +kernel
theorem dX11_count_124 : decode cX11_count 124 = .ok (.ireturn, 1) := by decide +kernel
theorem dX11_count_125 : decode cX11_count 125 = .ok (.aload_n 0, 1) := by decide +kernel
theorem dX11_count_126 : decode cX11_count 126 = .ok (.getfield 171, 3) := by decide +kernel
theorem dX11_count_129 : decode cX11_count 129 = .ok (.ireturn, 1) := by decide +kernel
theorem dX11_count_130 : decode cX11_count 130 = .ok (.aload_n 0, 1) := by decide +kernel
theorem dX11_count_131 : decode cX11_count 131 = .ok (.getfield 174, 3) := by decide +kernel
theorem dX11_count_134 : decode cX11_count 134 = .ok (.ireturn, 1) := by decide +kernel
theorem dX11_count_135 : decode cX11_count 135 = .ok (.aload_n 0, 1) := by decide +kernel
theorem dX11_count_136 : decode cX11_count 136 = .ok (.getfield 352, 3) := by decide +kernel
theorem dX11_count_139 : decode cX11_count 139 = .ok (.ireturn, 1) := by decide +kernel
theorem dX11_count_140 : decode cX11_count 140 = .ok (.aload_n 0, 1) := by decide +kernel
theorem dX11_count_141 : decode cX11_count 141 = .ok (.getfield 177, 3) := by decide +kernel
theorem dX11_count_144 : decode cX11_count 144 = .ok (.ireturn, 1) := by decide +kernel
theorem dX11_count_145 : decode cX11_count 145 = .ok (.iconst (-1), 1) := by decide +kernel
theorem dX11_count_146 : decode cX11_count 146 = .ok (.ireturn, 1) := by decide +kernel
def cd_207 : dm_Code := [[dm_ald 1 0, dm_push 2 (.int 0), dm_putf 5 8 40 .int, dm_no, dm_no, dm_push 6 (.int 0), dm_ist 7 2, dm_ild 8 1, dm_tsw 0 6 145 [52, 57, 95, 125, 130, 135, 140], dm_no, dm_no, dm_no, dm_no, dm_no, dm_no, dm_no],
  [dm_no, dm_no, dm_no, dm_no, dm_no, dm_no, dm_no, dm_no, dm_no, dm_no, dm_no, dm_no, dm_no, dm_no, dm_no, dm_no],
  [dm_no, dm_no, dm_no, dm_no, dm_no, dm_no, dm_no, dm_no, dm_no, dm_no, dm_no, dm_no, dm_no, dm_no, dm_no, dm_no],
  [dm_no, dm_no, dm_no, dm_no, dm_ald 53 0, dm_getf 56 8 15, dm_no, dm_no, dm_ret .int, dm_push 58 (.int 0), dm_ist 59 3, dm_ild 60 3, dm_ald 61 0, dm_getf 64 8 15, dm_no, dm_no],
  [dm_ic_ge 67 93, dm_no, dm_no, dm_ald 68 0, dm_getf 71 8 6, dm_no, dm_no, dm_ild 72 3, dm_bald 73, dm_if_eq 76 87, dm_no, dm_no, dm_ald 77 0, dm_ild 78 3, dm_inv 81 138 1 8, dm_no],
  [dm_no, dm_if_eq 84 87, dm_no, dm_no, dm_iinc 87 2 1, dm_no, dm_no, dm_iinc 90 3 1, dm_no, dm_no, dm_goto 59, dm_no, dm_no, dm_ild 94 2, dm_ret .int, dm_push 96 (.int 0)],
  [dm_ist 97 3, dm_ild 98 3, dm_ald 99 0, dm_getf 102 8 15, dm_no, dm_no, dm_ic_ge 105 123, dm_no, dm_no, dm_ald 106 0, dm_getf 109 8 7, dm_no, dm_no, dm_ild 110 3, dm_bald 111, dm_if_eq 114 117],
  [dm_no, dm_no, dm_iinc 117 2 1, dm_no, dm_no, dm_iinc 120 3 1, dm_no, dm_no, dm_goto 97, dm_no, dm_no, dm_ild 124 2, dm_ret .int, dm_ald 126 0, dm_getf 129 8 16, dm_no],
  [dm_no, dm_ret .int, dm_ald 131 0, dm_getf 134 8 17, dm_no, dm_no, dm_ret .int, dm_ald 136 0, dm_getf 139 8 36, dm_no, dm_no, dm_ret .int, dm_ald 141 0, dm_getf 144 8 26, dm_no, dm_no],
  [dm_ret .int, dm_push 146 (.int (-1)), dm_ret .int]]
theorem tr_207_0 : dm_AllR (dm_Good dm_tb RX11 cX11_count 4 (some .int) false none) 0 [dm_ald 1 0, dm_push 2 (.int 0), dm_putf 5 8 40 .int, dm_no, dm_no, dm_push 6 (.int 0), dm_ist 7 2, dm_ild 8 1, dm_tsw 0 6 145 [52, 57, 95, 125, 130, 135, 140], dm_no, dm_no, dm_no, dm_no, dm_no, dm_no, dm_no] := dr_c (dg_aload_n (k := 0) rfl dX11_count_0) <| dr_c (dg_iconst (by decide) dX11_count_1) <| dr_c (dg_putf (T := TX11) (C := RX11) (N := 68) dX11_count_2 rfl (by decide) iw_X11 tyX11_ok nmX11 wd_988 rfl rfl) <| dr_c (dg_no) <| dr_c (dg_no) <| dr_c (dg_iconst (by decide) dX11_count_5) <| dr_c (dg_istore_n (k := 2) rfl (by decide) dX11_count_6) <| dr_c (dg_iload_n (k := 1) rfl dX11_count_7) <| dr_c (dg_tsw dX11_count_8 (by decide) (by decide)) <| dr_c (dg_no) <| dr_c (dg_no) <| dr_c (dg_no) <| dr_c (dg_no) <| dr_c (dg_no) <| dr_c (dg_no) <| dr_c (dg_no) <| dr_n
theorem tr_207_1 : dm_AllR (dm_Good dm_tb RX11 cX11_count 4 (some .int) false none) 16 [dm_no, dm_no, dm_no, dm_no, dm_no, dm_no, dm_no, dm_no, dm_no, dm_no, dm_no, dm_no, dm_no, dm_no, dm_no, dm_no] := dr_c (dg_no) <| dr_c (dg_no) <| dr_c (dg_no) <| dr_c (dg_no) <| dr_c (dg_no) <| dr_c (dg_no) <| dr_c (dg_no) <| dr_c (dg_no) <| dr_c (dg_no) <| dr_c (dg_no) <| dr_c (dg_no) <| dr_c (dg_no) <| dr_c (dg_no) <| dr_c (dg_no) <| dr_c (dg_no) <| dr_c (dg_no) <| dr_n
theorem tr_207_2 : dm_AllR (dm_Good dm_tb RX11 cX11_count 4 (some .int) false none) 32 [dm_no, dm_no, dm_no, dm_no, dm_no, dm_no, dm_no, dm_no, dm_no, dm_no, dm_no, dm_no, dm_no, dm_no, dm_no, dm_no] := dr_c (dg_no) <| dr_c (dg_no) <| dr_c (dg_no) <| dr_c (dg_no) <| dr_c (dg_no) <| dr_c (dg_no) <| dr_c (dg_no) <| dr_c (dg_no) <| dr_c (dg_no) <| dr_c (dg_no) <| dr_c (dg_no) <| dr_c (dg_no) <| dr_c (dg_no) <| dr_c (dg_no) <| dr_c (dg_no) <| dr_c (dg_no) <| dr_n
theorem tr_207_3 : dm_AllR (dm_Good dm_tb RX11 cX11_count 4 (some .int) false none) 48 [dm_no, dm_no, dm_no, dm_no, dm_ald 53 0, dm_getf 56 8 15, dm_no, dm_no, dm_ret .int, dm_push 58 (.int 0), dm_ist 59 3, dm_ild 60 3, dm_ald 61 0, dm_getf 64 8 15, dm_no, dm_no] := dr_c (dg_no) <| dr_c (dg_no) <| dr_c (dg_no) <| dr_c (dg_no) <| dr_c (dg_aload_n (k := 0) rfl dX11_count_52) <| dr_c (dg_getf (T := TX11) (C := RX11) (N := 68) dX11_count_53 rfl (by decide) iw_X11 wd_963) <| dr_c (dg_no) <| dr_c (dg_no) <| dr_c (dg_ret dX11_count_56) <| dr_c (dg_iconst (by decide) dX11_count_57) <| dr_c (dg_istore_n (k := 3) rfl (by decide) dX11_count_58) <| dr_c (dg_iload_n (k := 3) rfl dX11_count_59) <| dr_c (dg_aload_n (k := 0) rfl dX11_count_60) <| dr_c (dg_getf (T := TX11) (C := RX11) (N := 68) dX11_count_61 rfl (by decide) iw_X11 wd_963) <| dr_c (dg_no) <| dr_c (dg_no) <| dr_n
theorem tr_207_4 : dm_AllR (dm_Good dm_tb RX11 cX11_count 4 (some .int) false none) 64 [dm_ic_ge 67 93, dm_no, dm_no, dm_ald 68 0, dm_getf 71 8 6, dm_no, dm_no, dm_ild 72 3, dm_bald 73, dm_if_eq 76 87, dm_no, dm_no, dm_ald 77 0, dm_ild 78 3, dm_inv 81 138 1 8, dm_no] := dr_c (dg_ic_ge (by decide) dX11_count_64) <| dr_c (dg_no) <| dr_c (dg_no) <| dr_c (dg_aload_n (k := 0) rfl dX11_count_67) <| dr_c (dg_getf (T := TX11) (C := RX11) (N := 68) dX11_count_68 rfl (by decide) iw_X11 wd_954) <| dr_c (dg_no) <| dr_c (dg_no) <| dr_c (dg_iload_n (k := 3) rfl dX11_count_71) <| dr_c (dg_bald dX11_count_72) <| dr_c (dg_if_eq (by decide) dX11_count_73) <| dr_c (dg_no) <| dr_c (dg_no) <| dr_c (dg_aload_n (k := 0) rfl dX11_count_76) <| dr_c (dg_iload_n (k := 3) rfl dX11_count_77) <| dr_c (dg_inv dX11_count_78 mo_138 rfl rfl wd_1169 wd_1171 wd_25 pd_138) <| dr_c (dg_no) <| dr_n
theorem tr_207_5 : dm_AllR (dm_Good dm_tb RX11 cX11_count 4 (some .int) false none) 80 [dm_no, dm_if_eq 84 87, dm_no, dm_no, dm_iinc 87 2 1, dm_no, dm_no, dm_iinc 90 3 1, dm_no, dm_no, dm_goto 59, dm_no, dm_no, dm_ild 94 2, dm_ret .int, dm_push 96 (.int 0)] := dr_c (dg_no) <| dr_c (dg_if_eq (by decide) dX11_count_81) <| dr_c (dg_no) <| dr_c (dg_no) <| dr_c (dg_iinc (by decide) (by decide) dX11_count_84) <| dr_c (dg_no) <| dr_c (dg_no) <| dr_c (dg_iinc (by decide) (by decide) dX11_count_87) <| dr_c (dg_no) <| dr_c (dg_no) <| dr_c (dg_goto (by decide) dX11_count_90) <| dr_c (dg_no) <| dr_c (dg_no) <| dr_c (dg_iload_n (k := 2) rfl dX11_count_93) <| dr_c (dg_ret dX11_count_94) <| dr_c (dg_iconst (by decide) dX11_count_95) <| dr_n
theorem tr_207_6 : dm_AllR (dm_Good dm_tb RX11 cX11_count 4 (some .int) false none) 96 [dm_ist 97 3, dm_ild 98 3, dm_ald 99 0, dm_getf 102 8 15, dm_no, dm_no, dm_ic_ge 105 123, dm_no, dm_no, dm_ald 106 0, dm_getf 109 8 7, dm_no, dm_no, dm_ild 110 3, dm_bald 111, dm_if_eq 114 117] := dr_c (dg_istore_n (k := 3) rfl (by decide) dX11_count_96) <| dr_c (dg_iload_n (k := 3) rfl dX11_count_97) <| dr_c (dg_aload_n (k := 0) rfl dX11_count_98) <| dr_c (dg_getf (T := TX11) (C := RX11) (N := 68) dX11_count_99 rfl (by decide) iw_X11 wd_963) <| dr_c (dg_no) <| dr_c (dg_no) <| dr_c (dg_ic_ge (by decide) dX11_count_102) <| dr_c (dg_no) <| dr_c (dg_no) <| dr_c (dg_aload_n (k := 0) rfl dX11_count_105) <| dr_c (dg_getf (T := TX11) (C := RX11) (N := 68) dX11_count_106 rfl (by decide) iw_X11 wd_955) <| dr_c (dg_no) <| dr_c (dg_no) <| dr_c (dg_iload_n (k := 3) rfl dX11_count_109) <| dr_c (dg_bald dX11_count_110) <| dr_c (dg_if_eq (by decide) dX11_count_111) <| dr_n
theorem tr_207_7 : dm_AllR (dm_Good dm_tb RX11 cX11_count 4 (some .int) false none) 112 [dm_no, dm_no, dm_iinc 117 2 1, dm_no, dm_no, dm_iinc 120 3 1, dm_no, dm_no, dm_goto 97, dm_no, dm_no, dm_ild 124 2, dm_ret .int, dm_ald 126 0, dm_getf 129 8 16, dm_no] := dr_c (dg_no) <| dr_c (dg_no) <| dr_c (dg_iinc (by decide) (by decide) dX11_count_114) <| dr_c (dg_no) <| dr_c (dg_no) <| dr_c (dg_iinc (by decide) (by decide) dX11_count_117) <| dr_c (dg_no) <| dr_c (dg_no) <| dr_c (dg_goto (by decide) dX11_count_120) <| dr_c (dg_no) <| dr_c (dg_no) <| dr_c (dg_iload_n (k := 2) rfl dX11_count_123) <| dr_c (dg_ret dX11_count_124) <| dr_c (dg_aload_n (k := 0) rfl dX11_count_125) <| dr_c (dg_getf (T := TX11) (C := RX11) (N := 68) dX11_count_126 rfl (by decide) iw_X11 wd_964) <| dr_c (dg_no) <| dr_n
theorem tr_207_8 : dm_AllR (dm_Good dm_tb RX11 cX11_count 4 (some .int) false none) 128 [dm_no, dm_ret .int, dm_ald 131 0, dm_getf 134 8 17, dm_no, dm_no, dm_ret .int, dm_ald 136 0, dm_getf 139 8 36, dm_no, dm_no, dm_ret .int, dm_ald 141 0, dm_getf 144 8 26, dm_no, dm_no] := dr_c (dg_no) <| dr_c (dg_ret dX11_count_129) <| dr_c (dg_aload_n (k := 0) rfl dX11_count_130) <| dr_c (dg_getf (T := TX11) (C := RX11) (N := 68) dX11_count_131 rfl (by decide) iw_X11 wd_965) <| dr_c (dg_no) <| dr_c (dg_no) <| dr_c (dg_ret dX11_count_134) <| dr_c (dg_aload_n (k := 0) rfl dX11_count_135) <| dr_c (dg_getf (T := TX11) (C := RX11) (N := 68) dX11_count_136 rfl (by decide) iw_X11 wd_984) <| dr_c (dg_no) <| dr_c (dg_no) <| dr_c (dg_ret dX11_count_139) <| dr_c (dg_aload_n (k := 0) rfl dX11_count_140) <| dr_c (dg_getf (T := TX11) (C := RX11) (N := 68) dX11_count_141 rfl (by decide) iw_X11 wd_974) <| dr_c (dg_no) <| dr_c (dg_no) <| dr_n
theorem tr_207_9 : dm_AllR (dm_Good dm_tb RX11 cX11_count 4 (some .int) false none) 144 [dm_ret .int, dm_push 146 (.int (-1)), dm_ret .int] := dr_c (dg_ret dX11_count_144) <| dr_c (dg_iconst (by decide) dX11_count_145) <| dr_c (dg_ret dX11_count_146) <| dr_n
theorem tk_207 : dm_AllC (dm_Good dm_tb RX11 cX11_count 4 (some .int) false none) 0 cd_207 := dc_c (by decide) tr_207_0 <| dc_c (by decide) tr_207_1 <| dc_c (by decide) tr_207_2 <| dc_c (by decide) tr_207_3 <| dc_c (by decide) tr_207_4 <| dc_c (by decide) tr_207_5 <| dc_c (by decide) tr_207_6 <| dc_c (by decide) tr_207_7 <| dc_c (by decide) tr_207_8 <| dc_c (by decide) tr_207_9 <| dc_n
theorem dJ13_bitCount_95d88_0 : decode cJ13_bitCount_95d88 0 = .ok (.lload_n 0, 1) := by decide +kernel
theorem dJ13_bitCount_95d88_1 : decode cJ13_bitCount_95d88 1 = .ok (.lload_n 0, 1) := by decide +kernel
theorem dJ13_bitCount_95d88_2 : decode cJ13_bitCount_95d88 2 = .ok (.iconst 1, 1) := by decide +kernel
theorem dJ13_bitCount_95d88_3 : decode cJ13_bitCount_95d88 3 = .ok (.lushr, 1) := by decide +kernel
theorem dJ13_bitCount_95d88_4 : decode cJ13_bitCount_95d88 4 = .ok (.ldc2_w 314, 3) := by decide +kernel
theorem dJ13_bitCount_95d88_7 : decode cJ13_bitCount_95d88 7 = .ok (.land, 1) := by decide +kernel
theorem dJ13_bitCount_95d88_8 : decode cJ13_bitCount_95d88 8 = .ok (.lsub, 1) := by decide +kernel
theorem dJ13_bitCount_95d88_9 : decode cJ13_bitCount_95d88 9 = .ok (.lstore_n 0, 1) := by decide +kernel
theorem dJ13_bitCount_95d88_10 : decode cJ13_bitCount_95d88 10 = .ok (.lload_n 0, 1) := by decide +kernel
theorem dJ13_bitCount_95d88_11 : decode cJ13_bitCount_95d88 11 = .ok (.ldc2_w 316, 3) := by decide +kernel
theorem dJ13_bitCount_95d88_14 : decode cJ13_bitCount_95d88 14 = .ok (.land, 1) := by decide +kernel
theorem dJ13_bitCount_95d88_15 : decode cJ13_bitCount_95d88 15 = .ok (.lload_n 0, 1) := by decide +kernel
theorem dJ13_bitCount_95d88_16 : decode cJ13_bitCount_95d88 16 = .ok (.iconst 2, 1) := by decide +kernel
theorem dJ13_bitCount_95d88_17 : decode cJ13_bitCount_95d88 17 = .ok (.lushr, 1) := by decide +kernel
theorem dJ13_bitCount_95d88_18 : decode cJ13_bitCount_95d88 18 = .ok (.ldc2_w 316, 3) := by decide +kernel
theorem dJ13_bitCount_95d88_21 : decode cJ13_bitCount_95d88 21 = .ok (.land, 1) := by decide +kernel
theorem dJ13_bitCount_95d88_22 : decode cJ13_bitCount_95d88 22 = .ok (.ladd, 1) := by decide +kernel
theorem dJ13_bitCount_95d88_23 : decode cJ13_bitCount_95d88 23 = .ok (.lstore_n 0, 1) := by decide +kernel
theorem dJ13_bitCount_95d88_24 : decode cJ13_bitCount_95d88 24 = .ok (.lload_n 0, 1) := by decide +kernel
theorem dJ13_bitCount_95d88_25 : decode cJ13_bitCount_95d88 25 = .ok (.lload_n 0, 1) := by decide +kernel
theorem dJ13_bitCount_95d88_26 : decode cJ13_bitCount_95d88 26 = .ok (.iconst 4, 1) := by decide +kernel
theorem dJ13_bitCount_95d88_27 : decode cJ13_bitCount_95d88 27 = .ok (.lushr, 1) := by decide +kernel
theorem dJ13_bitCount_95d88_28 : decode cJ13_bitCount_95d88 28 = .ok (.ladd, 1) := by decide +kernel
theorem dJ13_bitCount_95d88_29 : decode cJ13_bitCount_95d88 29 = .ok (.ldc2_w 318, 3) := by decide +kernel
theorem dJ13_bitCount_95d88_32 : decode cJ13_bitCount_95d88 32 = .ok (.land, 1) := by decide +kernel
theorem dJ13_bitCount_95d88_33 : decode cJ13_bitCount_95d88 33 = .ok (.lstore_n 0, 1) := by decide +kernel
theorem dJ13_bitCount_95d88_34 : decode cJ13_bitCount_95d88 34 = .ok (.lload_n 0, 1) := by decide +kernel
theorem dJ13_bitCount_95d88_35 : decode cJ13_bitCount_95d88 35 = .ok (.lload_n 0, 1) := by decide +kernel
theorem dJ13_bitCount_95d88_36 : decode cJ13_bitCount_95d88 36 = .ok (.bipush 8, 2) := by decide +kernel
theorem dJ13_bitCount_95d88_38 : decode cJ13_bitCount_95d88 38 = .ok (.lushr, 1) := by decide +kernel
theorem dJ13_bitCount_95d88_39 : decode cJ13_bitCount_95d88 39 = .ok (.ladd, 1) := by decide +kernel
theorem dJ13_bitCount_95d88_40 : decode cJ13_bitCount_95d88 40 = .ok (.lstore_n 0, 1) := by decide +kernel
theorem dJ13_bitCount_95d88_41 : decode cJ13_bitCount_95d88 41 = .ok (.lload_n 0, 1) := by decide +kernel
theorem dJ13_bitCount_95d88_42 : decode cJ13_bitCount_95d88 42 = .ok (.lload_n 0, 1) := by decide +kernel
theorem dJ13_bitCount_95d88_43 : decode cJ13_bitCount_95d88 43 = .ok (.bipush 16, 2) := by decide +kernel
theorem dJ13_bitCount_95d88_45 : decode cJ13_bitCount_95d88 45 = .ok (.lushr, 1) := by decide +kernel
theorem dJ13_bitCount_95d88_46 : decode cJ13_bitCount_95d88 46 = .ok (.ladd, 1) := by decide +kernel
theorem dJ13_bitCount_95d88_47 : decode cJ13_bitCount_95d88 47 = .ok (.lstore_n 0, 1) := by decide +kernel
theorem dJ13_bitCount_95d88_48 : decode cJ13_bitCount_95d88 48 = .ok (.lload_n 0, 1) := by decide +kernel
theorem dJ13_bitCount_95d88_49 : decode cJ13_bitCount_95d88 49 = .ok (.lload_n 0, 1) := by decide +kernel
theorem dJ13_bitCount_95d88_50 : decode cJ13_bitCount_95d88 50 = .ok (.bipush 32, 2) := by decide +kernel
theorem dJ13_bitCount_95d88_52 : decode cJ13_bitCount_95d88 52 = .ok (.lushr, 1) := by decide +kernel
theorem dJ13_bitCount_95d88_53 : decode cJ13_bitCount_95d88 53 = .ok (.ladd, 1) := by decide +kernel
theorem dJ13_bitCount_95d88_54 : decode cJ13_bitCount_95d88 54 = .ok (.lstore_n 0, 1) := by decide +kernel
theorem dJ13_bitCount_95d88_55 : decode cJ13_bitCount_95d88 55 = .ok (.lload_n 0, 1) := by decide +kernel
theorem dJ13_bitCount_95d88_56 : decode cJ13_bitCount_95d88 56 = .ok (.l2i, 1) := by decide +kernel
theorem dJ13_bitCount_95d88_57 : decode cJ13_bitCount_95d88 57 = .ok (.bipush 127, 2) := by decide +kernel
theorem dJ13_bitCount_95d88_59 : decode cJ13_bitCount_95d88 59 = .ok (.iand, 1) := by decide +kernel
theorem dJ13_bitCount_95d88_60 : decode cJ13_bitCount_95d88 60 = .ok (.ireturn, 1) := by decide +kernel
def cd_208 : dm_Code := [[dm_lld 1 0, dm_lld 2 0, dm_push 3 (.int 1), dm_li 4 (fun x y => (x.toUInt64 >>> (y.toInt64.toUInt64 &&& Int64.toUInt64 63)).toInt64), dm_push 7 (.long 6148914691236517205), dm_no, dm_no, dm_ll 8 (fun x y => x &&& y), dm_ll 9 (fun x y => x - y), dm_lst 10 0, dm_lld 11 0, dm_push 14 (.long 3689348814741910323), dm_no, dm_no, dm_ll 15 (fun x y => x &&& y), dm_lld 16 0],
  [dm_push 17 (.int 2), dm_li 18 (fun x y => (x.toUInt64 >>> (y.toInt64.toUInt64 &&& Int64.toUInt64 63)).toInt64), dm_push 21 (.long 3689348814741910323), dm_no, dm_no, dm_ll 22 (fun x y => x &&& y), dm_ll 23 (fun x y => x + y), dm_lst 24 0, dm_lld 25 0, dm_lld 26 0, dm_push 27 (.int 4), dm_li 28 (fun x y => (x.toUInt64 >>> (y.toInt64.toUInt64 &&& Int64.toUInt64 63)).toInt64), dm_ll 29 (fun x y => x + y), dm_push 32 (.long 1085102592571150095), dm_no, dm_no],
  [dm_ll 33 (fun x y => x &&& y), dm_lst 34 0, dm_lld 35 0, dm_lld 36 0, dm_push 38 (.int 8), dm_no, dm_li 39 (fun x y => (x.toUInt64 >>> (y.toInt64.toUInt64 &&& Int64.toUInt64 63)).toInt64), dm_ll 40 (fun x y => x + y), dm_lst 41 0, dm_lld 42 0, dm_lld 43 0, dm_push 45 (.int 16), dm_no, dm_li 46 (fun x y => (x.toUInt64 >>> (y.toInt64.toUInt64 &&& Int64.toUInt64 63)).toInt64), dm_ll 47 (fun x y => x + y), dm_lst 48 0],
  [dm_lld 49 0, dm_lld 50 0, dm_push 52 (.int 32), dm_no, dm_li 53 (fun x y => (x.toUInt64 >>> (y.toInt64.toUInt64 &&& Int64.toUInt64 63)).toInt64), dm_ll 54 (fun x y => x + y), dm_lst 55 0, dm_lld 56 0, dm_l1 57 (fun x => .int x.toInt32), dm_push 59 (.int 127), dm_no, dm_ii 60 (fun x y => x &&& y), dm_ret .int]]
theorem tr_208_0 : dm_AllR (dm_Good dm_tb RJ13 cJ13_bitCount_95d88 2 (some .int) false none) 0 [dm_lld 1 0, dm_lld 2 0, dm_push 3 (.int 1), dm_li 4 (fun x y => (x.toUInt64 >>> (y.toInt64.toUInt64 &&& Int64.toUInt64 63)).toInt64), dm_push 7 (.long 6148914691236517205), dm_no, dm_no, dm_ll 8 (fun x y => x &&& y), dm_ll 9 (fun x y => x - y), dm_lst 10 0, dm_lld 11 0, dm_push 14 (.long 3689348814741910323), dm_no, dm_no, dm_ll 15 (fun x y => x &&& y), dm_lld 16 0] := dr_c (dg_lload_n (k := 0) rfl dJ13_bitCount_95d88_0) <| dr_c (dg_lload_n (k := 0) rfl dJ13_bitCount_95d88_1) <| dr_c (dg_iconst (by decide) dJ13_bitCount_95d88_2) <| dr_c (dg_lushr dJ13_bitCount_95d88_3) <| dr_c (dg_ldc2 wd_1294 dJ13_bitCount_95d88_4) <| dr_c (dg_no) <| dr_c (dg_no) <| dr_c (dg_land dJ13_bitCount_95d88_7) <| dr_c (dg_lsub dJ13_bitCount_95d88_8) <| dr_c (dg_lstore_n (k := 0) rfl (by decide) dJ13_bitCount_95d88_9) <| dr_c (dg_lload_n (k := 0) rfl dJ13_bitCount_95d88_10) <| dr_c (dg_ldc2 wd_1295 dJ13_bitCount_95d88_11) <| dr_c (dg_no) <| dr_c (dg_no) <| dr_c (dg_land dJ13_bitCount_95d88_14) <| dr_c (dg_lload_n (k := 0) rfl dJ13_bitCount_95d88_15) <| dr_n
theorem tr_208_1 : dm_AllR (dm_Good dm_tb RJ13 cJ13_bitCount_95d88 2 (some .int) false none) 16 [dm_push 17 (.int 2), dm_li 18 (fun x y => (x.toUInt64 >>> (y.toInt64.toUInt64 &&& Int64.toUInt64 63)).toInt64), dm_push 21 (.long 3689348814741910323), dm_no, dm_no, dm_ll 22 (fun x y => x &&& y), dm_ll 23 (fun x y => x + y), dm_lst 24 0, dm_lld 25 0, dm_lld 26 0, dm_push 27 (.int 4), dm_li 28 (fun x y => (x.toUInt64 >>> (y.toInt64.toUInt64 &&& Int64.toUInt64 63)).toInt64), dm_ll 29 (fun x y => x + y), dm_push 32 (.long 1085102592571150095), dm_no, dm_no] := dr_c (dg_iconst (by decide) dJ13_bitCount_95d88_16) <| dr_c (dg_lushr dJ13_bitCount_95d88_17) <| dr_c (dg_ldc2 wd_1295 dJ13_bitCount_95d88_18) <| dr_c (dg_no) <| dr_c (dg_no) <| dr_c (dg_land dJ13_bitCount_95d88_21) <| dr_c (dg_ladd dJ13_bitCount_95d88_22) <| dr_c (dg_lstore_n (k := 0) rfl (by decide) dJ13_bitCount_95d88_23) <| dr_c (dg_lload_n (k := 0) rfl dJ13_bitCount_95d88_24) <| dr_c (dg_lload_n (k := 0) rfl dJ13_bitCount_95d88_25) <| dr_c (dg_iconst (by decide) dJ13_bitCount_95d88_26) <| dr_c (dg_lushr dJ13_bitCount_95d88_27) <| dr_c (dg_ladd dJ13_bitCount_95d88_28) <| dr_c (dg_ldc2 wd_1296 dJ13_bitCount_95d88_29) <| dr_c (dg_no) <| dr_c (dg_no) <| dr_n
theorem tr_208_2 : dm_AllR (dm_Good dm_tb RJ13 cJ13_bitCount_95d88 2 (some .int) false none) 32 [dm_ll 33 (fun x y => x &&& y), dm_lst 34 0, dm_lld 35 0, dm_lld 36 0, dm_push 38 (.int 8), dm_no, dm_li 39 (fun x y => (x.toUInt64 >>> (y.toInt64.toUInt64 &&& Int64.toUInt64 63)).toInt64), dm_ll 40 (fun x y => x + y), dm_lst 41 0, dm_lld 42 0, dm_lld 43 0, dm_push 45 (.int 16), dm_no, dm_li 46 (fun x y => (x.toUInt64 >>> (y.toInt64.toUInt64 &&& Int64.toUInt64 63)).toInt64), dm_ll 47 (fun x y => x + y), dm_lst 48 0] := dr_c (dg_land dJ13_bitCount_95d88_32) <| dr_c (dg_lstore_n (k := 0) rfl (by decide) dJ13_bitCount_95d88_33) <| dr_c (dg_lload_n (k := 0) rfl dJ13_bitCount_95d88_34) <| dr_c (dg_lload_n (k := 0) rfl dJ13_bitCount_95d88_35) <| dr_c (dg_bipush (by decide) dJ13_bitCount_95d88_36) <| dr_c (dg_no) <| dr_c (dg_lushr dJ13_bitCount_95d88_38) <| dr_c (dg_ladd dJ13_bitCount_95d88_39) <| dr_c (dg_lstore_n (k := 0) rfl (by decide) dJ13_bitCount_95d88_40) <| dr_c (dg_lload_n (k := 0) rfl dJ13_bitCount_95d88_41) <| dr_c (dg_lload_n (k := 0) rfl dJ13_bitCount_95d88_42) <| dr_c (dg_bipush (by decide) dJ13_bitCount_95d88_43) <| dr_c (dg_no) <| dr_c (dg_lushr dJ13_bitCount_95d88_45) <| dr_c (dg_ladd dJ13_bitCount_95d88_46) <| dr_c (dg_lstore_n (k := 0) rfl (by decide) dJ13_bitCount_95d88_47) <| dr_n
theorem tr_208_3 : dm_AllR (dm_Good dm_tb RJ13 cJ13_bitCount_95d88 2 (some .int) false none) 48 [dm_lld 49 0, dm_lld 50 0, dm_push 52 (.int 32), dm_no, dm_li 53 (fun x y => (x.toUInt64 >>> (y.toInt64.toUInt64 &&& Int64.toUInt64 63)).toInt64), dm_ll 54 (fun x y => x + y), dm_lst 55 0, dm_lld 56 0, dm_l1 57 (fun x => .int x.toInt32), dm_push 59 (.int 127), dm_no, dm_ii 60 (fun x y => x &&& y), dm_ret .int] := dr_c (dg_lload_n (k := 0) rfl dJ13_bitCount_95d88_48) <| dr_c (dg_lload_n (k := 0) rfl dJ13_bitCount_95d88_49) <| dr_c (dg_bipush (by decide) dJ13_bitCount_95d88_50) <| dr_c (dg_no) <| dr_c (dg_lushr dJ13_bitCount_95d88_52) <| dr_c (dg_ladd dJ13_bitCount_95d88_53) <| dr_c (dg_lstore_n (k := 0) rfl (by decide) dJ13_bitCount_95d88_54) <| dr_c (dg_lload_n (k := 0) rfl dJ13_bitCount_95d88_55) <| dr_c (dg_l2i dJ13_bitCount_95d88_56) <| dr_c (dg_bipush (by decide) dJ13_bitCount_95d88_57) <| dr_c (dg_no) <| dr_c (dg_iand dJ13_bitCount_95d88_59) <| dr_c (dg_ret dJ13_bitCount_95d88_60) <| dr_n
theorem tk_208 : dm_AllC (dm_Good dm_tb RJ13 cJ13_bitCount_95d88 2 (some .int) false none) 0 cd_208 := dc_c (by decide) tr_208_0 <| dc_c (by decide) tr_208_1 <| dc_c (by decide) tr_208_2 <| dc_c (by decide) tr_208_3 <| dc_n
theorem dJ7_copyOf_59c91_0 : decode cJ7_copyOf_59c91 0 = .ok (.iload_n 1, 1) := by decide +kernel
theorem dJ7_copyOf_59c91_1 : decode cJ7_copyOf_59c91 1 = .ok (.aload_n 0, 1) := by decide +kernel
theorem dJ7_copyOf_59c91_2 : decode cJ7_copyOf_59c91 2 = .ok (.arraylength, 1) := by decide +kernel
theorem dJ7_copyOf_59c91_3 : decode cJ7_copyOf_59c91 3 = .ok (.if_icmp .ne 11, 3) := by decide +kernel
theorem dJ7_copyOf_59c91_6 : decode cJ7_copyOf_59c91 6 = .ok (.aload_n 0, 1) := by decide +kernel
theorem dJ7_copyOf_59c91_7 : decode cJ7_copyOf_59c91 7 = .ok (.invokevirtual 316, 3) := by decide +kernel
theorem dJ7_copyOf_59c91_10 : decode cJ7_copyOf_59c91 10 = .ok (.checkcast 317, 3) := by decide +kernel
theorem dJ7_copyOf_59c91_13 : decode cJ7_copyOf_59c91 13 = .ok (.areturn, 1) := by decide +kernel
theorem dJ7_copyOf_59c91_14 : decode cJ7_copyOf_59c91 14 = .ok (.iload_n 1, 1) := by decide +kernel
theorem dJ7_copyOf_59c91_15 : decode cJ7_copyOf_59c91 15 = .ok (.newarray .int, 2) := by decide +kernel
theorem dJ7_copyOf_59c91_17 : decode cJ7_copyOf_59c91 17 = .ok (.astore_n 2, 1) := by decide +kernel
theorem dJ7_copyOf_59c91_18 : decode cJ7_copyOf_59c91 18 = .ok (.aload_n 0, 1) := by decide +kernel
theorem dJ7_copyOf_59c91_19 : decode cJ7_copyOf_59c91 19 = .ok (.iconst 0, 1) := by decide +kernel
theorem dJ7_copyOf_59c91_20 : decode cJ7_copyOf_59c91 20 = .ok (.aload_n 2, 1) := by decide +kernel
theorem dJ7_copyOf_59c91_21 : decode cJ7_copyOf_59c91 21 = .ok (.iconst 0, 1) := by decide +kernel
theorem dJ7_copyOf_59c91_22 : decode cJ7_copyOf_59c91 22 = .ok (.aload_n 0, 1) := by decide +kernel
theorem dJ7_copyOf_59c91_23 : decode cJ7_copyOf_59c91 23 = .ok (.arraylength, 1) := by decide +kernel
theorem dJ7_copyOf_59c91_24 : decode cJ7_copyOf_59c91 24 = .ok (.iload_n 1, 1) := by decide +kernel
theorem dJ7_copyOf_59c91_25 : decode cJ7_copyOf_59c91 25 = .ok (.invokestatic 304, 3) := by decide +kernel
theorem dJ7_copyOf_59c91_28 : decode cJ7_copyOf_59c91 28 = .ok (.invokestatic 150, 3) := by decide +kernel
theorem dJ7_copyOf_59c91_31 : decode cJ7_copyOf_59c91 31 = .ok (.aload_n 2, 1) := by decide +kernel
theorem dJ7_copyOf_59c91_32 : decode cJ7_copyOf_59c91 32 = .ok (.areturn, 1) := by decide +kernel
def cd_209 : dm_Code := [[dm_ild 1 1, dm_ald 2 0, dm_alen 3, dm_ic_ne 6 14, dm_no, dm_no, dm_ald 7 0, dm_no, dm_no, dm_no, dm_no, dm_no, dm_no, dm_aret, dm_ild 15 1, dm_newa 17 .int],
  [dm_no, dm_ast 18 2, dm_ald 19 0, dm_push 20 (.int 0), dm_ald 21 2, dm_push 22 (.int 0), dm_ald 23 0, dm_alen 24, dm_ild 25 1, dm_mn 28, dm_no, dm_no, dm_acp 31, dm_no, dm_no, dm_ald 32 2],
  [dm_aret]]
theorem tr_209_0 : dm_AllR (dm_Good dm_tb RJ7 cJ7_copyOf_59c91 3 (some (.array .int)) false none) 0 [dm_ild 1 1, dm_ald 2 0, dm_alen 3, dm_ic_ne 6 14, dm_no, dm_no, dm_ald 7 0, dm_no, dm_no, dm_no, dm_no, dm_no, dm_no, dm_aret, dm_ild 15 1, dm_newa 17 .int] := dr_c (dg_iload_n (k := 1) rfl dJ7_copyOf_59c91_0) <| dr_c (dg_aload_n (k := 0) rfl dJ7_copyOf_59c91_1) <| dr_c (dg_alen dJ7_copyOf_59c91_2) <| dr_c (dg_ic_ne (by decide) dJ7_copyOf_59c91_3) <| dr_c (dg_no) <| dr_c (dg_no) <| dr_c (dg_aload_n (k := 0) rfl dJ7_copyOf_59c91_6) <| dr_c (dg_no) <| dr_c (dg_no) <| dr_c (dg_no) <| dr_c (dg_no) <| dr_c (dg_no) <| dr_c (dg_no) <| dr_c (dg_aret dJ7_copyOf_59c91_13) <| dr_c (dg_iload_n (k := 1) rfl dJ7_copyOf_59c91_14) <| dr_c (dg_newa dJ7_copyOf_59c91_15 rfl rfl wd_117) <| dr_n
theorem tr_209_1 : dm_AllR (dm_Good dm_tb RJ7 cJ7_copyOf_59c91 3 (some (.array .int)) false none) 16 [dm_no, dm_ast 18 2, dm_ald 19 0, dm_push 20 (.int 0), dm_ald 21 2, dm_push 22 (.int 0), dm_ald 23 0, dm_alen 24, dm_ild 25 1, dm_mn 28, dm_no, dm_no, dm_acp 31, dm_no, dm_no, dm_ald 32 2] := dr_c (dg_no) <| dr_c (dg_astore_n (k := 2) rfl (by decide) dJ7_copyOf_59c91_17) <| dr_c (dg_aload_n (k := 0) rfl dJ7_copyOf_59c91_18) <| dr_c (dg_iconst (by decide) dJ7_copyOf_59c91_19) <| dr_c (dg_aload_n (k := 2) rfl dJ7_copyOf_59c91_20) <| dr_c (dg_iconst (by decide) dJ7_copyOf_59c91_21) <| dr_c (dg_aload_n (k := 0) rfl dJ7_copyOf_59c91_22) <| dr_c (dg_alen dJ7_copyOf_59c91_23) <| dr_c (dg_iload_n (k := 1) rfl dJ7_copyOf_59c91_24) <| dr_c (dg_mn dJ7_copyOf_59c91_25 wd_272 wd_260 wd_64 wd_261) <| dr_c (dg_no) <| dr_c (dg_no) <| dr_c (dg_acp dJ7_copyOf_59c91_28 wd_273 wd_275 wd_274 wd_70) <| dr_c (dg_no) <| dr_c (dg_no) <| dr_c (dg_aload_n (k := 2) rfl dJ7_copyOf_59c91_31) <| dr_n
theorem tr_209_2 : dm_AllR (dm_Good dm_tb RJ7 cJ7_copyOf_59c91 3 (some (.array .int)) false none) 32 [dm_aret] := dr_c (dg_aret dJ7_copyOf_59c91_32) <| dr_n
theorem tk_209 : dm_AllC (dm_Good dm_tb RJ7 cJ7_copyOf_59c91 3 (some (.array .int)) false none) 0 cd_209 := dc_c (by decide) tr_209_0 <| dc_c (by decide) tr_209_1 <| dc_c (by decide) tr_209_2 <| dc_n
