theorem dX11_leads_0 : decode cX11_leads 0 = .ok (.aload_n 0, 1) := by decide +kernel
theorem dX11_leads_1 : decode cX11_leads 1 = .ok (.getfield 23, 3) := by decide +kernel
theorem dX11_leads_4 : decode cX11_leads 4 = .ok (.iload_n 1, 1) := by decide +kernel
theorem dX11_leads_5 : decode cX11_leads 5 = .ok (.iaload, 1) := by decide +kernel
theorem dX11_leads_6 : decode cX11_leads 6 = .ok (.istore_n 3, 1) := by decide +kernel
theorem dX11_leads_7 : decode cX11_leads 7 = .ok (.aload_n 0, 1) := by decide +kernel
theorem dX11_leads_8 : decode cX11_leads 8 = .ok (.getfield 23, 3) := by decide +kernel
theorem dX11_leads_11 : decode cX11_leads 11 = .ok (.iload_n 2, 1) := by decide +kernel
theorem dX11_leads_12 : decode cX11_leads 12 = .ok (.iaload, 1) := by decide +kernel
theorem dX11_leads_13 : decode cX11_leads 13 = .ok (.istore 4, 2) := by decide +kernel
theorem dX11_leads_15 : decode cX11_leads 15 = .ok (.lconst 0, 1) := by decide +kernel
theorem dX11_leads_16 : decode cX11_leads 16 = .ok (.lstore 5, 2) := by decide +kernel
theorem dX11_leads_18 : decode cX11_leads 18 = .ok (.lload 5, 2) := by decide +kernel
theorem dX11_leads_20 : decode cX11_leads 20 = .ok (.ldc2_w 186, 3) := by decide +kernel
theorem dX11_leads_23 : decode cX11_leads 23 = .ok (.lcmp, 1) := by decide +kernel
theorem dX11_leads_24 : decode cX11_leads 24 = .ok (.ifCond .ge 125, 3) := by decide +kernel
theorem dX11_leads_27 : decode cX11_leads 27 = .ok (.aload_n 0, 1) := by decide +kernel
theorem dX11_leads_28 : decode cX11_leads 28 = .ok (.getfield 13, 3) := by decide +kernel
theorem dX11_leads_31 : decode cX11_leads 31 = .ok (.iload_n 3, 1) := by decide +kernel
theorem dX11_leads_32 : decode cX11_leads 32 = .ok (.iaload, 1) := by decide +kernel
theorem dX11_leads_33 : decode cX11_leads 33 = .ok (.aload_n 0, 1) := by decide +kernel
theorem dX11_leads_34 : decode cX11_leads 34 = .ok (.getfield 13, 3) := by decide +kernel
theorem dX11_leads_37 : decode cX11_leads 37 = .ok (.iload 4, 2) := by decide +kernel
theorem dX11_leads_39 : decode cX11_leads 39 = .ok (.iaload, 1) := by decide +kernel
theorem dX11_leads_40 : decode cX11_leads 40 = .ok (.if_icmp .le 5, 3) := by decide +kernel
theorem dX11_leads_43 : decode cX11_leads 43 = .ok (.iconst 0, 1) := by decide +kernel
theorem dX11_leads_44 : decode cX11_leads 44 = .ok (.ireturn, 1) := by decide +kernel
theorem dX11_leads_45 : decode cX11_leads 45 = .ok (.iload_n 3, 1) := by decide +kernel
theorem dX11_leads_46 : decode cX11_leads 46 = .ok (.iconst 1, 1) := by decide +kernel
theorem dX11_leads_47 : decode cX11_leads 47 = .ok (.iadd, 1) := by decide +kernel
theorem dX11_leads_48 : decode cX11_leads 48 = .ok (.aload_n 0, 1) := by decide +kernel
theorem dX11_leads_49 : decode cX11_leads 49 = .ok (.getfield 23, 3) := by decide +kernel
theorem dX11_leads_52 : decode cX11_leads 52 = .ok (.iload_n 1, 1) := by decide +kernel
theorem dX11_leads_53 : decode cX11_leads 53 = .ok (.iconst 1, 1) := by decide +kernel
theorem dX11_leads_54 : decode cX11_leads 54 = .ok (.iadd, 1) := by decide +kernel
theorem dX11_leads_55 : decode cX11_leads 55 = .ok (.iaload, 1) := by decide +kernel
theorem dX11_leads_56 : decode cX11_leads 56 = .ok (.if_icmp .ge 14, 3) := by decide +kernel
theorem dX11_leads_59 : decode cX11_leads 59 = .ok (.aload_n 0, 1) := by decide +kernel
theorem dX11_leads_60 : decode cX11_leads 60 = .ok (.getfield 9, 3) := by decide +kernel
theorem dX11_leads_63 : decode cX11_leads 63 = .ok (.iload_n 3, 1) := by decide +kernel
theorem dX11_leads_64 : decode cX11_leads 64 = .ok (.iconst 1, 1) := by decide +kernel
theorem dX11_leads_65 : decode cX11_leads 65 = .ok (.iadd, 1) := by decide +kernel
theorem dX11_leads_66 : decode cX11_leads 66 = .ok (.laload, 1) := by decide +kernel
theorem dX11_leads_67 : decode cX11_leads 67 = .ok (.goto 6, 3) := by decide +kernel
theorem dX11_leads_70 : decode cX11_leads 70 = .ok (.ldc2_w 186, 3) := by decide +kernel
theorem dX11_leads_73 : decode cX11_leads 73 = .ok (.lstore 7, 2) := by decide +kernel
theorem dX11_leads_75 : decode cX11_leads 75 = .ok (.iload 4, 2) := by decide +kernel
theorem dX11_leads_77 : decode cX11_leads 77 = .ok (.iconst 1, 1) := by decide +kernel
theorem dX11_leads_78 : decode cX11_leads 78 = .ok (.iadd, 1) := by decide +kernel
theorem dX11_leads_79 : decode cX11_leads 79 = .ok (.aload_n 0, 1) := by decide +kernel
theorem dX11_leads_80 : decode cX11_leads 80 = .ok (.getfield 23, 3) := by decide +kernel
theorem dX11_leads_83 : decode cX11_leads 83 = .ok (.iload_n 2, 1) := by decide +kernel
theorem dX11_leads_84 : decode cX11_leads 84 = .ok (.iconst 1, 1) := by decide +kernel
theorem dX11_leads_85 : decode cX11_leads 85 = .ok (.iadd, 1) := by decide +kernel
theorem dX11_leads_86 : decode cX11_leads 86 = .ok (.iaload, 1) := by decide +kernel
theorem dX11_leads_87 : decode cX11_leads 87 = .ok (.if_icmp .ge 15, 3) := by decide +kernel
theorem dX11_leads_90 : decode cX11_leads 90 = .ok (.aload_n 0, 1) := by decide +kernel
theorem dX11_leads_91 : decode cX11_leads 91 = .ok (.getfield 9, 3) := by decide +kernel
theorem dX11_leads_94 : decode cX11_leads 94 = .ok (.iload 4, 2) := by decide +kernel
theorem dX11_leads_96 : decode cX11_leads 96 = .ok (.iconst 1, 1) := by decide +kernel
theorem dX11_leads_97 : decode cX11_leads 97 = .ok (.iadd, 1) := by decide +kernel
theorem dX11_leads_98 : decode cX11_leads 98 = .ok (.laload, 1) := by decide +kernel
theorem dX11_leads_99 : decode cX11_leads 99 = .ok (.goto 6, 3) := by decide +kernel
theorem dX11_leads_102 : decode cX11_leads 102 = .ok (.ldc2_w 186, 3) := by decide +kernel
theorem dX11_leads_105 : decode cX11_leads 105 = .ok (.lstore 9, 2) := by decide +kernel
theorem dX11_leads_107 : decode cX11_leads 107 = .ok (.lload 7, 2) := by decide +kernel
theorem dX11_leads_109 : decode cX11_leads 109 = .ok (.lload 9, 2) := by decide +kernel
theorem dX11_leads_111 : decode cX11_leads 111 = .ok (.lcmp, 1) := by decide +kernel
theorem dX11_leads_112 : decode cX11_leads 112 = .ok (.ifCond .ge 8, 3) := by decide +kernel
theorem dX11_leads_115 : decode cX11_leads 115 = .ok (.lload 7, 2) := by decide +kernel
theorem dX11_leads_117 : decode cX11_leads 117 = .ok (.goto 5, 3) := by decide +kernel
theorem dX11_leads_120 : decode cX11_leads 120 = .ok (.lload 9, 2) := by decide +kernel
theorem dX11_leads_122 : decode cX11_leads 122 = .ok (.lstore 5, 2) := by decide +kernel
theorem dX11_leads_124 : decode cX11_leads 124 = .ok (.lload 7, 2) := by decide +kernel
theorem dX11_leads_126 : decode cX11_leads 126 = .ok (.lload 5, 2) := by decide +kernel
theorem dX11_leads_128 : decode cX11_leads 128 = .ok (.lcmp, 1) := by decide +kernel
theorem dX11_leads_129 : decode cX11_leads 129 = .ok (.ifCond .ne 6, 3) := by decide +kernel
theorem dX11_leads_132 : decode cX11_leads 132 = .ok (.iinc 3 1, 3) := by decide +kernel
theorem dX11_leads_135 : decode cX11_leads 135 = .ok (.lload 9, 2) := by decide +kernel
theorem dX11_leads_137 : decode cX11_leads 137 = .ok (.lload 5, 2) := by decide +kernel
theorem dX11_leads_139 : decode cX11_leads 139 = .ok (.lcmp, 1) := by decide +kernel
theorem dX11_leads_140 : decode cX11_leads 140 = .ok (.ifCond .ne 6, 3) := by decide +kernel
theorem dX11_leads_143 : decode cX11_leads 143 = .ok (.iinc 4 1, 3) := by decide +kernel
theorem dX11_leads_146 : decode cX11_leads 146 = .ok (.goto (-128), 3) := by decide +kernel
theorem dX11_leads_149 : decode cX11_leads 149 = .ok (.iconst 1, 1) := by decide +kernel
theorem dX11_leads_150 : decode cX11_leads 150 = .ok (.ireturn, 1) := by decide +kernel
def cd_173 : dm_Code := [[dm_ald 1 0, dm_getf 4 8 4, dm_no, dm_no, dm_ild 5 1, dm_iald 6, dm_ist 7 3, dm_ald 8 0, dm_getf 11 8 4, dm_no, dm_no, dm_ild 12 2, dm_iald 13, dm_ist 15 4, dm_no, dm_push 16 (.long 0)],
  [dm_lst 18 5, dm_no, dm_lld 20 5, dm_no, dm_push 23 (.long 1152921504606846976), dm_no, dm_no, dm_lc 24, dm_if_ge 27 149, dm_no, dm_no, dm_ald 28 0, dm_getf 31 8 1, dm_no, dm_no, dm_ild 32 3],
  [dm_iald 33, dm_ald 34 0, dm_getf 37 8 1, dm_no, dm_no, dm_ild 39 4, dm_no, dm_iald 40, dm_ic_le 43 45, dm_no, dm_no, dm_push 44 (.int 0), dm_ret .boolean, dm_ild 46 3, dm_push 47 (.int 1), dm_ii 48 (fun x y => x + y)],
  [dm_ald 49 0, dm_getf 52 8 4, dm_no, dm_no, dm_ild 53 1, dm_push 54 (.int 1), dm_ii 55 (fun x y => x + y), dm_iald 56, dm_ic_ge 59 70, dm_no, dm_no, dm_ald 60 0, dm_getf 63 8 0, dm_no, dm_no, dm_ild 64 3],
  [dm_push 65 (.int 1), dm_ii 66 (fun x y => x + y), dm_lald 67, dm_goto 73, dm_no, dm_no, dm_push 73 (.long 1152921504606846976), dm_no, dm_no, dm_lst 75 7, dm_no, dm_ild 77 4, dm_no, dm_push 78 (.int 1), dm_ii 79 (fun x y => x + y), dm_ald 80 0],
  [dm_getf 83 8 4, dm_no, dm_no, dm_ild 84 2, dm_push 85 (.int 1), dm_ii 86 (fun x y => x + y), dm_iald 87, dm_ic_ge 90 102, dm_no, dm_no, dm_ald 91 0, dm_getf 94 8 0, dm_no, dm_no, dm_ild 96 4, dm_no],
  [dm_push 97 (.int 1), dm_ii 98 (fun x y => x + y), dm_lald 99, dm_goto 105, dm_no, dm_no, dm_push 105 (.long 1152921504606846976), dm_no, dm_no, dm_lst 107 9, dm_no, dm_lld 109 7, dm_no, dm_lld 111 9, dm_no, dm_lc 112],
  [dm_if_ge 115 120, dm_no, dm_no, dm_lld 117 7, dm_no, dm_goto 122, dm_no, dm_no, dm_lld 122 9, dm_no, dm_lst 124 5, dm_no, dm_lld 126 7, dm_no, dm_lld 128 5, dm_no],
  [dm_lc 129, dm_if_ne 132 135, dm_no, dm_no, dm_iinc 135 3 1, dm_no, dm_no, dm_lld 137 9, dm_no, dm_lld 139 5, dm_no, dm_lc 140, dm_if_ne 143 146, dm_no, dm_no, dm_iinc 146 4 1],
  [dm_no, dm_no, dm_goto 18, dm_no, dm_no, dm_push 150 (.int 1), dm_ret .boolean]]
theorem tr_173_0 : dm_AllR (dm_Good dm_tb RX11 cX11_leads 11 (some .boolean) false none) 0 [dm_ald 1 0, dm_getf 4 8 4, dm_no, dm_no, dm_ild 5 1, dm_iald 6, dm_ist 7 3, dm_ald 8 0, dm_getf 11 8 4, dm_no, dm_no, dm_ild 12 2, dm_iald 13, dm_ist 15 4, dm_no, dm_push 16 (.long 0)] := dr_c (dg_aload_n (k := 0) rfl dX11_leads_0) <| dr_c (dg_getf (T := TX11) (C := RX11) (N := 68) dX11_leads_1 rfl (by decide) iw_X11 wd_952) <| dr_c (dg_no) <| dr_c (dg_no) <| dr_c (dg_iload_n (k := 1) rfl dX11_leads_4) <| dr_c (dg_iald dX11_leads_5) <| dr_c (dg_istore_n (k := 3) rfl (by decide) dX11_leads_6) <| dr_c (dg_aload_n (k := 0) rfl dX11_leads_7) <| dr_c (dg_getf (T := TX11) (C := RX11) (N := 68) dX11_leads_8 rfl (by decide) iw_X11 wd_952) <| dr_c (dg_no) <| dr_c (dg_no) <| dr_c (dg_iload_n (k := 2) rfl dX11_leads_11) <| dr_c (dg_iald dX11_leads_12) <| dr_c (dg_istore (by decide) dX11_leads_13) <| dr_c (dg_no) <| dr_c (dg_lconst (by decide) dX11_leads_15) <| dr_n
theorem tr_173_1 : dm_AllR (dm_Good dm_tb RX11 cX11_leads 11 (some .boolean) false none) 16 [dm_lst 18 5, dm_no, dm_lld 20 5, dm_no, dm_push 23 (.long 1152921504606846976), dm_no, dm_no, dm_lc 24, dm_if_ge 27 149, dm_no, dm_no, dm_ald 28 0, dm_getf 31 8 1, dm_no, dm_no, dm_ild 32 3] := dr_c (dg_lstore (by decide) dX11_leads_16) <| dr_c (dg_no) <| dr_c (dg_lload dX11_leads_18) <| dr_c (dg_no) <| dr_c (dg_ldc2 wd_918 dX11_leads_20) <| dr_c (dg_no) <| dr_c (dg_no) <| dr_c (dg_lcmp dX11_leads_23) <| dr_c (dg_if_ge (by decide) dX11_leads_24) <| dr_c (dg_no) <| dr_c (dg_no) <| dr_c (dg_aload_n (k := 0) rfl dX11_leads_27) <| dr_c (dg_getf (T := TX11) (C := RX11) (N := 68) dX11_leads_28 rfl (by decide) iw_X11 wd_949) <| dr_c (dg_no) <| dr_c (dg_no) <| dr_c (dg_iload_n (k := 3) rfl dX11_leads_31) <| dr_n
theorem tr_173_2 : dm_AllR (dm_Good dm_tb RX11 cX11_leads 11 (some .boolean) false none) 32 [dm_iald 33, dm_ald 34 0, dm_getf 37 8 1, dm_no, dm_no, dm_ild 39 4, dm_no, dm_iald 40, dm_ic_le 43 45, dm_no, dm_no, dm_push 44 (.int 0), dm_ret .boolean, dm_ild 46 3, dm_push 47 (.int 1), dm_ii 48 (fun x y => x + y)] := dr_c (dg_iald dX11_leads_32) <| dr_c (dg_aload_n (k := 0) rfl dX11_leads_33) <| dr_c (dg_getf (T := TX11) (C := RX11) (N := 68) dX11_leads_34 rfl (by decide) iw_X11 wd_949) <| dr_c (dg_no) <| dr_c (dg_no) <| dr_c (dg_iload dX11_leads_37) <| dr_c (dg_no) <| dr_c (dg_iald dX11_leads_39) <| dr_c (dg_ic_le (by decide) dX11_leads_40) <| dr_c (dg_no) <| dr_c (dg_no) <| dr_c (dg_iconst (by decide) dX11_leads_43) <| dr_c (dg_ret dX11_leads_44) <| dr_c (dg_iload_n (k := 3) rfl dX11_leads_45) <| dr_c (dg_iconst (by decide) dX11_leads_46) <| dr_c (dg_iadd dX11_leads_47) <| dr_n
theorem tr_173_3 : dm_AllR (dm_Good dm_tb RX11 cX11_leads 11 (some .boolean) false none) 48 [dm_ald 49 0, dm_getf 52 8 4, dm_no, dm_no, dm_ild 53 1, dm_push 54 (.int 1), dm_ii 55 (fun x y => x + y), dm_iald 56, dm_ic_ge 59 70, dm_no, dm_no, dm_ald 60 0, dm_getf 63 8 0, dm_no, dm_no, dm_ild 64 3] := dr_c (dg_aload_n (k := 0) rfl dX11_leads_48) <| dr_c (dg_getf (T := TX11) (C := RX11) (N := 68) dX11_leads_49 rfl (by decide) iw_X11 wd_952) <| dr_c (dg_no) <| dr_c (dg_no) <| dr_c (dg_iload_n (k := 1) rfl dX11_leads_52) <| dr_c (dg_iconst (by decide) dX11_leads_53) <| dr_c (dg_iadd dX11_leads_54) <| dr_c (dg_iald dX11_leads_55) <| dr_c (dg_ic_ge (by decide) dX11_leads_56) <| dr_c (dg_no) <| dr_c (dg_no) <| dr_c (dg_aload_n (k := 0) rfl dX11_leads_59) <| dr_c (dg_getf (T := TX11) (C := RX11) (N := 68) dX11_leads_60 rfl (by decide) iw_X11 wd_948) <| dr_c (dg_no) <| dr_c (dg_no) <| dr_c (dg_iload_n (k := 3) rfl dX11_leads_63) <| dr_n
theorem tr_173_4 : dm_AllR (dm_Good dm_tb RX11 cX11_leads 11 (some .boolean) false none) 64 [dm_push 65 (.int 1), dm_ii 66 (fun x y => x + y), dm_lald 67, dm_goto 73, dm_no, dm_no, dm_push 73 (.long 1152921504606846976), dm_no, dm_no, dm_lst 75 7, dm_no, dm_ild 77 4, dm_no, dm_push 78 (.int 1), dm_ii 79 (fun x y => x + y), dm_ald 80 0] := dr_c (dg_iconst (by decide) dX11_leads_64) <| dr_c (dg_iadd dX11_leads_65) <| dr_c (dg_lald dX11_leads_66) <| dr_c (dg_goto (by decide) dX11_leads_67) <| dr_c (dg_no) <| dr_c (dg_no) <| dr_c (dg_ldc2 wd_918 dX11_leads_70) <| dr_c (dg_no) <| dr_c (dg_no) <| dr_c (dg_lstore (by decide) dX11_leads_73) <| dr_c (dg_no) <| dr_c (dg_iload dX11_leads_75) <| dr_c (dg_no) <| dr_c (dg_iconst (by decide) dX11_leads_77) <| dr_c (dg_iadd dX11_leads_78) <| dr_c (dg_aload_n (k := 0) rfl dX11_leads_79) <| dr_n
theorem tr_173_5 : dm_AllR (dm_Good dm_tb RX11 cX11_leads 11 (some .boolean) false none) 80 [dm_getf 83 8 4, dm_no, dm_no, dm_ild 84 2, dm_push 85 (.int 1), dm_ii 86 (fun x y => x + y), dm_iald 87, dm_ic_ge 90 102, dm_no, dm_no, dm_ald 91 0, dm_getf 94 8 0, dm_no, dm_no, dm_ild 96 4, dm_no] := dr_c (dg_getf (T := TX11) (C := RX11) (N := 68) dX11_leads_80 rfl (by decide) iw_X11 wd_952) <| dr_c (dg_no) <| dr_c (dg_no) <| dr_c (dg_iload_n (k := 2) rfl dX11_leads_83) <| dr_c (dg_iconst (by decide) dX11_leads_84) <| dr_c (dg_iadd dX11_leads_85) <| dr_c (dg_iald dX11_leads_86) <| dr_c (dg_ic_ge (by decide) dX11_leads_87) <| dr_c (dg_no) <| dr_c (dg_no) <| dr_c (dg_aload_n (k := 0) rfl dX11_leads_90) <| dr_c (dg_getf (T := TX11) (C := RX11) (N := 68) dX11_leads_91 rfl (by decide) iw_X11 wd_948) <| dr_c (dg_no) <| dr_c (dg_no) <| dr_c (dg_iload dX11_leads_94) <| dr_c (dg_no) <| dr_n
theorem tr_173_6 : dm_AllR (dm_Good dm_tb RX11 cX11_leads 11 (some .boolean) false none) 96 [dm_push 97 (.int 1), dm_ii 98 (fun x y => x + y), dm_lald 99, dm_goto 105, dm_no, dm_no, dm_push 105 (.long 1152921504606846976), dm_no, dm_no, dm_lst 107 9, dm_no, dm_lld 109 7, dm_no, dm_lld 111 9, dm_no, dm_lc 112] := dr_c (dg_iconst (by decide) dX11_leads_96) <| dr_c (dg_iadd dX11_leads_97) <| dr_c (dg_lald dX11_leads_98) <| dr_c (dg_goto (by decide) dX11_leads_99) <| dr_c (dg_no) <| dr_c (dg_no) <| dr_c (dg_ldc2 wd_918 dX11_leads_102) <| dr_c (dg_no) <| dr_c (dg_no) <| dr_c (dg_lstore (by decide) dX11_leads_105) <| dr_c (dg_no) <| dr_c (dg_lload dX11_leads_107) <| dr_c (dg_no) <| dr_c (dg_lload dX11_leads_109) <| dr_c (dg_no) <| dr_c (dg_lcmp dX11_leads_111) <| dr_n
theorem tr_173_7 : dm_AllR (dm_Good dm_tb RX11 cX11_leads 11 (some .boolean) false none) 112 [dm_if_ge 115 120, dm_no, dm_no, dm_lld 117 7, dm_no, dm_goto 122, dm_no, dm_no, dm_lld 122 9, dm_no, dm_lst 124 5, dm_no, dm_lld 126 7, dm_no, dm_lld 128 5, dm_no] := dr_c (dg_if_ge (by decide) dX11_leads_112) <| dr_c (dg_no) <| dr_c (dg_no) <| dr_c (dg_lload dX11_leads_115) <| dr_c (dg_no) <| dr_c (dg_goto (by decide) dX11_leads_117) <| dr_c (dg_no) <| dr_c (dg_no) <| dr_c (dg_lload dX11_leads_120) <| dr_c (dg_no) <| dr_c (dg_lstore (by decide) dX11_leads_122) <| dr_c (dg_no) <| dr_c (dg_lload dX11_leads_124) <| dr_c (dg_no) <| dr_c (dg_lload dX11_leads_126) <| dr_c (dg_no) <| dr_n
theorem tr_173_8 : dm_AllR (dm_Good dm_tb RX11 cX11_leads 11 (some .boolean) false none) 128 [dm_lc 129, dm_if_ne 132 135, dm_no, dm_no, dm_iinc 135 3 1, dm_no, dm_no, dm_lld 137 9, dm_no, dm_lld 139 5, dm_no, dm_lc 140, dm_if_ne 143 146, dm_no, dm_no, dm_iinc 146 4 1] := dr_c (dg_lcmp dX11_leads_128) <| dr_c (dg_if_ne (by decide) dX11_leads_129) <| dr_c (dg_no) <| dr_c (dg_no) <| dr_c (dg_iinc (by decide) (by decide) dX11_leads_132) <| dr_c (dg_no) <| dr_c (dg_no) <| dr_c (dg_lload dX11_leads_135) <| dr_c (dg_no) <| dr_c (dg_lload dX11_leads_137) <| dr_c (dg_no) <| dr_c (dg_lcmp dX11_leads_139) <| dr_c (dg_if_ne (by decide) dX11_leads_140) <| dr_c (dg_no) <| dr_c (dg_no) <| dr_c (dg_iinc (by decide) (by decide) dX11_leads_143) <| dr_n
theorem tr_173_9 : dm_AllR (dm_Good dm_tb RX11 cX11_leads 11 (some .boolean) false none) 144 [dm_no, dm_no, dm_goto 18, dm_no, dm_no, dm_push 150 (.int 1), dm_ret .boolean] := dr_c (dg_no) <| dr_c (dg_no) <| dr_c (dg_goto (by decide) dX11_leads_146) <| dr_c (dg_no) <| dr_c (dg_no) <| dr_c (dg_iconst (by decide) dX11_leads_149) <| dr_c (dg_ret dX11_leads_150) <| dr_n
theorem tk_173 : dm_AllC (dm_Good dm_tb RX11 cX11_leads 11 (some .boolean) false none) 0 cd_173 := dc_c (by decide) tr_173_0 <| dc_c (by decide) tr_173_1 <| dc_c (by decide) tr_173_2 <| dc_c (by decide) tr_173_3 <| dc_c (by decide) tr_173_4 <| dc_c (by decide) tr_173_5 <| dc_c (by decide) tr_173_6 <| dc_c (by decide) tr_173_7 <| dc_c (by decide) tr_173_8 <| dc_c (by decide) tr_173_9 <| dc_n
theorem dX11_relation_0 : decode cX11_relation 0 = .ok (.aload_n 0, 1) := by decide +kernel
theorem dX11_relation_1 : decode cX11_relation 1 = .ok (.iconst 0, 1) := by decide +kernel
theorem dX11_relation_2 : decode cX11_relation 2 = .ok (.putfield 165, 3) := by decide +kernel
theorem dX11_relation_5 : decode cX11_relation 5 = .ok (.aload_n 0, 1) := by decide +kernel
theorem dX11_relation_6 : decode cX11_relation 6 = .ok (.iload_n 1, 1) := by decide +kernel
theorem dX11_relation_7 : decode cX11_relation 7 = .ok (.invokevirtual 192, 3) := by decide +kernel
theorem dX11_relation_10 : decode cX11_relation 10 = .ok (.ifCond .eq 11, 3) := by decide +kernel
theorem dX11_relation_13 : decode cX11_relation 13 = .ok (.aload_n 0, 1) := by decide +kernel
theorem dX11_relation_14 : decode cX11_relation 14 = .ok (.iload_n 2, 1) := by decide +kernel
theorem dX11_relation_15 : decode cX11_relation 15 = .ok (.invokevirtual 192, 3) := by decide +kernel
theorem dX11_relation_18 : decode cX11_relation 18 = .ok (.ifCond .ne 5, 3) := by decide +kernel
theorem dX11_relation_21 : decode cX11_relation 21 = .ok (.iconst (-1), 1) := by decide +kernel
theorem dX11_relation_22 : decode cX11_relation 22 = .ok (.ireturn, 1) := by decide +kernel
theorem dX11_relation_23 : decode cX11_relation 23 = .ok (.aload_n 0, 1) := by decide +kernel
theorem dX11_relation_24 : decode cX11_relation 24 = .ok (.iload_n 1, 1) := by decide +kernel
theorem dX11_relation_25 : decode cX11_relation 25 = .ok (.iload_n 2, 1) := by decide +kernel
theorem dX11_relation_26 : decode cX11_relation 26 = .ok (.invokevirtual 295, 3) := by decide +kernel
theorem dX11_relation_29 : decode cX11_relation 29 = .ok (.istore_n 3, 1) := by decide +kernel
theorem dX11_relation_30 : decode cX11_relation 30 = .ok (.aload_n 0, 1) := by decide +kernel
theorem dX11_relation_31 : decode cX11_relation 31 = .ok (.iload_n 2, 1) := by decide +kernel
theorem dX11_relation_32 : decode cX11_relation 32 = .ok (.iload_n 1, 1) := by decide +kernel
theorem dX11_relation_33 : decode cX11_relation 33 = .ok (.invokevirtual 295, 3) := by decide +kernel
theorem dX11_relation_36 : decode cX11_relation 36 = .ok (.istore 4, 2) := by decide +kernel
theorem dX11_relation_38 : decode cX11_relation 38 = .ok (.iload_n 3, 1) := by decide +kernel
theorem dX11_relation_39 : decode cX11_relation 39 = .ok (.ifCond .eq 12, 3) := by decide +kernel
theorem dX11_relation_42 : decode cX11_relation 42 = .ok (.iload 4, 2) := by decide +kernel
theorem dX11_relation_44 : decode cX11_relation 44 = .ok (.ifCond .eq 7, 3) := by decide +kernel
theorem dX11_relation_47 : decode cX11_relation 47 = .ok (.iconst 0, 1) := by decide +kernel
theorem dX11_relation_48 : decode cX11_relation 48 = .ok (.goto 21, 3) := by decide +kernel
theorem dX11_relation_51 : decode cX11_relation 51 = .ok (.iload_n 3, 1) := by decide +kernel
theorem dX11_relation_52 : decode cX11_relation 52 = .ok (.ifCond .eq 7, 3) := by decide +kernel
theorem dX11_relation_55 : decode cX11_relation 55 = .ok (.iconst 1, 1) := by decide +kernel
theorem dX11_relation_56 : decode cX11_relation 56 = .ok (.goto 13, 3) := by decide +kernel
theorem dX11_relation_59 : decode cX11_relation 59 = .ok (.iload 4, 2) := by decide +kernel
theorem dX11_relation_61 : decode cX11_relation 61 = .ok (.ifCond .eq 7, 3) := by decide +kernel
theorem dX11_relation_64 : decode cX11_relation 64 = .ok (.iconst 2, 1) := by decide +kernel
theorem dX11_relation_65 : decode cX11_relation 65 = .ok (.goto 4, 3) := by decide +kernel
theorem dX11_relation_68 : decode cX11_relation 68 = .ok (.iconst 3, 1) := by decide +kernel
theorem dX11_relation_69 : decode cX11_relation 69 = .ok (.ireturn, 1) := by decide +kernel
def cd_174 : dm_Code := [[dm_ald 1 0, dm_push 2 (.int 0), dm_putf 5 8 40 .int, dm_no, dm_no, dm_ald 6 0, dm_ild 7 1, dm_inv 10 136 1 8, dm_no, dm_no, dm_if_eq 13 21, dm_no, dm_no, dm_ald 14 0, dm_ild 15 2, dm_inv 18 136 1 8],
  [dm_no, dm_no, dm_if_ne 21 23, dm_no, dm_no, dm_push 22 (.int (-1)), dm_ret .int, dm_ald 24 0, dm_ild 25 1, dm_ild 26 2, dm_inv 29 173 2 8, dm_no, dm_no, dm_ist 30 3, dm_ald 31 0, dm_ild 32 2],
  [dm_ild 33 1, dm_inv 36 173 2 8, dm_no, dm_no, dm_ist 38 4, dm_no, dm_ild 39 3, dm_if_eq 42 51, dm_no, dm_no, dm_ild 44 4, dm_no, dm_if_eq 47 51, dm_no, dm_no, dm_push 48 (.int 0)],
  [dm_goto 69, dm_no, dm_no, dm_ild 52 3, dm_if_eq 55 59, dm_no, dm_no, dm_push 56 (.int 1), dm_goto 69, dm_no, dm_no, dm_ild 61 4, dm_no, dm_if_eq 64 68, dm_no, dm_no],
  [dm_push 65 (.int 2), dm_goto 69, dm_no, dm_no, dm_push 69 (.int 3), dm_ret .int]]
theorem tr_174_0 : dm_AllR (dm_Good dm_tb RX11 cX11_relation 5 (some .int) false none) 0 [dm_ald 1 0, dm_push 2 (.int 0), dm_putf 5 8 40 .int, dm_no, dm_no, dm_ald 6 0, dm_ild 7 1, dm_inv 10 136 1 8, dm_no, dm_no, dm_if_eq 13 21, dm_no, dm_no, dm_ald 14 0, dm_ild 15 2, dm_inv 18 136 1 8] := dr_c (dg_aload_n (k := 0) rfl dX11_relation_0) <| dr_c (dg_iconst (by decide) dX11_relation_1) <| dr_c (dg_putf (T := TX11) (C := RX11) (N := 68) dX11_relation_2 rfl (by decide) iw_X11 tyX11_ok nmX11 wd_988 rfl rfl) <| dr_c (dg_no) <| dr_c (dg_no) <| dr_c (dg_aload_n (k := 0) rfl dX11_relation_5) <| dr_c (dg_iload_n (k := 1) rfl dX11_relation_6) <| dr_c (dg_inv dX11_relation_7 mo_136 rfl rfl wd_1165 wd_1167 wd_24 pd_136) <| dr_c (dg_no) <| dr_c (dg_no) <| dr_c (dg_if_eq (by decide) dX11_relation_10) <| dr_c (dg_no) <| dr_c (dg_no) <| dr_c (dg_aload_n (k := 0) rfl dX11_relation_13) <| dr_c (dg_iload_n (k := 2) rfl dX11_relation_14) <| dr_c (dg_inv dX11_relation_15 mo_136 rfl rfl wd_1165 wd_1167 wd_24 pd_136) <| dr_n
theorem tr_174_1 : dm_AllR (dm_Good dm_tb RX11 cX11_relation 5 (some .int) false none) 16 [dm_no, dm_no, dm_if_ne 21 23, dm_no, dm_no, dm_push 22 (.int (-1)), dm_ret .int, dm_ald 24 0, dm_ild 25 1, dm_ild 26 2, dm_inv 29 173 2 8, dm_no, dm_no, dm_ist 30 3, dm_ald 31 0, dm_ild 32 2] := dr_c (dg_no) <| dr_c (dg_no) <| dr_c (dg_if_ne (by decide) dX11_relation_18) <| dr_c (dg_no) <| dr_c (dg_no) <| dr_c (dg_iconst (by decide) dX11_relation_21) <| dr_c (dg_ret dX11_relation_22) <| dr_c (dg_aload_n (k := 0) rfl dX11_relation_23) <| dr_c (dg_iload_n (k := 1) rfl dX11_relation_24) <| dr_c (dg_iload_n (k := 2) rfl dX11_relation_25) <| dr_c (dg_inv dX11_relation_26 mo_173 rfl rfl wd_1274 wd_1276 wd_44 pd_173) <| dr_c (dg_no) <| dr_c (dg_no) <| dr_c (dg_istore_n (k := 3) rfl (by decide) dX11_relation_29) <| dr_c (dg_aload_n (k := 0) rfl dX11_relation_30) <| dr_c (dg_iload_n (k := 2) rfl dX11_relation_31) <| dr_n
theorem tr_174_2 : dm_AllR (dm_Good dm_tb RX11 cX11_relation 5 (some .int) false none) 32 [dm_ild 33 1, dm_inv 36 173 2 8, dm_no, dm_no, dm_ist 38 4, dm_no, dm_ild 39 3, dm_if_eq 42 51, dm_no, dm_no, dm_ild 44 4, dm_no, dm_if_eq 47 51, dm_no, dm_no, dm_push 48 (.int 0)] := dr_c (dg_iload_n (k := 1) rfl dX11_relation_32) <| dr_c (dg_inv dX11_relation_33 mo_173 rfl rfl wd_1274 wd_1276 wd_44 pd_173) <| dr_c (dg_no) <| dr_c (dg_no) <| dr_c (dg_istore (by decide) dX11_relation_36) <| dr_c (dg_no) <| dr_c (dg_iload_n (k := 3) rfl dX11_relation_38) <| dr_c (dg_if_eq (by decide) dX11_relation_39) <| dr_c (dg_no) <| dr_c (dg_no) <| dr_c (dg_iload dX11_relation_42) <| dr_c (dg_no) <| dr_c (dg_if_eq (by decide) dX11_relation_44) <| dr_c (dg_no) <| dr_c (dg_no) <| dr_c (dg_iconst (by decide) dX11_relation_47) <| dr_n
theorem tr_174_3 : dm_AllR (dm_Good dm_tb RX11 cX11_relation 5 (some .int) false none) 48 [dm_goto 69, dm_no, dm_no, dm_ild 52 3, dm_if_eq 55 59, dm_no, dm_no, dm_push 56 (.int 1), dm_goto 69, dm_no, dm_no, dm_ild 61 4, dm_no, dm_if_eq 64 68, dm_no, dm_no] := dr_c (dg_goto (by decide) dX11_relation_48) <| dr_c (dg_no) <| dr_c (dg_no) <| dr_c (dg_iload_n (k := 3) rfl dX11_relation_51) <| dr_c (dg_if_eq (by decide) dX11_relation_52) <| dr_c (dg_no) <| dr_c (dg_no) <| dr_c (dg_iconst (by decide) dX11_relation_55) <| dr_c (dg_goto (by decide) dX11_relation_56) <| dr_c (dg_no) <| dr_c (dg_no) <| dr_c (dg_iload dX11_relation_59) <| dr_c (dg_no) <| dr_c (dg_if_eq (by decide) dX11_relation_61) <| dr_c (dg_no) <| dr_c (dg_no) <| dr_n
theorem tr_174_4 : dm_AllR (dm_Good dm_tb RX11 cX11_relation 5 (some .int) false none) 64 [dm_push 65 (.int 2), dm_goto 69, dm_no, dm_no, dm_push 69 (.int 3), dm_ret .int] := dr_c (dg_iconst (by decide) dX11_relation_64) <| dr_c (dg_goto (by decide) dX11_relation_65) <| dr_c (dg_no) <| dr_c (dg_no) <| dr_c (dg_iconst (by decide) dX11_relation_68) <| dr_c (dg_ret dX11_relation_69) <| dr_n
theorem tk_174 : dm_AllC (dm_Good dm_tb RX11 cX11_relation 5 (some .int) false none) 0 cd_174 := dc_c (by decide) tr_174_0 <| dc_c (by decide) tr_174_1 <| dc_c (by decide) tr_174_2 <| dc_c (by decide) tr_174_3 <| dc_c (by decide) tr_174_4 <| dc_n
theorem dX11_unseen_0 : decode cX11_unseen 0 = .ok (.aload_n 0, 1) := by decide +kernel
theorem dX11_unseen_1 : decode cX11_unseen 1 = .ok (.iconst 0, 1) := by decide +kernel
theorem dX11_unseen_2 : decode cX11_unseen 2 = .ok (.putfield 165, 3) := by decide +kernel
theorem dX11_unseen_5 : decode cX11_unseen 5 = .ok (.aload_n 0, 1) := by decide +kernel
theorem dX11_unseen_6 : decode cX11_unseen 6 = .ok (.iload_n 1, 1) := by decide +kernel
theorem dX11_unseen_7 : decode cX11_unseen 7 = .ok (.invokevirtual 192, 3) := by decide +kernel
theorem dX11_unseen_10 : decode cX11_unseen 10 = .ok (.ifCond .eq 29, 3) := by decide +kernel
theorem dX11_unseen_13 : decode cX11_unseen 13 = .ok (.aload_n 0, 1) := by decide +kernel
theorem dX11_unseen_14 : decode cX11_unseen 14 = .ok (.iload_n 2, 1) := by decide +kernel
theorem dX11_unseen_15 : decode cX11_unseen 15 = .ok (.invokevirtual 192, 3) := by decide +kernel
theorem dX11_unseen_18 : decode cX11_unseen 18 = .ok (.ifCond .eq 21, 3) := by decide +kernel
theorem dX11_unseen_21 : decode cX11_unseen 21 = .ok (.aload_n 0, 1) := by decide +kernel
theorem dX11_unseen_22 : decode cX11_unseen 22 = .ok (.getfield 36, 3) := by decide +kernel
theorem dX11_unseen_25 : decode cX11_unseen 25 = .ok (.iload_n 1, 1) := by decide +kernel
theorem dX11_unseen_26 : decode cX11_unseen 26 = .ok (.baload, 1) := by decide +kernel
theorem dX11_unseen_27 : decode cX11_unseen 27 = .ok (.ifCond .ne 12, 3) := by decide +kernel
theorem dX11_unseen_30 : decode cX11_unseen 30 = .ok (.aload_n 0, 1) := by decide +kernel
theorem dX11_unseen_31 : decode cX11_unseen 31 = .ok (.getfield 36, 3) := by decide +kernel
theorem dX11_unseen_34 : decode cX11_unseen 34 = .ok (.iload_n 2, 1) := by decide +kernel
theorem dX11_unseen_35 : decode cX11_unseen 35 = .ok (.baload, 1) := by decide +kernel
theorem dX11_unseen_36 : decode cX11_unseen 36 = .ok (.ifCond .eq 5, 3) := by decide +kernel
theorem dX11_unseen_39 : decode cX11_unseen 39 = .ok (.iconst (-1), 1) := by decide +kernel
theorem dX11_unseen_40 : decode cX11_unseen 40 = .ok (.ireturn, 1) := by decide +kernel
theorem dX11_unseen_41 : decode cX11_unseen 41 = .ok (.iconst 0, 1) := by decide +kernel
theorem dX11_unseen_42 : decode cX11_unseen 42 = .ok (.istore_n 3, 1) := by decide +kernel
theorem dX11_unseen_43 : decode cX11_unseen 43 = .ok (.iconst 0, 1) := by decide +kernel
theorem dX11_unseen_44 : decode cX11_unseen 44 = .ok (.istore 4, 2) := by decide +kernel
theorem dX11_unseen_46 : decode cX11_unseen 46 = .ok (.iload 4, 2) := by decide +kernel
theorem dX11_unseen_48 : decode cX11_unseen 48 = .ok (.bipush 16, 2) := by decide +kernel
theorem dX11_unseen_50 : decode cX11_unseen 50 = .ok (.if_icmp .ge 44, 3) := by decide +kernel
theorem dX11_unseen_53 : decode cX11_unseen 53 = .ok (.iload_n 3, 1) := by decide +kernel
theorem dX11_unseen_54 : decode cX11_unseen 54 = .ok (.aload_n 0, 1) := by decide +kernel
theorem dX11_unseen_55 : decode cX11_unseen 55 = .ok (.getfield 56, 3) := by decide +kernel
theorem dX11_unseen_58 : decode cX11_unseen 58 = .ok (.bipush 16, 2) := by decide +kernel
theorem dX11_unseen_60 : decode cX11_unseen 60 = .ok (.iload_n 1, 1) := by decide +kernel
theorem dX11_unseen_61 : decode cX11_unseen 61 = .ok (.imul, 1) := by decide +kernel
theorem dX11_unseen_62 : decode cX11_unseen 62 = .ok (.iload 4, 2) := by decide +kernel
theorem dX11_unseen_64 : decode cX11_unseen 64 = .ok (.iadd, 1) := by decide +kernel
theorem dX11_unseen_65 : decode cX11_unseen 65 = .ok (.laload, 1) := by decide +kernel
theorem dX11_unseen_66 : decode cX11_unseen 66 = .ok (.aload_n 0, 1) := by decide +kernel
theorem dX11_unseen_67 : decode cX11_unseen 67 = .ok (.getfield 56, 3) := by decide +kernel
theorem dX11_unseen_70 : decode cX11_unseen 70 = .ok (.bipush 16, 2) := by decide +kernel
theorem dX11_unseen_72 : decode cX11_unseen 72 = .ok (.iload_n 2, 1) := by decide +kernel
theorem dX11_unseen_73 : decode cX11_unseen 73 = .ok (.imul, 1) := by decide +kernel
theorem dX11_unseen_74 : decode cX11_unseen 74 = .ok (.iload 4, 2) := by decide +kernel
theorem dX11_unseen_76 : decode cX11_unseen 76 = .ok (.iadd, 1) := by decide +kernel
theorem dX11_unseen_77 : decode cX11_unseen 77 = .ok (.laload, 1) := by decide +kernel
theorem dX11_unseen_78 : decode cX11_unseen 78 = .ok (.ldc2_w 298, 3) := by decide +kernel
theorem dX11_unseen_81 : decode cX11_unseen 81 = .ok (.lxor, 1) := by decide +kernel
theorem dX11_unseen_82 : decode cX11_unseen 82 = .ok (.land, 1) := by decide +kernel
theorem dX11_unseen_83 : decode cX11_unseen 83 = .ok (.invokestatic 300, 3) := by decide +kernel
theorem dX11_unseen_86 : decode cX11_unseen 86 = .ok (.iadd, 1) := by decide +kernel
theorem dX11_unseen_87 : decode cX11_unseen 87 = .ok (.istore_n 3, 1) := by decide +kernel
theorem dX11_unseen_88 : decode cX11_unseen 88 = .ok (.iinc 4 1, 3) := by decide +kernel
theorem dX11_unseen_91 : decode cX11_unseen 91 = .ok (.goto (-45), 3) := by decide +kernel
theorem dX11_unseen_94 : decode cX11_unseen 94 = .ok (.iload_n 3, 1) := by decide +kernel
theorem dX11_unseen_95 : decode cX11_unseen 95 = .ok (.ireturn, 1) := by decide +kernel
def cd_175 : dm_Code := [[dm_ald 1 0, dm_push 2 (.int 0), dm_putf 5 8 40 .int, dm_no, dm_no, dm_ald 6 0, dm_ild 7 1, dm_inv 10 136 1 8, dm_no, dm_no, dm_if_eq 13 39, dm_no, dm_no, dm_ald 14 0, dm_ild 15 2, dm_inv 18 136 1 8],
  [dm_no, dm_no, dm_if_eq 21 39, dm_no, dm_no, dm_ald 22 0, dm_getf 25 8 8, dm_no, dm_no, dm_ild 26 1, dm_bald 27, dm_if_ne 30 39, dm_no, dm_no, dm_ald 31 0, dm_getf 34 8 8],
  [dm_no, dm_no, dm_ild 35 2, dm_bald 36, dm_if_eq 39 41, dm_no, dm_no, dm_push 40 (.int (-1)), dm_ret .int, dm_push 42 (.int 0), dm_ist 43 3, dm_push 44 (.int 0), dm_ist 46 4, dm_no, dm_ild 48 4, dm_no],
  [dm_push 50 (.int 16), dm_no, dm_ic_ge 53 94, dm_no, dm_no, dm_ild 54 3, dm_ald 55 0, dm_getf 58 8 14, dm_no, dm_no, dm_push 60 (.int 16), dm_no, dm_ild 61 1, dm_ii 62 (fun x y => x * y), dm_ild 64 4, dm_no],
  [dm_ii 65 (fun x y => x + y), dm_lald 66, dm_ald 67 0, dm_getf 70 8 14, dm_no, dm_no, dm_push 72 (.int 16), dm_no, dm_ild 73 2, dm_ii 74 (fun x y => x * y), dm_ild 76 4, dm_no, dm_ii 77 (fun x y => x + y), dm_lald 78, dm_push 81 (.long (-1)), dm_no],
  [dm_no, dm_ll 82 (fun x y => x ^^^ y), dm_ll 83 (fun x y => x &&& y), dm_ins 86 208 1, dm_no, dm_no, dm_ii 87 (fun x y => x + y), dm_ist 88 3, dm_iinc 91 4 1, dm_no, dm_no, dm_goto 46, dm_no, dm_no, dm_ild 95 3, dm_ret .int]]
theorem tr_175_0 : dm_AllR (dm_Good dm_tb RX11 cX11_unseen 5 (some .int) false none) 0 [dm_ald 1 0, dm_push 2 (.int 0), dm_putf 5 8 40 .int, dm_no, dm_no, dm_ald 6 0, dm_ild 7 1, dm_inv 10 136 1 8, dm_no, dm_no, dm_if_eq 13 39, dm_no, dm_no, dm_ald 14 0, dm_ild 15 2, dm_inv 18 136 1 8] := dr_c (dg_aload_n (k := 0) rfl dX11_unseen_0) <| dr_c (dg_iconst (by decide) dX11_unseen_1) <| dr_c (dg_putf (T := TX11) (C := RX11) (N := 68) dX11_unseen_2 rfl (by decide) iw_X11 tyX11_ok nmX11 wd_988 rfl rfl) <| dr_c (dg_no) <| dr_c (dg_no) <| dr_c (dg_aload_n (k := 0) rfl dX11_unseen_5) <| dr_c (dg_iload_n (k := 1) rfl dX11_unseen_6) <| dr_c (dg_inv dX11_unseen_7 mo_136 rfl rfl wd_1165 wd_1167 wd_24 pd_136) <| dr_c (dg_no) <| dr_c (dg_no) <| dr_c (dg_if_eq (by decide) dX11_unseen_10) <| dr_c (dg_no) <| dr_c (dg_no) <| dr_c (dg_aload_n (k := 0) rfl dX11_unseen_13) <| dr_c (dg_iload_n (k := 2) rfl dX11_unseen_14) <| dr_c (dg_inv dX11_unseen_15 mo_136 rfl rfl wd_1165 wd_1167 wd_24 pd_136) <| dr_n
theorem tr_175_1 : dm_AllR (dm_Good dm_tb RX11 cX11_unseen 5 (some .int) false none) 16 [dm_no, dm_no, dm_if_eq 21 39, dm_no, dm_no, dm_ald 22 0, dm_getf 25 8 8, dm_no, dm_no, dm_ild 26 1, dm_bald 27, dm_if_ne 30 39, dm_no, dm_no, dm_ald 31 0, dm_getf 34 8 8] := dr_c (dg_no) <| dr_c (dg_no) <| dr_c (dg_if_eq (by decide) dX11_unseen_18) <| dr_c (dg_no) <| dr_c (dg_no) <| dr_c (dg_aload_n (k := 0) rfl dX11_unseen_21) <| dr_c (dg_getf (T := TX11) (C := RX11) (N := 68) dX11_unseen_22 rfl (by decide) iw_X11 wd_956) <| dr_c (dg_no) <| dr_c (dg_no) <| dr_c (dg_iload_n (k := 1) rfl dX11_unseen_25) <| dr_c (dg_bald dX11_unseen_26) <| dr_c (dg_if_ne (by decide) dX11_unseen_27) <| dr_c (dg_no) <| dr_c (dg_no) <| dr_c (dg_aload_n (k := 0) rfl dX11_unseen_30) <| dr_c (dg_getf (T := TX11) (C := RX11) (N := 68) dX11_unseen_31 rfl (by decide) iw_X11 wd_956) <| dr_n
theorem tr_175_2 : dm_AllR (dm_Good dm_tb RX11 cX11_unseen 5 (some .int) false none) 32 [dm_no, dm_no, dm_ild 35 2, dm_bald 36, dm_if_eq 39 41, dm_no, dm_no, dm_push 40 (.int (-1)), dm_ret .int, dm_push 42 (.int 0), dm_ist 43 3, dm_push 44 (.int 0), dm_ist 46 4, dm_no, dm_ild 48 4, dm_no] := dr_c (dg_no) <| dr_c (dg_no) <| dr_c (dg_iload_n (k := 2) rfl dX11_unseen_34) <| dr_c (dg_bald dX11_unseen_35) <| dr_c (dg_if_eq (by decide) dX11_unseen_36) <| dr_c (dg_no) <| dr_c (dg_no) <| dr_c (dg_iconst (by decide) dX11_unseen_39) <| dr_c (dg_ret dX11_unseen_40) <| dr_c (dg_iconst (by decide) dX11_unseen_41) <| dr_c (dg_istore_n (k := 3) rfl (by decide) dX11_unseen_42) <| dr_c (dg_iconst (by decide) dX11_unseen_43) <| dr_c (dg_istore (by decide) dX11_unseen_44) <| dr_c (dg_no) <| dr_c (dg_iload dX11_unseen_46) <| dr_c (dg_no) <| dr_n
theorem tr_175_3 : dm_AllR (dm_Good dm_tb RX11 cX11_unseen 5 (some .int) false none) 48 [dm_push 50 (.int 16), dm_no, dm_ic_ge 53 94, dm_no, dm_no, dm_ild 54 3, dm_ald 55 0, dm_getf 58 8 14, dm_no, dm_no, dm_push 60 (.int 16), dm_no, dm_ild 61 1, dm_ii 62 (fun x y => x * y), dm_ild 64 4, dm_no] := dr_c (dg_bipush (by decide) dX11_unseen_48) <| dr_c (dg_no) <| dr_c (dg_ic_ge (by decide) dX11_unseen_50) <| dr_c (dg_no) <| dr_c (dg_no) <| dr_c (dg_iload_n (k := 3) rfl dX11_unseen_53) <| dr_c (dg_aload_n (k := 0) rfl dX11_unseen_54) <| dr_c (dg_getf (T := TX11) (C := RX11) (N := 68) dX11_unseen_55 rfl (by decide) iw_X11 wd_962) <| dr_c (dg_no) <| dr_c (dg_no) <| dr_c (dg_bipush (by decide) dX11_unseen_58) <| dr_c (dg_no) <| dr_c (dg_iload_n (k := 1) rfl dX11_unseen_60) <| dr_c (dg_imul dX11_unseen_61) <| dr_c (dg_iload dX11_unseen_62) <| dr_c (dg_no) <| dr_n
theorem tr_175_4 : dm_AllR (dm_Good dm_tb RX11 cX11_unseen 5 (some .int) false none) 64 [dm_ii 65 (fun x y => x + y), dm_lald 66, dm_ald 67 0, dm_getf 70 8 14, dm_no, dm_no, dm_push 72 (.int 16), dm_no, dm_ild 73 2, dm_ii 74 (fun x y => x * y), dm_ild 76 4, dm_no, dm_ii 77 (fun x y => x + y), dm_lald 78, dm_push 81 (.long (-1)), dm_no] := dr_c (dg_iadd dX11_unseen_64) <| dr_c (dg_lald dX11_unseen_65) <| dr_c (dg_aload_n (k := 0) rfl dX11_unseen_66) <| dr_c (dg_getf (T := TX11) (C := RX11) (N := 68) dX11_unseen_67 rfl (by decide) iw_X11 wd_962) <| dr_c (dg_no) <| dr_c (dg_no) <| dr_c (dg_bipush (by decide) dX11_unseen_70) <| dr_c (dg_no) <| dr_c (dg_iload_n (k := 2) rfl dX11_unseen_72) <| dr_c (dg_imul dX11_unseen_73) <| dr_c (dg_iload dX11_unseen_74) <| dr_c (dg_no) <| dr_c (dg_iadd dX11_unseen_76) <| dr_c (dg_lald dX11_unseen_77) <| dr_c (dg_ldc2 wd_1290 dX11_unseen_78) <| dr_c (dg_no) <| dr_n
theorem tr_175_5 : dm_AllR (dm_Good dm_tb RX11 cX11_unseen 5 (some .int) false none) 80 [dm_no, dm_ll 82 (fun x y => x ^^^ y), dm_ll 83 (fun x y => x &&& y), dm_ins 86 208 1, dm_no, dm_no, dm_ii 87 (fun x y => x + y), dm_ist 88 3, dm_iinc 91 4 1, dm_no, dm_no, dm_goto 46, dm_no, dm_no, dm_ild 95 3, dm_ret .int] := dr_c (dg_no) <| dr_c (dg_lxor dX11_unseen_81) <| dr_c (dg_land dX11_unseen_82) <| dr_c (dg_ins dX11_unseen_83 mo_208 wd_1291 wd_1292 pd_208) <| dr_c (dg_no) <| dr_c (dg_no) <| dr_c (dg_iadd dX11_unseen_86) <| dr_c (dg_istore_n (k := 3) rfl (by decide) dX11_unseen_87) <| dr_c (dg_iinc (by decide) (by decide) dX11_unseen_88) <| dr_c (dg_no) <| dr_c (dg_no) <| dr_c (dg_goto (by decide) dX11_unseen_91) <| dr_c (dg_no) <| dr_c (dg_no) <| dr_c (dg_iload_n (k := 3) rfl dX11_unseen_94) <| dr_c (dg_ret dX11_unseen_95) <| dr_n
theorem tk_175 : dm_AllC (dm_Good dm_tb RX11 cX11_unseen 5 (some .int) false none) 0 cd_175 := dc_c (by decide) tr_175_0 <| dc_c (by decide) tr_175_1 <| dc_c (by decide) tr_175_2 <| dc_c (by decide) tr_175_3 <| dc_c (by decide) tr_175_4 <| dc_c (by decide) tr_175_5 <| dc_n
theorem dX11_meets_0 : decode cX11_meets 0 = .ok (.aload_n 0, 1) := by decide +kernel
theorem dX11_meets_1 : decode cX11_meets 1 = .ok (.iconst 0, 1) := by decide +kernel
theorem dX11_meets_2 : decode cX11_meets 2 = .ok (.putfield 165, 3) := by decide +kernel
theorem dX11_meets_5 : decode cX11_meets 5 = .ok (.aload_n 0, 1) := by decide +kernel
theorem dX11_meets_6 : decode cX11_meets 6 = .ok (.iload_n 1, 1) := by decide +kernel
theorem dX11_meets_7 : decode cX11_meets 7 = .ok (.invokevirtual 192, 3) := by decide +kernel
theorem dX11_meets_10 : decode cX11_meets 10 = .ok (.ifCond .eq 11, 3) := by decide +kernel
theorem dX11_meets_13 : decode cX11_meets 13 = .ok (.aload_n 0, 1) := by decide +kernel
theorem dX11_meets_14 : decode cX11_meets 14 = .ok (.iload_n 2, 1) := by decide +kernel
theorem dX11_meets_15 : decode cX11_meets 15 = .ok (.invokevirtual 192, 3) := by decide +kernel
theorem dX11_meets_18 : decode cX11_meets 18 = .ok (.ifCond .ne 5, 3) := by decide +kernel
theorem dX11_meets_21 : decode cX11_meets 21 = .ok (.iconst 0, 1) := by decide +kernel
theorem dX11_meets_22 : decode cX11_meets 22 = .ok (.ireturn, 1) := by decide +kernel
theorem dX11_meets_23 : decode cX11_meets 23 = .ok (.aload_n 0, 1) := by decide +kernel
theorem dX11_meets_24 : decode cX11_meets 24 = .ok (.getfield 26, 3) := by decide +kernel
theorem dX11_meets_27 : decode cX11_meets 27 = .ok (.iload_n 1, 1) := by decide +kernel
theorem dX11_meets_28 : decode cX11_meets 28 = .ok (.iaload, 1) := by decide +kernel
theorem dX11_meets_29 : decode cX11_meets 29 = .ok (.istore_n 3, 1) := by decide +kernel
theorem dX11_meets_30 : decode cX11_meets 30 = .ok (.iload_n 3, 1) := by decide +kernel
theorem dX11_meets_31 : decode cX11_meets 31 = .ok (.aload_n 0, 1) := by decide +kernel
theorem dX11_meets_32 : decode cX11_meets 32 = .ok (.getfield 26, 3) := by decide +kernel
theorem dX11_meets_35 : decode cX11_meets 35 = .ok (.iload_n 1, 1) := by decide +kernel
theorem dX11_meets_36 : decode cX11_meets 36 = .ok (.iconst 1, 1) := by decide +kernel
theorem dX11_meets_37 : decode cX11_meets 37 = .ok (.iadd, 1) := by decide +kernel
theorem dX11_meets_38 : decode cX11_meets 38 = .ok (.iaload, 1) := by decide +kernel
theorem dX11_meets_39 : decode cX11_meets 39 = .ok (.if_icmp .ge 72, 3) := by decide +kernel
theorem dX11_meets_42 : decode cX11_meets 42 = .ok (.aload_n 0, 1) := by decide +kernel
theorem dX11_meets_43 : decode cX11_meets 43 = .ok (.getfield 26, 3) := by decide +kernel
theorem dX11_meets_46 : decode cX11_meets 46 = .ok (.iload_n 2, 1) := by decide +kernel
theorem dX11_meets_47 : decode cX11_meets 47 = .ok (.iaload, 1) := by decide +kernel
theorem dX11_meets_48 : decode cX11_meets 48 = .ok (.istore 4, 2) := by decide +kernel
theorem dX11_meets_50 : decode cX11_meets 50 = .ok (.iload 4, 2) := by decide +kernel
theorem dX11_meets_52 : decode cX11_meets 52 = .ok (.aload_n 0, 1) := by decide +kernel
theorem dX11_meets_53 : decode cX11_meets 53 = .ok (.getfield 26, 3) := by decide +kernel
theorem dX11_meets_56 : decode cX11_meets 56 = .ok (.iload_n 2, 1) := by decide +kernel
theorem dX11_meets_57 : decode cX11_meets 57 = .ok (.iconst 1, 1) := by decide +kernel
theorem dX11_meets_58 : decode cX11_meets 58 = .ok (.iadd, 1) := by decide +kernel
theorem dX11_meets_59 : decode cX11_meets 59 = .ok (.iaload, 1) := by decide +kernel
theorem dX11_meets_60 : decode cX11_meets 60 = .ok (.if_icmp .ge 45, 3) := by decide +kernel
theorem dX11_meets_63 : decode cX11_meets 63 = .ok (.aload_n 0, 1) := by decide +kernel
theorem dX11_meets_64 : decode cX11_meets 64 = .ok (.getfield 17, 3) := by decide +kernel
theorem dX11_meets_67 : decode cX11_meets 67 = .ok (.iload_n 3, 1) := by decide +kernel
theorem dX11_meets_68 : decode cX11_meets 68 = .ok (.laload, 1) := by decide +kernel
theorem dX11_meets_69 : decode cX11_meets 69 = .ok (.aload_n 0, 1) := by decide +kernel
theorem dX11_meets_70 : decode cX11_meets 70 = .ok (.getfield 20, 3) := by decide +kernel
theorem dX11_meets_73 : decode cX11_meets 73 = .ok (.iload 4, 2) := by decide +kernel
theorem dX11_meets_75 : decode cX11_meets 75 = .ok (.laload, 1) := by decide +kernel
theorem dX11_meets_76 : decode cX11_meets 76 = .ok (.lcmp, 1) := by decide +kernel
theorem dX11_meets_77 : decode cX11_meets 77 = .ok (.ifCond .ge 22, 3) := by decide +kernel
theorem dX11_meets_80 : decode cX11_meets 80 = .ok (.aload_n 0, 1) := by decide +kernel
theorem dX11_meets_81 : decode cX11_meets 81 = .ok (.getfield 17, 3) := by decide +kernel
theorem dX11_meets_84 : decode cX11_meets 84 = .ok (.iload 4, 2) := by decide +kernel
theorem dX11_meets_86 : decode cX11_meets 86 = .ok (.laload, 1) := by decide +kernel
theorem dX11_meets_87 : decode cX11_meets 87 = .ok (.aload_n 0, 1) := by decide +kernel
theorem dX11_meets_88 : decode cX11_meets 88 = .ok (.getfield 20, 3) := by decide +kernel
theorem dX11_meets_91 : decode cX11_meets 91 = .ok (.iload_n 3, 1) := by decide +kernel
theorem dX11_meets_92 : decode cX11_meets 92 = .ok (.laload, 1) := by decide +kernel
theorem dX11_meets_93 : decode cX11_meets 93 = .ok (.lcmp, 1) := by decide +kernel
theorem dX11_meets_94 : decode cX11_meets 94 = .ok (.ifCond .ge 5, 3) := by decide +kernel
theorem dX11_meets_97 : decode cX11_meets 97 = .ok (.iconst 1, 1) := by decide +kernel
theorem dX11_meets_98 : decode cX11_meets 98 = .ok (.ireturn, 1) := by decide +kernel
theorem dX11_meets_99 : decode cX11_meets 99 = .ok (.iinc 4 1, 3) := by decide +kernel
theorem dX11_meets_102 : decode cX11_meets 102 = .ok (.goto (-52), 3) := by decide +kernel
theorem dX11_meets_105 : decode cX11_meets 105 = .ok (.iinc 3 1, 3) := by decide +kernel
theorem dX11_meets_108 : decode cX11_meets 108 = .ok (.goto (-78), 3) := by decide +kernel
theorem dX11_meets_111 : decode cX11_meets 111 = .ok (.iconst 0, 1) := by decide +kernel
theorem dX11_meets_112 : decode cX11_meets 112 = .ok (.ireturn, 1) := by decide +kernel
def cd_176 : dm_Code := [[dm_ald 1 0, dm_push 2 (.int 0), dm_putf 5 8 40 .int, dm_no, dm_no, dm_ald 6 0, dm_ild 7 1, dm_inv 10 136 1 8, dm_no, dm_no, dm_if_eq 13 21, dm_no, dm_no, dm_ald 14 0, dm_ild 15 2, dm_inv 18 136 1 8],
  [dm_no, dm_no, dm_if_ne 21 23, dm_no, dm_no, dm_push 22 (.int 0), dm_ret .boolean, dm_ald 24 0, dm_getf 27 8 5, dm_no, dm_no, dm_ild 28 1, dm_iald 29, dm_ist 30 3, dm_ild 31 3, dm_ald 32 0],
  [dm_getf 35 8 5, dm_no, dm_no, dm_ild 36 1, dm_push 37 (.int 1), dm_ii 38 (fun x y => x + y), dm_iald 39, dm_ic_ge 42 111, dm_no, dm_no, dm_ald 43 0, dm_getf 46 8 5, dm_no, dm_no, dm_ild 47 2, dm_iald 48],
  [dm_ist 50 4, dm_no, dm_ild 52 4, dm_no, dm_ald 53 0, dm_getf 56 8 5, dm_no, dm_no, dm_ild 57 2, dm_push 58 (.int 1), dm_ii 59 (fun x y => x + y), dm_iald 60, dm_ic_ge 63 105, dm_no, dm_no, dm_ald 64 0],
  [dm_getf 67 8 2, dm_no, dm_no, dm_ild 68 3, dm_lald 69, dm_ald 70 0, dm_getf 73 8 3, dm_no, dm_no, dm_ild 75 4, dm_no, dm_lald 76, dm_lc 77, dm_if_ge 80 99, dm_no, dm_no],
  [dm_ald 81 0, dm_getf 84 8 2, dm_no, dm_no, dm_ild 86 4, dm_no, dm_lald 87, dm_ald 88 0, dm_getf 91 8 3, dm_no, dm_no, dm_ild 92 3, dm_lald 93, dm_lc 94, dm_if_ge 97 99, dm_no],
  [dm_no, dm_push 98 (.int 1), dm_ret .boolean, dm_iinc 102 4 1, dm_no, dm_no, dm_goto 50, dm_no, dm_no, dm_iinc 108 3 1, dm_no, dm_no, dm_goto 30, dm_no, dm_no, dm_push 112 (.int 0)],
  [dm_ret .boolean]]
theorem tr_176_0 : dm_AllR (dm_Good dm_tb RX11 cX11_meets 5 (some .boolean) false none) 0 [dm_ald 1 0, dm_push 2 (.int 0), dm_putf 5 8 40 .int, dm_no, dm_no, dm_ald 6 0, dm_ild 7 1, dm_inv 10 136 1 8, dm_no, dm_no, dm_if_eq 13 21, dm_no, dm_no, dm_ald 14 0, dm_ild 15 2, dm_inv 18 136 1 8] := dr_c (dg_aload_n (k := 0) rfl dX11_meets_0) <| dr_c (dg_iconst (by decide) dX11_meets_1) <| dr_c (dg_putf (T := TX11) (C := RX11) (N := 68) dX11_meets_2 rfl (by decide) iw_X11 tyX11_ok nmX11 wd_988 rfl rfl) <| dr_c (dg_no) <| dr_c (dg_no) <| dr_c (dg_aload_n (k := 0) rfl dX11_meets_5) <| dr_c (dg_iload_n (k := 1) rfl dX11_meets_6) <| dr_c (dg_inv dX11_meets_7 mo_136 rfl rfl wd_1165 wd_1167 wd_24 pd_136) <| dr_c (dg_no) <| dr_c (dg_no) <| dr_c (dg_if_eq (by decide) dX11_meets_10) <| dr_c (dg_no) <| dr_c (dg_no) <| dr_c (dg_aload_n (k := 0) rfl dX11_meets_13) <| dr_c (dg_iload_n (k := 2) rfl dX11_meets_14) <| dr_c (dg_inv dX11_meets_15 mo_136 rfl rfl wd_1165 wd_1167 wd_24 pd_136) <| dr_n
theorem tr_176_1 : dm_AllR (dm_Good dm_tb RX11 cX11_meets 5 (some .boolean) false none) 16 [dm_no, dm_no, dm_if_ne 21 23, dm_no, dm_no, dm_push 22 (.int 0), dm_ret .boolean, dm_ald 24 0, dm_getf 27 8 5, dm_no, dm_no, dm_ild 28 1, dm_iald 29, dm_ist 30 3, dm_ild 31 3, dm_ald 32 0] := dr_c (dg_no) <| dr_c (dg_no) <| dr_c (dg_if_ne (by decide) dX11_meets_18) <| dr_c (dg_no) <| dr_c (dg_no) <| dr_c (dg_iconst (by decide) dX11_meets_21) <| dr_c (dg_ret dX11_meets_22) <| dr_c (dg_aload_n (k := 0) rfl dX11_meets_23) <| dr_c (dg_getf (T := TX11) (C := RX11) (N := 68) dX11_meets_24 rfl (by decide) iw_X11 wd_953) <| dr_c (dg_no) <| dr_c (dg_no) <| dr_c (dg_iload_n (k := 1) rfl dX11_meets_27) <| dr_c (dg_iald dX11_meets_28) <| dr_c (dg_istore_n (k := 3) rfl (by decide) dX11_meets_29) <| dr_c (dg_iload_n (k := 3) rfl dX11_meets_30) <| dr_c (dg_aload_n (k := 0) rfl dX11_meets_31) <| dr_n
theorem tr_176_2 : dm_AllR (dm_Good dm_tb RX11 cX11_meets 5 (some .boolean) false none) 32 [dm_getf 35 8 5, dm_no, dm_no, dm_ild 36 1, dm_push 37 (.int 1), dm_ii 38 (fun x y => x + y), dm_iald 39, dm_ic_ge 42 111, dm_no, dm_no, dm_ald 43 0, dm_getf 46 8 5, dm_no, dm_no, dm_ild 47 2, dm_iald 48] := dr_c (dg_getf (T := TX11) (C := RX11) (N := 68) dX11_meets_32 rfl (by decide) iw_X11 wd_953) <| dr_c (dg_no) <| dr_c (dg_no) <| dr_c (dg_iload_n (k := 1) rfl dX11_meets_35) <| dr_c (dg_iconst (by decide) dX11_meets_36) <| dr_c (dg_iadd dX11_meets_37) <| dr_c (dg_iald dX11_meets_38) <| dr_c (dg_ic_ge (by decide) dX11_meets_39) <| dr_c (dg_no) <| dr_c (dg_no) <| dr_c (dg_aload_n (k := 0) rfl dX11_meets_42) <| dr_c (dg_getf (T := TX11) (C := RX11) (N := 68) dX11_meets_43 rfl (by decide) iw_X11 wd_953) <| dr_c (dg_no) <| dr_c (dg_no) <| dr_c (dg_iload_n (k := 2) rfl dX11_meets_46) <| dr_c (dg_iald dX11_meets_47) <| dr_n
theorem tr_176_3 : dm_AllR (dm_Good dm_tb RX11 cX11_meets 5 (some .boolean) false none) 48 [dm_ist 50 4, dm_no, dm_ild 52 4, dm_no, dm_ald 53 0, dm_getf 56 8 5, dm_no, dm_no, dm_ild 57 2, dm_push 58 (.int 1), dm_ii 59 (fun x y => x + y), dm_iald 60, dm_ic_ge 63 105, dm_no, dm_no, dm_ald 64 0] := dr_c (dg_istore (by decide) dX11_meets_48) <| dr_c (dg_no) <| dr_c (dg_iload dX11_meets_50) <| dr_c (dg_no) <| dr_c (dg_aload_n (k := 0) rfl dX11_meets_52) <| dr_c (dg_getf (T := TX11) (C := RX11) (N := 68) dX11_meets_53 rfl (by decide) iw_X11 wd_953) <| dr_c (dg_no) <| dr_c (dg_no) <| dr_c (dg_iload_n (k := 2) rfl dX11_meets_56) <| dr_c (dg_iconst (by decide) dX11_meets_57) <| dr_c (dg_iadd dX11_meets_58) <| dr_c (dg_iald dX11_meets_59) <| dr_c (dg_ic_ge (by decide) dX11_meets_60) <| dr_c (dg_no) <| dr_c (dg_no) <| dr_c (dg_aload_n (k := 0) rfl dX11_meets_63) <| dr_n
theorem tr_176_4 : dm_AllR (dm_Good dm_tb RX11 cX11_meets 5 (some .boolean) false none) 64 [dm_getf 67 8 2, dm_no, dm_no, dm_ild 68 3, dm_lald 69, dm_ald 70 0, dm_getf 73 8 3, dm_no, dm_no, dm_ild 75 4, dm_no, dm_lald 76, dm_lc 77, dm_if_ge 80 99, dm_no, dm_no] := dr_c (dg_getf (T := TX11) (C := RX11) (N := 68) dX11_meets_64 rfl (by decide) iw_X11 wd_950) <| dr_c (dg_no) <| dr_c (dg_no) <| dr_c (dg_iload_n (k := 3) rfl dX11_meets_67) <| dr_c (dg_lald dX11_meets_68) <| dr_c (dg_aload_n (k := 0) rfl dX11_meets_69) <| dr_c (dg_getf (T := TX11) (C := RX11) (N := 68) dX11_meets_70 rfl (by decide) iw_X11 wd_951) <| dr_c (dg_no) <| dr_c (dg_no) <| dr_c (dg_iload dX11_meets_73) <| dr_c (dg_no) <| dr_c (dg_lald dX11_meets_75) <| dr_c (dg_lcmp dX11_meets_76) <| dr_c (dg_if_ge (by decide) dX11_meets_77) <| dr_c (dg_no) <| dr_c (dg_no) <| dr_n
theorem tr_176_5 : dm_AllR (dm_Good dm_tb RX11 cX11_meets 5 (some .boolean) false none) 80 [dm_ald 81 0, dm_getf 84 8 2, dm_no, dm_no, dm_ild 86 4, dm_no, dm_lald 87, dm_ald 88 0, dm_getf 91 8 3, dm_no, dm_no, dm_ild 92 3, dm_lald 93, dm_lc 94, dm_if_ge 97 99, dm_no] := dr_c (dg_aload_n (k := 0) rfl dX11_meets_80) <| dr_c (dg_getf (T := TX11) (C := RX11) (N := 68) dX11_meets_81 rfl (by decide) iw_X11 wd_950) <| dr_c (dg_no) <| dr_c (dg_no) <| dr_c (dg_iload dX11_meets_84) <| dr_c (dg_no) <| dr_c (dg_lald dX11_meets_86) <| dr_c (dg_aload_n (k := 0) rfl dX11_meets_87) <| dr_c (dg_getf (T := TX11) (C := RX11) (N := 68) dX11_meets_88 rfl (by decide) iw_X11 wd_951) <| dr_c (dg_no) <| dr_c (dg_no) <| dr_c (dg_iload_n (k := 3) rfl dX11_meets_91) <| dr_c (dg_lald dX11_meets_92) <| dr_c (dg_lcmp dX11_meets_93) <| dr_c (dg_if_ge (by decide) dX11_meets_94) <| dr_c (dg_no) <| dr_n
theorem tr_176_6 : dm_AllR (dm_Good dm_tb RX11 cX11_meets 5 (some .boolean) false none) 96 [dm_no, dm_push 98 (.int 1), dm_ret .boolean, dm_iinc 102 4 1, dm_no, dm_no, dm_goto 50, dm_no, dm_no, dm_iinc 108 3 1, dm_no, dm_no, dm_goto 30, dm_no, dm_no, dm_push 112 (.int 0)] := dr_c (dg_no) <| dr_c (dg_iconst (by decide) dX11_meets_97) <| dr_c (dg_ret dX11_meets_98) <| dr_c (dg_iinc (by decide) (by decide) dX11_meets_99) <| dr_c (dg_no) <| dr_c (dg_no) <| dr_c (dg_goto (by decide) dX11_meets_102) <| dr_c (dg_no) <| dr_c (dg_no) <| dr_c (dg_iinc (by decide) (by decide) dX11_meets_105) <| dr_c (dg_no) <| dr_c (dg_no) <| dr_c (dg_goto (by decide) dX11_meets_108) <| dr_c (dg_no) <| dr_c (dg_no) <| dr_c (dg_iconst (by decide) dX11_meets_111) <| dr_n
theorem tr_176_7 : dm_AllR (dm_Good dm_tb RX11 cX11_meets 5 (some .boolean) false none) 112 [dm_ret .boolean] := dr_c (dg_ret dX11_meets_112) <| dr_n
theorem tk_176 : dm_AllC (dm_Good dm_tb RX11 cX11_meets 5 (some .boolean) false none) 0 cd_176 := dc_c (by decide) tr_176_0 <| dc_c (by decide) tr_176_1 <| dc_c (by decide) tr_176_2 <| dc_c (by decide) tr_176_3 <| dc_c (by decide) tr_176_4 <| dc_c (by decide) tr_176_5 <| dc_c (by decide) tr_176_6 <| dc_c (by decide) tr_176_7 <| dc_n
theorem dX11_isPlace_0 : decode cX11_isPlace 0 = .ok (.iload_n 2, 1) := by decide +kernel
theorem dX11_isPlace_1 : decode cX11_isPlace 1 = .ok (.ifCond .lt 27, 3) := by decide +kernel
theorem dX11_isPlace_4 : decode cX11_isPlace 4 = .ok (.iload_n 2, 1) := by decide +kernel
theorem dX11_isPlace_5 : decode cX11_isPlace 5 = .ok (.bipush 60, 2) := by decide +kernel
theorem dX11_isPlace_7 : decode cX11_isPlace 7 = .ok (.if_icmp .gt 21, 3) := by decide +kernel
theorem dX11_isPlace_10 : decode cX11_isPlace 10 = .ok (.lload_n 0, 1) := by decide +kernel
theorem dX11_isPlace_11 : decode cX11_isPlace 11 = .ok (.lconst 0, 1) := by decide +kernel
theorem dX11_isPlace_12 : decode cX11_isPlace 12 = .ok (.lcmp, 1) := by decide +kernel
theorem dX11_isPlace_13 : decode cX11_isPlace 13 = .ok (.ifCond .lt 15, 3) := by decide +kernel
theorem dX11_isPlace_16 : decode cX11_isPlace 16 = .ok (.lload_n 0, 1) := by decide +kernel
theorem dX11_isPlace_17 : decode cX11_isPlace 17 = .ok (.lconst 1, 1) := by decide +kernel
theorem dX11_isPlace_18 : decode cX11_isPlace 18 = .ok (.iload_n 2, 1) := by decide +kernel
theorem dX11_isPlace_19 : decode cX11_isPlace 19 = .ok (.lshl, 1) := by decide +kernel
theorem dX11_isPlace_20 : decode cX11_isPlace 20 = .ok (.lcmp, 1) := by decide +kernel
theorem dX11_isPlace_21 : decode cX11_isPlace 21 = .ok (.ifCond .ge 7, 3) := by decide +kernel
theorem dX11_isPlace_24 : decode cX11_isPlace 24 = .ok (.iconst 1, 1) := by decide +kernel
theorem dX11_isPlace_25 : decode cX11_isPlace 25 = .ok (.goto 4, 3) := by decide +kernel
theorem dX11_isPlace_28 : decode cX11_isPlace 28 = .ok (.iconst 0, 1) := by decide +kernel
theorem dX11_isPlace_29 : decode cX11_isPlace 29 = .ok (.ireturn, 1) := by decide +kernel
def cd_177 : dm_Code := [[dm_ild 1 2, dm_if_lt 4 28, dm_no, dm_no, dm_ild 5 2, dm_push 7 (.int 60), dm_no, dm_ic_gt 10 28, dm_no, dm_no, dm_lld 11 0, dm_push 12 (.long 0), dm_lc 13, dm_if_lt 16 28, dm_no, dm_no],
  [dm_lld 17 0, dm_push 18 (.long 1), dm_ild 19 2, dm_li 20 (fun x y => x <<< (y.toInt64 &&& 63)), dm_lc 21, dm_if_ge 24 28, dm_no, dm_no, dm_push 25 (.int 1), dm_goto 29, dm_no, dm_no, dm_push 29 (.int 0), dm_ret .boolean]]
theorem tr_177_0 : dm_AllR (dm_Good dm_tb RX11 cX11_isPlace 3 (some .boolean) false none) 0 [dm_ild 1 2, dm_if_lt 4 28, dm_no, dm_no, dm_ild 5 2, dm_push 7 (.int 60), dm_no, dm_ic_gt 10 28, dm_no, dm_no, dm_lld 11 0, dm_push 12 (.long 0), dm_lc 13, dm_if_lt 16 28, dm_no, dm_no] := dr_c (dg_iload_n (k := 2) rfl dX11_isPlace_0) <| dr_c (dg_if_lt (by decide) dX11_isPlace_1) <| dr_c (dg_no) <| dr_c (dg_no) <| dr_c (dg_iload_n (k := 2) rfl dX11_isPlace_4) <| dr_c (dg_bipush (by decide) dX11_isPlace_5) <| dr_c (dg_no) <| dr_c (dg_ic_gt (by decide) dX11_isPlace_7) <| dr_c (dg_no) <| dr_c (dg_no) <| dr_c (dg_lload_n (k := 0) rfl dX11_isPlace_10) <| dr_c (dg_lconst (by decide) dX11_isPlace_11) <| dr_c (dg_lcmp dX11_isPlace_12) <| dr_c (dg_if_lt (by decide) dX11_isPlace_13) <| dr_c (dg_no) <| dr_c (dg_no) <| dr_n
theorem tr_177_1 : dm_AllR (dm_Good dm_tb RX11 cX11_isPlace 3 (some .boolean) false none) 16 [dm_lld 17 0, dm_push 18 (.long 1), dm_ild 19 2, dm_li 20 (fun x y => x <<< (y.toInt64 &&& 63)), dm_lc 21, dm_if_ge 24 28, dm_no, dm_no, dm_push 25 (.int 1), dm_goto 29, dm_no, dm_no, dm_push 29 (.int 0), dm_ret .boolean] := dr_c (dg_lload_n (k := 0) rfl dX11_isPlace_16) <| dr_c (dg_lconst (by decide) dX11_isPlace_17) <| dr_c (dg_iload_n (k := 2) rfl dX11_isPlace_18) <| dr_c (dg_lshl dX11_isPlace_19) <| dr_c (dg_lcmp dX11_isPlace_20) <| dr_c (dg_if_ge (by decide) dX11_isPlace_21) <| dr_c (dg_no) <| dr_c (dg_no) <| dr_c (dg_iconst (by decide) dX11_isPlace_24) <| dr_c (dg_goto (by decide) dX11_isPlace_25) <| dr_c (dg_no) <| dr_c (dg_no) <| dr_c (dg_iconst (by decide) dX11_isPlace_28) <| dr_c (dg_ret dX11_isPlace_29) <| dr_n
theorem tk_177 : dm_AllC (dm_Good dm_tb RX11 cX11_isPlace 3 (some .boolean) false none) 0 cd_177 := dc_c (by decide) tr_177_0 <| dc_c (by decide) tr_177_1 <| dc_n
theorem dX11_heightAt_0 : decode cX11_heightAt 0 = .ok (.aload_n 0, 1) := by decide +kernel
theorem dX11_heightAt_1 : decode cX11_heightAt 1 = .ok (.getfield 23, 3) := by decide +kernel
theorem dX11_heightAt_4 : decode cX11_heightAt 4 = .ok (.iload_n 1, 1) := by decide +kernel
theorem dX11_heightAt_5 : decode cX11_heightAt 5 = .ok (.iaload, 1) := by decide +kernel
theorem dX11_heightAt_6 : decode cX11_heightAt 6 = .ok (.istore 4, 2) := by decide +kernel
theorem dX11_heightAt_8 : decode cX11_heightAt 8 = .ok (.iload 4, 2) := by decide +kernel
theorem dX11_heightAt_10 : decode cX11_heightAt 10 = .ok (.iconst 1, 1) := by decide +kernel
theorem dX11_heightAt_11 : decode cX11_heightAt 11 = .ok (.iadd, 1) := by decide +kernel
theorem dX11_heightAt_12 : decode cX11_heightAt 12 = .ok (.aload_n 0, 1) := by decide +kernel
theorem dX11_heightAt_13 : decode cX11_heightAt 13 = .ok (.getfield 23, 3) := by decide +kernel
theorem dX11_heightAt_16 : decode cX11_heightAt 16 = .ok (.iload_n 1, 1) := by decide +kernel
theorem dX11_heightAt_17 : decode cX11_heightAt 17 = .ok (.iconst 1, 1) := by decide +kernel
theorem dX11_heightAt_18 : decode cX11_heightAt 18 = .ok (.iadd, 1) := by decide +kernel
theorem dX11_heightAt_19 : decode cX11_heightAt 19 = .ok (.iaload, 1) := by decide +kernel
theorem dX11_heightAt_20 : decode cX11_heightAt 20 = .ok (.if_icmp .ge 23, 3) := by decide +kernel
theorem dX11_heightAt_23 : decode cX11_heightAt 23 = .ok (.aload_n 0, 1) := by decide +kernel
theorem dX11_heightAt_24 : decode cX11_heightAt 24 = .ok (.getfield 9, 3) := by decide +kernel
theorem dX11_heightAt_27 : decode cX11_heightAt 27 = .ok (.iload 4, 2) := by decide +kernel
theorem dX11_heightAt_29 : decode cX11_heightAt 29 = .ok (.iconst 1, 1) := by decide +kernel
theorem dX11_heightAt_30 : decode cX11_heightAt 30 = .ok (.iadd, 1) := by decide +kernel
theorem dX11_heightAt_31 : decode cX11_heightAt 31 = .ok (.laload, 1) := by decide +kernel
theorem dX11_heightAt_32 : decode cX11_heightAt 32 = .ok (.lload_n 2, 1) := by decide +kernel
theorem dX11_heightAt_33 : decode cX11_heightAt 33 = .ok (.lcmp, 1) := by decide +kernel
theorem dX11_heightAt_34 : decode cX11_heightAt 34 = .ok (.ifCond .gt 9, 3) := by decide +kernel
theorem dX11_heightAt_37 : decode cX11_heightAt 37 = .ok (.iinc 4 1, 3) := by decide +kernel
theorem dX11_heightAt_40 : decode cX11_heightAt 40 = .ok (.goto (-32), 3) := by decide +kernel
theorem dX11_heightAt_43 : decode cX11_heightAt 43 = .ok (.aload_n 0, 1) := by decide +kernel
theorem dX11_heightAt_44 : decode cX11_heightAt 44 = .ok (.getfield 13, 3) := by decide +kernel
theorem dX11_heightAt_47 : decode cX11_heightAt 47 = .ok (.iload 4, 2) := by decide +kernel
theorem dX11_heightAt_49 : decode cX11_heightAt 49 = .ok (.iaload, 1) := by decide +kernel
theorem dX11_heightAt_50 : decode cX11_heightAt 50 = .ok (.ireturn, 1) := by decide +kernel
def cd_178 : dm_Code := [[dm_ald 1 0, dm_getf 4 8 4, dm_no, dm_no, dm_ild 5 1, dm_iald 6, dm_ist 8 4, dm_no, dm_ild 10 4, dm_no, dm_push 11 (.int 1), dm_ii 12 (fun x y => x + y), dm_ald 13 0, dm_getf 16 8 4, dm_no, dm_no],
  [dm_ild 17 1, dm_push 18 (.int 1), dm_ii 19 (fun x y => x + y), dm_iald 20, dm_ic_ge 23 43, dm_no, dm_no, dm_ald 24 0, dm_getf 27 8 0, dm_no, dm_no, dm_ild 29 4, dm_no, dm_push 30 (.int 1), dm_ii 31 (fun x y => x + y), dm_lald 32],
  [dm_lld 33 2, dm_lc 34, dm_if_gt 37 43, dm_no, dm_no, dm_iinc 40 4 1, dm_no, dm_no, dm_goto 8, dm_no, dm_no, dm_ald 44 0, dm_getf 47 8 1, dm_no, dm_no, dm_ild 49 4],
  [dm_no, dm_iald 50, dm_ret .int]]
theorem tr_178_0 : dm_AllR (dm_Good dm_tb RX11 cX11_heightAt 5 (some .int) false none) 0 [dm_ald 1 0, dm_getf 4 8 4, dm_no, dm_no, dm_ild 5 1, dm_iald 6, dm_ist 8 4, dm_no, dm_ild 10 4, dm_no, dm_push 11 (.int 1), dm_ii 12 (fun x y => x + y), dm_ald 13 0, dm_getf 16 8 4, dm_no, dm_no] := dr_c (dg_aload_n (k := 0) rfl dX11_heightAt_0) <| dr_c (dg_getf (T := TX11) (C := RX11) (N := 68) dX11_heightAt_1 rfl (by decide) iw_X11 wd_952) <| dr_c (dg_no) <| dr_c (dg_no) <| dr_c (dg_iload_n (k := 1) rfl dX11_heightAt_4) <| dr_c (dg_iald dX11_heightAt_5) <| dr_c (dg_istore (by decide) dX11_heightAt_6) <| dr_c (dg_no) <| dr_c (dg_iload dX11_heightAt_8) <| dr_c (dg_no) <| dr_c (dg_iconst (by decide) dX11_heightAt_10) <| dr_c (dg_iadd dX11_heightAt_11) <| dr_c (dg_aload_n (k := 0) rfl dX11_heightAt_12) <| dr_c (dg_getf (T := TX11) (C := RX11) (N := 68) dX11_heightAt_13 rfl (by decide) iw_X11 wd_952) <| dr_c (dg_no) <| dr_c (dg_no) <| dr_n
theorem tr_178_1 : dm_AllR (dm_Good dm_tb RX11 cX11_heightAt 5 (some .int) false none) 16 [dm_ild 17 1, dm_push 18 (.int 1), dm_ii 19 (fun x y => x + y), dm_iald 20, dm_ic_ge 23 43, dm_no, dm_no, dm_ald 24 0, dm_getf 27 8 0, dm_no, dm_no, dm_ild 29 4, dm_no, dm_push 30 (.int 1), dm_ii 31 (fun x y => x + y), dm_lald 32] := dr_c (dg_iload_n (k := 1) rfl dX11_heightAt_16) <| dr_c (dg_iconst (by decide) dX11_heightAt_17) <| dr_c (dg_iadd dX11_heightAt_18) <| dr_c (dg_iald dX11_heightAt_19) <| dr_c (dg_ic_ge (by decide) dX11_heightAt_20) <| dr_c (dg_no) <| dr_c (dg_no) <| dr_c (dg_aload_n (k := 0) rfl dX11_heightAt_23) <| dr_c (dg_getf (T := TX11) (C := RX11) (N := 68) dX11_heightAt_24 rfl (by decide) iw_X11 wd_948) <| dr_c (dg_no) <| dr_c (dg_no) <| dr_c (dg_iload dX11_heightAt_27) <| dr_c (dg_no) <| dr_c (dg_iconst (by decide) dX11_heightAt_29) <| dr_c (dg_iadd dX11_heightAt_30) <| dr_c (dg_lald dX11_heightAt_31) <| dr_n
theorem tr_178_2 : dm_AllR (dm_Good dm_tb RX11 cX11_heightAt 5 (some .int) false none) 32 [dm_lld 33 2, dm_lc 34, dm_if_gt 37 43, dm_no, dm_no, dm_iinc 40 4 1, dm_no, dm_no, dm_goto 8, dm_no, dm_no, dm_ald 44 0, dm_getf 47 8 1, dm_no, dm_no, dm_ild 49 4] := dr_c (dg_lload_n (k := 2) rfl dX11_heightAt_32) <| dr_c (dg_lcmp dX11_heightAt_33) <| dr_c (dg_if_gt (by decide) dX11_heightAt_34) <| dr_c (dg_no) <| dr_c (dg_no) <| dr_c (dg_iinc (by decide) (by decide) dX11_heightAt_37) <| dr_c (dg_no) <| dr_c (dg_no) <| dr_c (dg_goto (by decide) dX11_heightAt_40) <| dr_c (dg_no) <| dr_c (dg_no) <| dr_c (dg_aload_n (k := 0) rfl dX11_heightAt_43) <| dr_c (dg_getf (T := TX11) (C := RX11) (N := 68) dX11_heightAt_44 rfl (by decide) iw_X11 wd_949) <| dr_c (dg_no) <| dr_c (dg_no) <| dr_c (dg_iload dX11_heightAt_47) <| dr_n
theorem tr_178_3 : dm_AllR (dm_Good dm_tb RX11 cX11_heightAt 5 (some .int) false none) 48 [dm_no, dm_iald 50, dm_ret .int] := dr_c (dg_no) <| dr_c (dg_iald dX11_heightAt_49) <| dr_c (dg_ret dX11_heightAt_50) <| dr_n
theorem tk_178 : dm_AllC (dm_Good dm_tb RX11 cX11_heightAt 5 (some .int) false none) 0 cd_178 := dc_c (by decide) tr_178_0 <| dc_c (by decide) tr_178_1 <| dc_c (by decide) tr_178_2 <| dc_c (by decide) tr_178_3 <| dc_n
theorem dX11_height_0 : decode cX11_height 0 = .ok (.aload_n 0, 1) := by decide +kernel
theorem dX11_height_1 : decode cX11_height 1 = .ok (.iconst 0, 1) := by decide +kernel
theorem dX11_height_2 : decode cX11_height 2 = .ok (.putfield 165, 3) := by decide +kernel
theorem dX11_height_5 : decode cX11_height 5 = .ok (.aload_n 0, 1) := by decide +kernel
theorem dX11_height_6 : decode cX11_height 6 = .ok (.iload_n 1, 1) := by decide +kernel
theorem dX11_height_7 : decode cX11_height 7 = .ok (.invokevirtual 192, 3) := by decide +kernel
theorem dX11_height_10 : decode cX11_height 10 = .ok (.ifCond .eq 12, 3) := by decide +kernel
theorem dX11_height_13 : decode cX11_height 13 = .ok (.lload_n 2, 1) := by decide +kernel
theorem dX11_height_14 : decode cX11_height 14 = .ok (.iload 4, 2) := by decide +kernel
theorem dX11_height_16 : decode cX11_height 16 = .ok (.invokestatic 305, 3) := by decide +kernel
theorem dX11_height_19 : decode cX11_height 19 = .ok (.ifCond .ne 10, 3) := by decide +kernel
theorem dX11_height_22 : decode cX11_height 22 = .ok (.aload_n 0, 1) := by decide +kernel
theorem dX11_height_23 : decode cX11_height 23 = .ok (.iconst 1, 1) := by decide +kernel
theorem dX11_height_24 : decode cX11_height 24 = .ok (.putfield 165, 3) := by decide +kernel
theorem dX11_height_27 : decode cX11_height 27 = .ok (.iconst 0, 1) := by decide +kernel
theorem dX11_height_28 : decode cX11_height 28 = .ok (.ireturn, 1) := by decide +kernel
theorem dX11_height_29 : decode cX11_height 29 = .ok (.aload_n 0, 1) := by decide +kernel
theorem dX11_height_30 : decode cX11_height 30 = .ok (.iload_n 1, 1) := by decide +kernel
theorem dX11_height_31 : decode cX11_height 31 = .ok (.lload_n 2, 1) := by decide +kernel
theorem dX11_height_32 : decode cX11_height 32 = .ok (.bipush 60, 2) := by decide +kernel
theorem dX11_height_34 : decode cX11_height 34 = .ok (.iload 4, 2) := by decide +kernel
theorem dX11_height_36 : decode cX11_height 36 = .ok (.isub, 1) := by decide +kernel
theorem dX11_height_37 : decode cX11_height 37 = .ok (.lshl, 1) := by decide +kernel
theorem dX11_height_38 : decode cX11_height 38 = .ok (.invokevirtual 309, 3) := by decide +kernel
theorem dX11_height_41 : decode cX11_height 41 = .ok (.ireturn, 1) := by decide +kernel
def cd_179 : dm_Code := [[dm_ald 1 0, dm_push 2 (.int 0), dm_putf 5 8 40 .int, dm_no, dm_no, dm_ald 6 0, dm_ild 7 1, dm_inv 10 136 1 8, dm_no, dm_no, dm_if_eq 13 22, dm_no, dm_no, dm_lld 14 2, dm_ild 16 4, dm_no],
  [dm_ins 19 177 2, dm_no, dm_no, dm_if_ne 22 29, dm_no, dm_no, dm_ald 23 0, dm_push 24 (.int 1), dm_putf 27 8 40 .int, dm_no, dm_no, dm_push 28 (.int 0), dm_ret .int, dm_ald 30 0, dm_ild 31 1, dm_lld 32 2],
  [dm_push 34 (.int 60), dm_no, dm_ild 36 4, dm_no, dm_ii 37 (fun x y => x - y), dm_li 38 (fun x y => x <<< (y.toInt64 &&& 63)), dm_inv 41 178 2 8, dm_no, dm_no, dm_ret .int]]
theorem tr_179_0 : dm_AllR (dm_Good dm_tb RX11 cX11_height 5 (some .int) false none) 0 [dm_ald 1 0, dm_push 2 (.int 0), dm_putf 5 8 40 .int, dm_no, dm_no, dm_ald 6 0, dm_ild 7 1, dm_inv 10 136 1 8, dm_no, dm_no, dm_if_eq 13 22, dm_no, dm_no, dm_lld 14 2, dm_ild 16 4, dm_no] := dr_c (dg_aload_n (k := 0) rfl dX11_height_0) <| dr_c (dg_iconst (by decide) dX11_height_1) <| dr_c (dg_putf (T := TX11) (C := RX11) (N := 68) dX11_height_2 rfl (by decide) iw_X11 tyX11_ok nmX11 wd_988 rfl rfl) <| dr_c (dg_no) <| dr_c (dg_no) <| dr_c (dg_aload_n (k := 0) rfl dX11_height_5) <| dr_c (dg_iload_n (k := 1) rfl dX11_height_6) <| dr_c (dg_inv dX11_height_7 mo_136 rfl rfl wd_1165 wd_1167 wd_24 pd_136) <| dr_c (dg_no) <| dr_c (dg_no) <| dr_c (dg_if_eq (by decide) dX11_height_10) <| dr_c (dg_no) <| dr_c (dg_no) <| dr_c (dg_lload_n (k := 2) rfl dX11_height_13) <| dr_c (dg_iload dX11_height_14) <| dr_c (dg_no) <| dr_n
theorem tr_179_1 : dm_AllR (dm_Good dm_tb RX11 cX11_height 5 (some .int) false none) 16 [dm_ins 19 177 2, dm_no, dm_no, dm_if_ne 22 29, dm_no, dm_no, dm_ald 23 0, dm_push 24 (.int 1), dm_putf 27 8 40 .int, dm_no, dm_no, dm_push 28 (.int 0), dm_ret .int, dm_ald 30 0, dm_ild 31 1, dm_lld 32 2] := dr_c (dg_ins dX11_height_16 mo_177 wd_1305 wd_1306 pd_177) <| dr_c (dg_no) <| dr_c (dg_no) <| dr_c (dg_if_ne (by decide) dX11_height_19) <| dr_c (dg_no) <| dr_c (dg_no) <| dr_c (dg_aload_n (k := 0) rfl dX11_height_22) <| dr_c (dg_iconst (by decide) dX11_height_23) <| dr_c (dg_putf (T := TX11) (C := RX11) (N := 68) dX11_height_24 rfl (by decide) iw_X11 tyX11_ok nmX11 wd_988 rfl rfl) <| dr_c (dg_no) <| dr_c (dg_no) <| dr_c (dg_iconst (by decide) dX11_height_27) <| dr_c (dg_ret dX11_height_28) <| dr_c (dg_aload_n (k := 0) rfl dX11_height_29) <| dr_c (dg_iload_n (k := 1) rfl dX11_height_30) <| dr_c (dg_lload_n (k := 2) rfl dX11_height_31) <| dr_n
theorem tr_179_2 : dm_AllR (dm_Good dm_tb RX11 cX11_height 5 (some .int) false none) 32 [dm_push 34 (.int 60), dm_no, dm_ild 36 4, dm_no, dm_ii 37 (fun x y => x - y), dm_li 38 (fun x y => x <<< (y.toInt64 &&& 63)), dm_inv 41 178 2 8, dm_no, dm_no, dm_ret .int] := dr_c (dg_bipush (by decide) dX11_height_32) <| dr_c (dg_no) <| dr_c (dg_iload dX11_height_34) <| dr_c (dg_no) <| dr_c (dg_isub dX11_height_36) <| dr_c (dg_lshl dX11_height_37) <| dr_c (dg_inv dX11_height_38 mo_178 rfl rfl wd_1308 wd_1310 wd_45 pd_178) <| dr_c (dg_no) <| dr_c (dg_no) <| dr_c (dg_ret dX11_height_41) <| dr_n
theorem tk_179 : dm_AllC (dm_Good dm_tb RX11 cX11_height 5 (some .int) false none) 0 cd_179 := dc_c (by decide) tr_179_0 <| dc_c (by decide) tr_179_1 <| dc_c (by decide) tr_179_2 <| dc_n
theorem dX11_owns__0 : decode cX11_owns_ 0 = .ok (.aload_n 0, 1) := by decide +kernel
theorem dX11_owns__1 : decode cX11_owns_ 1 = .ok (.iconst 0, 1) := by decide +kernel
theorem dX11_owns__2 : decode cX11_owns_ 2 = .ok (.putfield 165, 3) := by decide +kernel
theorem dX11_owns__5 : decode cX11_owns_ 5 = .ok (.aload_n 0, 1) := by decide +kernel
theorem dX11_owns__6 : decode cX11_owns_ 6 = .ok (.iload_n 1, 1) := by decide +kernel
theorem dX11_owns__7 : decode cX11_owns_ 7 = .ok (.invokevirtual 192, 3) := by decide +kernel
theorem dX11_owns__10 : decode cX11_owns_ 10 = .ok (.ifCond .eq 12, 3) := by decide +kernel
theorem dX11_owns__13 : decode cX11_owns_ 13 = .ok (.lload_n 2, 1) := by decide +kernel
theorem dX11_owns__14 : decode cX11_owns_ 14 = .ok (.iload 4, 2) := by decide +kernel
theorem dX11_owns__16 : decode cX11_owns_ 16 = .ok (.invokestatic 305, 3) := by decide +kernel
theorem dX11_owns__19 : decode cX11_owns_ 19 = .ok (.ifCond .ne 10, 3) := by decide +kernel
theorem dX11_owns__22 : decode cX11_owns_ 22 = .ok (.aload_n 0, 1) := by decide +kernel
theorem dX11_owns__23 : decode cX11_owns_ 23 = .ok (.iconst 1, 1) := by decide +kernel
theorem dX11_owns__24 : decode cX11_owns_ 24 = .ok (.putfield 165, 3) := by decide +kernel
theorem dX11_owns__27 : decode cX11_owns_ 27 = .ok (.iconst 0, 1) := by decide +kernel
theorem dX11_owns__28 : decode cX11_owns_ 28 = .ok (.ireturn, 1) := by decide +kernel
theorem dX11_owns__29 : decode cX11_owns_ 29 = .ok (.lload_n 2, 1) := by decide +kernel
theorem dX11_owns__30 : decode cX11_owns_ 30 = .ok (.bipush 60, 2) := by decide +kernel
theorem dX11_owns__32 : decode cX11_owns_ 32 = .ok (.iload 4, 2) := by decide +kernel
theorem dX11_owns__34 : decode cX11_owns_ 34 = .ok (.isub, 1) := by decide +kernel
theorem dX11_owns__35 : decode cX11_owns_ 35 = .ok (.lshl, 1) := by decide +kernel
theorem dX11_owns__36 : decode cX11_owns_ 36 = .ok (.lstore 5, 2) := by decide +kernel
theorem dX11_owns__38 : decode cX11_owns_ 38 = .ok (.iconst 0, 1) := by decide +kernel
theorem dX11_owns__39 : decode cX11_owns_ 39 = .ok (.istore 7, 2) := by decide +kernel
theorem dX11_owns__41 : decode cX11_owns_ 41 = .ok (.aload_n 0, 1) := by decide +kernel
theorem dX11_owns__42 : decode cX11_owns_ 42 = .ok (.getfield 26, 3) := by decide +kernel
theorem dX11_owns__45 : decode cX11_owns_ 45 = .ok (.iload_n 1, 1) := by decide +kernel
theorem dX11_owns__46 : decode cX11_owns_ 46 = .ok (.iaload, 1) := by decide +kernel
theorem dX11_owns__47 : decode cX11_owns_ 47 = .ok (.istore 8, 2) := by decide +kernel
theorem dX11_owns__49 : decode cX11_owns_ 49 = .ok (.iload 8, 2) := by decide +kernel
theorem dX11_owns__51 : decode cX11_owns_ 51 = .ok (.aload_n 0, 1) := by decide +kernel
theorem dX11_owns__52 : decode cX11_owns_ 52 = .ok (.getfield 26, 3) := by decide +kernel
theorem dX11_owns__55 : decode cX11_owns_ 55 = .ok (.iload_n 1, 1) := by decide +kernel
theorem dX11_owns__56 : decode cX11_owns_ 56 = .ok (.iconst 1, 1) := by decide +kernel
theorem dX11_owns__57 : decode cX11_owns_ 57 = .ok (.iadd, 1) := by decide +kernel
theorem dX11_owns__58 : decode cX11_owns_ 58 = .ok (.iaload, 1) := by decide +kernel
theorem dX11_owns__59 : decode cX11_owns_ 59 = .ok (.if_icmp .ge 47, 3) := by decide +kernel
theorem dX11_owns__62 : decode cX11_owns_ 62 = .ok (.iload 7, 2) := by decide +kernel
theorem dX11_owns__64 : decode cX11_owns_ 64 = .ok (.ifCond .ne 29, 3) := by decide +kernel
theorem dX11_owns__67 : decode cX11_owns_ 67 = .ok (.aload_n 0, 1) := by decide +kernel
theorem dX11_owns__68 : decode cX11_owns_ 68 = .ok (.getfield 17, 3) := by decide +kernel
theorem dX11_owns__71 : decode cX11_owns_ 71 = .ok (.iload 8, 2) := by decide +kernel
theorem dX11_owns__73 : decode cX11_owns_ 73 = .ok (.laload, 1) := by decide +kernel
theorem dX11_owns__74 : decode cX11_owns_ 74 = .ok (.lload 5, 2) := by decide +kernel
theorem dX11_owns__76 : decode cX11_owns_ 76 = .ok (.lcmp, 1) := by decide +kernel
theorem dX11_owns__77 : decode cX11_owns_ 77 = .ok (.ifCond .gt 20, 3) := by decide +kernel
theorem dX11_owns__80 : decode cX11_owns_ 80 = .ok (.lload 5, 2) := by decide +kernel
theorem dX11_owns__82 : decode cX11_owns_ 82 = .ok (.aload_n 0, 1) := by decide +kernel
theorem dX11_owns__83 : decode cX11_owns_ 83 = .ok (.getfield 20, 3) := by decide +kernel
theorem dX11_owns__86 : decode cX11_owns_ 86 = .ok (.iload 8, 2) := by decide +kernel
theorem dX11_owns__88 : decode cX11_owns_ 88 = .ok (.laload, 1) := by decide +kernel
theorem dX11_owns__89 : decode cX11_owns_ 89 = .ok (.lcmp, 1) := by decide +kernel
theorem dX11_owns__90 : decode cX11_owns_ 90 = .ok (.ifCond .ge 7, 3) := by decide +kernel
theorem dX11_owns__93 : decode cX11_owns_ 93 = .ok (.iconst 1, 1) := by decide +kernel
theorem dX11_owns__94 : decode cX11_owns_ 94 = .ok (.goto 4, 3) := by decide +kernel
theorem dX11_owns__97 : decode cX11_owns_ 97 = .ok (.iconst 0, 1) := by decide +kernel
theorem dX11_owns__98 : decode cX11_owns_ 98 = .ok (.istore 7, 2) := by decide +kernel
theorem dX11_owns__100 : decode cX11_owns_ 100 = .ok (.iinc 8 1, 3) := by decide +kernel
theorem dX11_owns__103 : decode cX11_owns_ 103 = .ok (.goto (-54), 3) := by decide +kernel
theorem dX11_owns__106 : decode cX11_owns_ 106 = .ok (.iload 7, 2) := by decide +kernel
theorem dX11_owns__108 : decode cX11_owns_ 108 = .ok (.ireturn, 1) := by decide +kernel
def cd_180 : dm_Code := [[dm_ald 1 0, dm_push 2 (.int 0), dm_putf 5 8 40 .int, dm_no, dm_no, dm_ald 6 0, dm_ild 7 1, dm_inv 10 136 1 8, dm_no, dm_no, dm_if_eq 13 22, dm_no, dm_no, dm_lld 14 2, dm_ild 16 4, dm_no],
  [dm_ins 19 177 2, dm_no, dm_no, dm_if_ne 22 29, dm_no, dm_no, dm_ald 23 0, dm_push 24 (.int 1), dm_putf 27 8 40 .int, dm_no, dm_no, dm_push 28 (.int 0), dm_ret .boolean, dm_lld 30 2, dm_push 32 (.int 60), dm_no],
  [dm_ild 34 4, dm_no, dm_ii 35 (fun x y => x - y), dm_li 36 (fun x y => x <<< (y.toInt64 &&& 63)), dm_lst 38 5, dm_no, dm_push 39 (.int 0), dm_ist 41 7, dm_no, dm_ald 42 0, dm_getf 45 8 5, dm_no, dm_no, dm_ild 46 1, dm_iald 47, dm_ist 49 8],
  [dm_no, dm_ild 51 8, dm_no, dm_ald 52 0, dm_getf 55 8 5, dm_no, dm_no, dm_ild 56 1, dm_push 57 (.int 1), dm_ii 58 (fun x y => x + y), dm_iald 59, dm_ic_ge 62 106, dm_no, dm_no, dm_ild 64 7, dm_no],
  [dm_if_ne 67 93, dm_no, dm_no, dm_ald 68 0, dm_getf 71 8 2, dm_no, dm_no, dm_ild 73 8, dm_no, dm_lald 74, dm_lld 76 5, dm_no, dm_lc 77, dm_if_gt 80 97, dm_no, dm_no],
  [dm_lld 82 5, dm_no, dm_ald 83 0, dm_getf 86 8 3, dm_no, dm_no, dm_ild 88 8, dm_no, dm_lald 89, dm_lc 90, dm_if_ge 93 97, dm_no, dm_no, dm_push 94 (.int 1), dm_goto 98, dm_no],
  [dm_no, dm_push 98 (.int 0), dm_ist 100 7, dm_no, dm_iinc 103 8 1, dm_no, dm_no, dm_goto 49, dm_no, dm_no, dm_ild 108 7, dm_no, dm_ret .boolean]]
theorem tr_180_0 : dm_AllR (dm_Good dm_tb RX11 cX11_owns_ 9 (some .boolean) false none) 0 [dm_ald 1 0, dm_push 2 (.int 0), dm_putf 5 8 40 .int, dm_no, dm_no, dm_ald 6 0, dm_ild 7 1, dm_inv 10 136 1 8, dm_no, dm_no, dm_if_eq 13 22, dm_no, dm_no, dm_lld 14 2, dm_ild 16 4, dm_no] := dr_c (dg_aload_n (k := 0) rfl dX11_owns__0) <| dr_c (dg_iconst (by decide) dX11_owns__1) <| dr_c (dg_putf (T := TX11) (C := RX11) (N := 68) dX11_owns__2 rfl (by decide) iw_X11 tyX11_ok nmX11 wd_988 rfl rfl) <| dr_c (dg_no) <| dr_c (dg_no) <| dr_c (dg_aload_n (k := 0) rfl dX11_owns__5) <| dr_c (dg_iload_n (k := 1) rfl dX11_owns__6) <| dr_c (dg_inv dX11_owns__7 mo_136 rfl rfl wd_1165 wd_1167 wd_24 pd_136) <| dr_c (dg_no) <| dr_c (dg_no) <| dr_c (dg_if_eq (by decide) dX11_owns__10) <| dr_c (dg_no) <| dr_c (dg_no) <| dr_c (dg_lload_n (k := 2) rfl dX11_owns__13) <| dr_c (dg_iload dX11_owns__14) <| dr_c (dg_no) <| dr_n
theorem tr_180_1 : dm_AllR (dm_Good dm_tb RX11 cX11_owns_ 9 (some .boolean) false none) 16 [dm_ins 19 177 2, dm_no, dm_no, dm_if_ne 22 29, dm_no, dm_no, dm_ald 23 0, dm_push 24 (.int 1), dm_putf 27 8 40 .int, dm_no, dm_no, dm_push 28 (.int 0), dm_ret .boolean, dm_lld 30 2, dm_push 32 (.int 60), dm_no] := dr_c (dg_ins dX11_owns__16 mo_177 wd_1305 wd_1306 pd_177) <| dr_c (dg_no) <| dr_c (dg_no) <| dr_c (dg_if_ne (by decide) dX11_owns__19) <| dr_c (dg_no) <| dr_c (dg_no) <| dr_c (dg_aload_n (k := 0) rfl dX11_owns__22) <| dr_c (dg_iconst (by decide) dX11_owns__23) <| dr_c (dg_putf (T := TX11) (C := RX11) (N := 68) dX11_owns__24 rfl (by decide) iw_X11 tyX11_ok nmX11 wd_988 rfl rfl) <| dr_c (dg_no) <| dr_c (dg_no) <| dr_c (dg_iconst (by decide) dX11_owns__27) <| dr_c (dg_ret dX11_owns__28) <| dr_c (dg_lload_n (k := 2) rfl dX11_owns__29) <| dr_c (dg_bipush (by decide) dX11_owns__30) <| dr_c (dg_no) <| dr_n
theorem tr_180_2 : dm_AllR (dm_Good dm_tb RX11 cX11_owns_ 9 (some .boolean) false none) 32 [dm_ild 34 4, dm_no, dm_ii 35 (fun x y => x - y), dm_li 36 (fun x y => x <<< (y.toInt64 &&& 63)), dm_lst 38 5, dm_no, dm_push 39 (.int 0), dm_ist 41 7, dm_no, dm_ald 42 0, dm_getf 45 8 5, dm_no, dm_no, dm_ild 46 1, dm_iald 47, dm_ist 49 8] := dr_c (dg_iload dX11_owns__32) <| dr_c (dg_no) <| dr_c (dg_isub dX11_owns__34) <| dr_c (dg_lshl dX11_owns__35) <| dr_c (dg_lstore (by decide) dX11_owns__36) <| dr_c (dg_no) <| dr_c (dg_iconst (by decide) dX11_owns__38) <| dr_c (dg_istore (by decide) dX11_owns__39) <| dr_c (dg_no) <| dr_c (dg_aload_n (k := 0) rfl dX11_owns__41) <| dr_c (dg_getf (T := TX11) (C := RX11) (N := 68) dX11_owns__42 rfl (by decide) iw_X11 wd_953) <| dr_c (dg_no) <| dr_c (dg_no) <| dr_c (dg_iload_n (k := 1) rfl dX11_owns__45) <| dr_c (dg_iald dX11_owns__46) <| dr_c (dg_istore (by decide) dX11_owns__47) <| dr_n
theorem tr_180_3 : dm_AllR (dm_Good dm_tb RX11 cX11_owns_ 9 (some .boolean) false none) 48 [dm_no, dm_ild 51 8, dm_no, dm_ald 52 0, dm_getf 55 8 5, dm_no, dm_no, dm_ild 56 1, dm_push 57 (.int 1), dm_ii 58 (fun x y => x + y), dm_iald 59, dm_ic_ge 62 106, dm_no, dm_no, dm_ild 64 7, dm_no] := dr_c (dg_no) <| dr_c (dg_iload dX11_owns__49) <| dr_c (dg_no) <| dr_c (dg_aload_n (k := 0) rfl dX11_owns__51) <| dr_c (dg_getf (T := TX11) (C := RX11) (N := 68) dX11_owns__52 rfl (by decide) iw_X11 wd_953) <| dr_c (dg_no) <| dr_c (dg_no) <| dr_c (dg_iload_n (k := 1) rfl dX11_owns__55) <| dr_c (dg_iconst (by decide) dX11_owns__56) <| dr_c (dg_iadd dX11_owns__57) <| dr_c (dg_iald dX11_owns__58) <| dr_c (dg_ic_ge (by decide) dX11_owns__59) <| dr_c (dg_no) <| dr_c (dg_no) <| dr_c (dg_iload dX11_owns__62) <| dr_c (dg_no) <| dr_n
theorem tr_180_4 : dm_AllR (dm_Good dm_tb RX11 cX11_owns_ 9 (some .boolean) false none) 64 [dm_if_ne 67 93, dm_no, dm_no, dm_ald 68 0, dm_getf 71 8 2, dm_no, dm_no, dm_ild 73 8, dm_no, dm_lald 74, dm_lld 76 5, dm_no, dm_lc 77, dm_if_gt 80 97, dm_no, dm_no] := dr_c (dg_if_ne (by decide) dX11_owns__64) <| dr_c (dg_no) <| dr_c (dg_no) <| dr_c (dg_aload_n (k := 0) rfl dX11_owns__67) <| dr_c (dg_getf (T := TX11) (C := RX11) (N := 68) dX11_owns__68 rfl (by decide) iw_X11 wd_950) <| dr_c (dg_no) <| dr_c (dg_no) <| dr_c (dg_iload dX11_owns__71) <| dr_c (dg_no) <| dr_c (dg_lald dX11_owns__73) <| dr_c (dg_lload dX11_owns__74) <| dr_c (dg_no) <| dr_c (dg_lcmp dX11_owns__76) <| dr_c (dg_if_gt (by decide) dX11_owns__77) <| dr_c (dg_no) <| dr_c (dg_no) <| dr_n
theorem tr_180_5 : dm_AllR (dm_Good dm_tb RX11 cX11_owns_ 9 (some .boolean) false none) 80 [dm_lld 82 5, dm_no, dm_ald 83 0, dm_getf 86 8 3, dm_no, dm_no, dm_ild 88 8, dm_no, dm_lald 89, dm_lc 90, dm_if_ge 93 97, dm_no, dm_no, dm_push 94 (.int 1), dm_goto 98, dm_no] := dr_c (dg_lload dX11_owns__80) <| dr_c (dg_no) <| dr_c (dg_aload_n (k := 0) rfl dX11_owns__82) <| dr_c (dg_getf (T := TX11) (C := RX11) (N := 68) dX11_owns__83 rfl (by decide) iw_X11 wd_951) <| dr_c (dg_no) <| dr_c (dg_no) <| dr_c (dg_iload dX11_owns__86) <| dr_c (dg_no) <| dr_c (dg_lald dX11_owns__88) <| dr_c (dg_lcmp dX11_owns__89) <| dr_c (dg_if_ge (by decide) dX11_owns__90) <| dr_c (dg_no) <| dr_c (dg_no) <| dr_c (dg_iconst (by decide) dX11_owns__93) <| dr_c (dg_goto (by decide) dX11_owns__94) <| dr_c (dg_no) <| dr_n
theorem tr_180_6 : dm_AllR (dm_Good dm_tb RX11 cX11_owns_ 9 (some .boolean) false none) 96 [dm_no, dm_push 98 (.int 0), dm_ist 100 7, dm_no, dm_iinc 103 8 1, dm_no, dm_no, dm_goto 49, dm_no, dm_no, dm_ild 108 7, dm_no, dm_ret .boolean] := dr_c (dg_no) <| dr_c (dg_iconst (by decide) dX11_owns__97) <| dr_c (dg_istore (by decide) dX11_owns__98) <| dr_c (dg_no) <| dr_c (dg_iinc (by decide) (by decide) dX11_owns__100) <| dr_c (dg_no) <| dr_c (dg_no) <| dr_c (dg_goto (by decide) dX11_owns__103) <| dr_c (dg_no) <| dr_c (dg_no) <| dr_c (dg_iload dX11_owns__106) <| dr_c (dg_no) <| dr_c (dg_ret dX11_owns__108) <| dr_n
theorem tk_180 : dm_AllC (dm_Good dm_tb RX11 cX11_owns_ 9 (some .boolean) false none) 0 cd_180 := dc_c (by decide) tr_180_0 <| dc_c (by decide) tr_180_1 <| dc_c (by decide) tr_180_2 <| dc_c (by decide) tr_180_3 <| dc_c (by decide) tr_180_4 <| dc_c (by decide) tr_180_5 <| dc_c (by decide) tr_180_6 <| dc_n
theorem dX11_stamp_0 : decode cX11_stamp 0 = .ok (.aload_n 0, 1) := by decide +kernel
theorem dX11_stamp_1 : decode cX11_stamp 1 = .ok (.iconst 0, 1) := by decide +kernel
theorem dX11_stamp_2 : decode cX11_stamp 2 = .ok (.putfield 165, 3) := by decide +kernel
theorem dX11_stamp_5 : decode cX11_stamp 5 = .ok (.aload_n 0, 1) := by decide +kernel
theorem dX11_stamp_6 : decode cX11_stamp 6 = .ok (.iload_n 1, 1) := by decide +kernel
theorem dX11_stamp_7 : decode cX11_stamp 7 = .ok (.invokevirtual 192, 3) := by decide +kernel
theorem dX11_stamp_10 : decode cX11_stamp 10 = .ok (.ifCond .ne 5, 3) := by decide +kernel
theorem dX11_stamp_13 : decode cX11_stamp 13 = .ok (.iconst (-1), 1) := by decide +kernel
theorem dX11_stamp_14 : decode cX11_stamp 14 = .ok (.ireturn, 1) := by decide +kernel
theorem dX11_stamp_15 : decode cX11_stamp 15 = .ok (.aload_n 0, 1) := by decide +kernel
theorem dX11_stamp_16 : decode cX11_stamp 16 = .ok (.iload_n 1, 1) := by decide +kernel
theorem dX11_stamp_17 : decode cX11_stamp 17 = .ok (.invokevirtual 250, 3) := by decide +kernel
theorem dX11_stamp_20 : decode cX11_stamp 20 = .ok (.aload_n 0, 1) := by decide +kernel
theorem dX11_stamp_21 : decode cX11_stamp 21 = .ok (.iload_n 1, 1) := by decide +kernel
theorem dX11_stamp_22 : decode cX11_stamp 22 = .ok (.invokevirtual 235, 3) := by decide +kernel
theorem dX11_stamp_25 : decode cX11_stamp 25 = .ok (.iload_n 2, 1) := by decide +kernel
theorem dX11_stamp_26 : decode cX11_stamp 26 = .ok (.tableswitch 167 0 10 #[58, 73, 80, 87, 94, 101, 108, 114, 123, 132, 147], 58) := by decide +kernel
theorem dX11_stamp_84 : decode cX11_stamp 84 = .ok (.aload_n 0, 1) := by decide +kernel
theorem dX11_stamp_85 : decode cX11_stamp 85 = .ok (.getfield 29, 3) := by decide +kernel
theorem dX11_stamp_88 : decode cX11_stamp 88 = .ok (.iload_n 1, 1) := by decide +kernel
theorem dX11_stamp_89 : decode cX11_stamp 89 = .ok (.baload, 1) := by decide +kernel
theorem dX11_stamp_90 : decode cX11_stamp 90 = .ok (.ifCond .eq 7, 3) := by decide +kernel
theorem dX11_stamp_93 : decode cX11_stamp 93 = .ok (.iconst 1, 1) := by decide +kernel
theorem dX11_stamp_94 : decode cX11_stamp 94 = .ok (.goto 4, 3) := by decide +kernel
theorem dX11_stamp_97 : decode cX11_stamp 97 = .ok (.iconst 0, 1) := by decide +kernel
theorem dX11_stamp_98 : decode cX11_stamp 98 = .ok (.ireturn, 1) := by decide +kernel
theorem dX11_stamp_99 : decode cX11_stamp 99 = .ok (.aload_n 0, 1) := by decide +kernel
theorem dX11_stamp_100 : decode cX11_stamp 100 = .ok (.getfield 50, 3) := by decide +kernel
theorem dX11_stamp_103 : decode cX11_stamp 103 = .ok (.iload_n 1, 1) := by decide +kernel
theorem dX11_stamp_104 : decode cX11_stamp 104 = .ok (.iaload, 1) := by decide +kernel
theorem dX11_stamp_105 : decode cX11_stamp 105 = .ok (.ireturn, 1) := by decide +kernel
theorem dX11_stamp_106 : decode cX11_stamp 106 = .ok (.aload_n 0, 1) := by decide +kernel
theorem dX11_stamp_107 : decode cX11_stamp 107 = .ok (.getfield 53, 3) := by decide +kernel
theorem dX11_stamp_110 : decode cX11_stamp 110 = .ok (.iload_n 1, 1) := by decide +kernel
theorem dX11_stamp_111 : decode cX11_stamp 111 = .ok (.iaload, 1) := by decide +kernel
theorem dX11_stamp_112 : decode cX11_stamp 112 = .ok (.ireturn, 1) := by decide +kernel
theorem dX11_stamp_113 : decode cX11_stamp 113 = .ok (.aload_n 0, 1) := by decide +kernel
theorem dX11_stamp_114 : decode cX11_stamp 114 = .ok (.getfield 39, 3) := by decide +kernel
theorem dX11_stamp_117 : decode cX11_stamp 117 = .ok (.iload_n 1, 1) := by decide +kernel
theorem dX11_stamp_118 : decode cX11_stamp 118 = .ok (.baload, 1) := by decide +kernel
theorem dX11_stamp_119 : decode cX11_stamp 119 = .ok (.ireturn, 1) := by decide +kernel
theorem dX11_stamp_120 : decode cX11_stamp 120 = .ok (.aload_n 0, 1) := by decide +kernel
theorem dX11_stamp_121 : decode cX11_stamp 121 = .ok (.getfield 43, 3) := by decide +kernel
theorem dX11_stamp_124 : decode cX11_stamp 124 = .ok (.iload_n 1, 1) := by decide +kernel
theorem dX11_stamp_125 : decode cX11_stamp 125 = .ok (.saload, 1) := by decide +kernel
theorem dX11_stamp_126 : decode cX11_stamp 126 = .ok (.ireturn, 1) := by decide +kernel
theorem dX11_stamp_127 : decode cX11_stamp 127 = .ok (.aload_n 0, 1) := by decide +kernel
theorem dX11_stamp_128 : decode cX11_stamp 128 = .ok (.getfield 47, 3) := by decide +kernel
theorem dX11_stamp_131 : decode cX11_stamp 131 = .ok (.iload_n 1, 1) := by decide +kernel
theorem dX11_stamp_132 : decode cX11_stamp 132 = .ok (.saload, 1) := by decide +kernel
theorem dX11_stamp_133 : decode cX11_stamp 133 = .ok (.ireturn, 1) := by decide +kernel
theorem dX11_stamp_134 : decode cX11_stamp 134 = .ok (.aload_n 0, 1) := by decide +kernel
theorem dX11_stamp_135 : decode cX11_stamp 135 = .ok (.iconst 0, 1) := by decide +kernel
theorem dX11_stamp_136 : decode cX11_stamp 136 = .ok (.invokevirtual 313, 3) := by decide +kernel
theorem dX11_stamp_139 : decode cX11_stamp 139 = .ok (.ireturn, 1) := by decide +kernel
theorem dX11_stamp_140 : decode cX11_stamp 140 = .ok (.aload_n 0, 1) := by decide +kernel
theorem dX11_stamp_141 : decode cX11_stamp 141 = .ok (.lconst 0, 1) := by decide +kernel
theorem dX11_stamp_142 : decode cX11_stamp 142 = .ok (.ldc2_w 186, 3) := by decide +kernel
theorem dX11_stamp_145 : decode cX11_stamp 145 = .ok (.invokevirtual 267, 3) := by decide +kernel
theorem dX11_stamp_148 : decode cX11_stamp 148 = .ok (.ireturn, 1) := by decide +kernel
theorem dX11_stamp_149 : decode cX11_stamp 149 = .ok (.aload_n 0, 1) := by decide +kernel
theorem dX11_stamp_150 : decode cX11_stamp 150 = .ok (.lconst 0, 1) := by decide +kernel
theorem dX11_stamp_151 : decode cX11_stamp 151 = .ok (.ldc2_w 186, 3) := by decide +kernel
theorem dX11_stamp_154 : decode cX11_stamp 154 = .ok (.invokevirtual 256, 3) := by decide +kernel
theorem dX11_stamp_157 : decode cX11_stamp 157 = .ok (.ireturn, 1) := by decide +kernel
theorem dX11_stamp_158 : decode cX11_stamp 158 = .ok (.aload_n 0, 1) := by decide +kernel
theorem dX11_stamp_159 : decode cX11_stamp 159 = .ok (.getfield 33, 3) := by decide +kernel
theorem dX11_stamp_162 : decode cX11_stamp 162 = .ok (.iload_n 1, 1) := by decide +kernel
theorem dX11_stamp_163 : decode cX11_stamp 163 = .ok (.baload, 1) := by decide +kernel
theorem dX11_stamp_164 : decode cX11_stamp 164 = .ok (.ifCond .eq 7, 3) := by decide +kernel
theorem dX11_stamp_167 : decode cX11_stamp 167 = .ok (.iconst 1, 1) := by decide +kernel
theorem dX11_stamp_168 : decode cX11_stamp 168 = .ok (.goto 4, 3) := by decide +kernel
theorem dX11_stamp_171 : decode cX11_stamp 171 = .ok (.iconst 0, 1) := by decide +kernel
theorem dX11_stamp_172 : decode cX11_stamp 172 = .ok (.ireturn, 1) := by decide +kernel
theorem dX11_stamp_173 : decode cX11_stamp 173 = .ok (.aload_n 0, 1) := by decide +kernel
theorem dX11_stamp_174 : decode cX11_stamp 174 = .ok (.iload_n 1, 1) := by decide +kernel
theorem dX11_stamp_175 : decode cX11_stamp 175 = .ok (.iload_n 1, 1) := by decide +kernel
theorem dX11_stamp_176 : decode cX11_stamp 176 = .ok (.invokevirtual 317, 3) := by decide +kernel
theorem dX11_stamp_179 : decode cX11_stamp 179 = .ok (.iconst (-1), 1) := by decide +kernel
theorem dX11_stamp_180 : decode cX11_stamp 180 = .ok (.if_icmp .ne 7, 3) := by decide +kernel
theorem dX11_stamp_183 : decode cX11_stamp 183 = .ok (.iconst (-1), 1) := by decide +kernel
theorem dX11_stamp_184 : decode cX11_stamp 184 = .ok (.goto 8, 3) := by decide +kernel
theorem dX11_stamp_187 : decode cX11_stamp 187 = .ok (.aload_n 0, 1) := by decide +kernel
theorem dX11_stamp_188 : decode cX11_stamp 188 = .ok (.iload_n 1, 1) := by decide +kernel
theorem dX11_stamp_189 : decode cX11_stamp 189 = .ok (.invokevirtual 321, 3) := by decide +kernel
theorem dX11_stamp_192 : decode cX11_stamp 192 = .ok (.ireturn, 1) := by decide +kernel
theorem dX11_stamp_193 : decode cX11_stamp 193 = .ok (.iconst (-1), 1) := by decide +kernel
theorem dX11_stamp_194 : decode cX11_stamp 194 = .ok (.ireturn, 1) := by decide +kernel
def cd_181 : dm_Code := [[dm_ald 1 0, dm_push 2 (.int 0), dm_putf 5 8 40 .int, dm_no, dm_no, dm_ald 6 0, dm_ild 7 1, dm_inv 10 136 1 8, dm_no, dm_no, dm_if_ne 13 15, dm_no, dm_no, dm_push 14 (.int (-1)), dm_ret .int, dm_ald 16 0],
  [dm_ild 17 1, dm_inv 20 141 1 8, dm_no, dm_no, dm_ald 21 0, dm_ild 22 1, dm_inv 25 142 1 8, dm_no, dm_no, dm_ild 26 2, dm_tsw 0 10 193 [84, 99, 106, 113, 120, 127, 134, 140, 149, 158, 173], dm_no, dm_no, dm_no, dm_no, dm_no],
  [dm_no, dm_no, dm_no, dm_no, dm_no, dm_no, dm_no, dm_no, dm_no, dm_no, dm_no, dm_no, dm_no, dm_no, dm_no, dm_no],
  [dm_no, dm_no, dm_no, dm_no, dm_no, dm_no, dm_no, dm_no, dm_no, dm_no, dm_no, dm_no, dm_no, dm_no, dm_no, dm_no],
  [dm_no, dm_no, dm_no, dm_no, dm_no, dm_no, dm_no, dm_no, dm_no, dm_no, dm_no, dm_no, dm_no, dm_no, dm_no, dm_no],
  [dm_no, dm_no, dm_no, dm_no, dm_ald 85 0, dm_getf 88 8 6, dm_no, dm_no, dm_ild 89 1, dm_bald 90, dm_if_eq 93 97, dm_no, dm_no, dm_push 94 (.int 1), dm_goto 98, dm_no],
  [dm_no, dm_push 98 (.int 0), dm_ret .int, dm_ald 100 0, dm_getf 103 8 12, dm_no, dm_no, dm_ild 104 1, dm_iald 105, dm_ret .int, dm_ald 107 0, dm_getf 110 8 13, dm_no, dm_no, dm_ild 111 1, dm_iald 112],
  [dm_ret .int, dm_ald 114 0, dm_getf 117 8 9, dm_no, dm_no, dm_ild 118 1, dm_bald 119, dm_ret .int, dm_ald 121 0, dm_getf 124 8 10, dm_no, dm_no, dm_ild 125 1, dm_sald 126, dm_ret .int, dm_ald 128 0],
  [dm_getf 131 8 11, dm_no, dm_no, dm_ild 132 1, dm_sald 133, dm_ret .int, dm_ald 135 0, dm_push 136 (.int 0), dm_inv 139 192 1 8, dm_no, dm_no, dm_ret .int, dm_ald 141 0, dm_push 142 (.long 0), dm_push 145 (.long 1152921504606846976), dm_no],
  [dm_no, dm_inv 148 147 2 8, dm_no, dm_no, dm_ret .int, dm_ald 150 0, dm_push 151 (.long 0), dm_push 154 (.long 1152921504606846976), dm_no, dm_no, dm_inv 157 146 2 8, dm_no, dm_no, dm_ret .int, dm_ald 159 0, dm_getf 162 8 7],
  [dm_no, dm_no, dm_ild 163 1, dm_bald 164, dm_if_eq 167 171, dm_no, dm_no, dm_push 168 (.int 1), dm_goto 172, dm_no, dm_no, dm_push 172 (.int 0), dm_ret .int, dm_ald 174 0, dm_ild 175 1, dm_ild 176 1],
  [dm_inv 179 175 2 8, dm_no, dm_no, dm_push 180 (.int (-1)), dm_ic_ne 183 187, dm_no, dm_no, dm_push 184 (.int (-1)), dm_goto 192, dm_no, dm_no, dm_ald 188 0, dm_ild 189 1, dm_inv 192 182 1 8, dm_no, dm_no],
  [dm_ret .int, dm_push 194 (.int (-1)), dm_ret .int]]
theorem tr_181_0 : dm_AllR (dm_Good dm_tb RX11 cX11_stamp 3 (some .int) false none) 0 [dm_ald 1 0, dm_push 2 (.int 0), dm_putf 5 8 40 .int, dm_no, dm_no, dm_ald 6 0, dm_ild 7 1, dm_inv 10 136 1 8, dm_no, dm_no, dm_if_ne 13 15, dm_no, dm_no, dm_push 14 (.int (-1)), dm_ret .int, dm_ald 16 0] := dr_c (dg_aload_n (k := 0) rfl dX11_stamp_0) <| dr_c (dg_iconst (by decide) dX11_stamp_1) <| dr_c (dg_putf (T := TX11) (C := RX11) (N := 68) dX11_stamp_2 rfl (by decide) iw_X11 tyX11_ok nmX11 wd_988 rfl rfl) <| dr_c (dg_no) <| dr_c (dg_no) <| dr_c (dg_aload_n (k := 0) rfl dX11_stamp_5) <| dr_c (dg_iload_n (k := 1) rfl dX11_stamp_6) <| dr_c (dg_inv dX11_stamp_7 mo_136 rfl rfl wd_1165 wd_1167 wd_24 pd_136) <| dr_c (dg_no) <| dr_c (dg_no) <| dr_c (dg_if_ne (by decide) dX11_stamp_10) <| dr_c (dg_no) <| dr_c (dg_no) <| dr_c (dg_iconst (by decide) dX11_stamp_13) <| dr_c (dg_ret dX11_stamp_14) <| dr_c (dg_aload_n (k := 0) rfl dX11_stamp_15) <| dr_n
theorem tr_181_1 : dm_AllR (dm_Good dm_tb RX11 cX11_stamp 3 (some .int) false none) 16 [dm_ild 17 1, dm_inv 20 141 1 8, dm_no, dm_no, dm_ald 21 0, dm_ild 22 1, dm_inv 25 142 1 8, dm_no, dm_no, dm_ild 26 2, dm_tsw 0 10 193 [84, 99, 106, 113, 120, 127, 134, 140, 149, 158, 173], dm_no, dm_no, dm_no, dm_no, dm_no] := dr_c (dg_iload_n (k := 1) rfl dX11_stamp_16) <| dr_c (dg_inv dX11_stamp_17 mo_141 rfl rfl wd_1189 wd_1191 wd_30 pd_141) <| dr_c (dg_no) <| dr_c (dg_no) <| dr_c (dg_aload_n (k := 0) rfl dX11_stamp_20) <| dr_c (dg_iload_n (k := 1) rfl dX11_stamp_21) <| dr_c (dg_inv dX11_stamp_22 mo_142 rfl rfl wd_1173 wd_1175 wd_26 pd_142) <| dr_c (dg_no) <| dr_c (dg_no) <| dr_c (dg_iload_n (k := 2) rfl dX11_stamp_25) <| dr_c (dg_tsw dX11_stamp_26 (by decide) (by decide)) <| dr_c (dg_no) <| dr_c (dg_no) <| dr_c (dg_no) <| dr_c (dg_no) <| dr_c (dg_no) <| dr_n
theorem tr_181_2 : dm_AllR (dm_Good dm_tb RX11 cX11_stamp 3 (some .int) false none) 32 [dm_no, dm_no, dm_no, dm_no, dm_no, dm_no, dm_no, dm_no, dm_no, dm_no, dm_no, dm_no, dm_no, dm_no, dm_no, dm_no] := dr_c (dg_no) <| dr_c (dg_no) <| dr_c (dg_no) <| dr_c (dg_no) <| dr_c (dg_no) <| dr_c (dg_no) <| dr_c (dg_no) <| dr_c (dg_no) <| dr_c (dg_no) <| dr_c (dg_no) <| dr_c (dg_no) <| dr_c (dg_no) <| dr_c (dg_no) <| dr_c (dg_no) <| dr_c (dg_no) <| dr_c (dg_no) <| dr_n
theorem tr_181_3 : dm_AllR (dm_Good dm_tb RX11 cX11_stamp 3 (some .int) false none) 48 [dm_no, dm_no, dm_no, dm_no, dm_no, dm_no, dm_no, dm_no, dm_no, dm_no, dm_no, dm_no, dm_no, dm_no, dm_no, dm_no] := dr_c (dg_no) <| dr_c (dg_no) <| dr_c (dg_no) <| dr_c (dg_no) <| dr_c (dg_no) <| dr_c (dg_no) <| dr_c (dg_no) <| dr_c (dg_no) <| dr_c (dg_no) <| dr_c (dg_no) <| dr_c (dg_no) <| dr_c (dg_no) <| dr_c (dg_no) <| dr_c (dg_no) <| dr_c (dg_no) <| dr_c (dg_no) <| dr_n
theorem tr_181_4 : dm_AllR (dm_Good dm_tb RX11 cX11_stamp 3 (some .int) false none) 64 [dm_no, dm_no, dm_no, dm_no, dm_no, dm_no, dm_no, dm_no, dm_no, dm_no, dm_no, dm_no, dm_no, dm_no, dm_no, dm_no] := dr_c (dg_no) <| dr_c (dg_no) <| dr_c (dg_no) <| dr_c (dg_no) <| dr_c (dg_no) <| dr_c (dg_no) <| dr_c (dg_no) <| dr_c (dg_no) <| dr_c (dg_no) <| dr_c (dg_no) <| dr_c (dg_no) <| dr_c (dg_no) <| dr_c (dg_no) <| dr_c (dg_no) <| dr_c (dg_no) <| dr_c (dg_no) <| dr_n
theorem tr_181_5 : dm_AllR (dm_Good dm_tb RX11 cX11_stamp 3 (some .int) false none) 80 [dm_no, dm_no, dm_no, dm_no, dm_ald 85 0, dm_getf 88 8 6, dm_no, dm_no, dm_ild 89 1, dm_bald 90, dm_if_eq 93 97, dm_no, dm_no, dm_push 94 (.int 1), dm_goto 98, dm_no] := dr_c (dg_no) <| dr_c (dg_no) <| dr_c (dg_no) <| dr_c (dg_no) <| dr_c (dg_aload_n (k := 0) rfl dX11_stamp_84) <| dr_c (dg_getf (T := TX11) (C := RX11) (N := 68) dX11_stamp_85 rfl (by decide) iw_X11 wd_954) <| dr_c (dg_no) <| dr_c (dg_no) <| dr_c (dg_iload_n (k := 1) rfl dX11_stamp_88) <| dr_c (dg_bald dX11_stamp_89) <| dr_c (dg_if_eq (by decide) dX11_stamp_90) <| dr_c (dg_no) <| dr_c (dg_no) <| dr_c (dg_iconst (by decide) dX11_stamp_93) <| dr_c (dg_goto (by decide) dX11_stamp_94) <| dr_c (dg_no) <| dr_n
theorem tr_181_6 : dm_AllR (dm_Good dm_tb RX11 cX11_stamp 3 (some .int) false none) 96 [dm_no, dm_push 98 (.int 0), dm_ret .int, dm_ald 100 0, dm_getf 103 8 12, dm_no, dm_no, dm_ild 104 1, dm_iald 105, dm_ret .int, dm_ald 107 0, dm_getf 110 8 13, dm_no, dm_no, dm_ild 111 1, dm_iald 112] := dr_c (dg_no) <| dr_c (dg_iconst (by decide) dX11_stamp_97) <| dr_c (dg_ret dX11_stamp_98) <| dr_c (dg_aload_n (k := 0) rfl dX11_stamp_99) <| dr_c (dg_getf (T := TX11) (C := RX11) (N := 68) dX11_stamp_100 rfl (by decide) iw_X11 wd_960) <| dr_c (dg_no) <| dr_c (dg_no) <| dr_c (dg_iload_n (k := 1) rfl dX11_stamp_103) <| dr_c (dg_iald dX11_stamp_104) <| dr_c (dg_ret dX11_stamp_105) <| dr_c (dg_aload_n (k := 0) rfl dX11_stamp_106) <| dr_c (dg_getf (T := TX11) (C := RX11) (N := 68) dX11_stamp_107 rfl (by decide) iw_X11 wd_961) <| dr_c (dg_no) <| dr_c (dg_no) <| dr_c (dg_iload_n (k := 1) rfl dX11_stamp_110) <| dr_c (dg_iald dX11_stamp_111) <| dr_n
theorem tr_181_7 : dm_AllR (dm_Good dm_tb RX11 cX11_stamp 3 (some .int) false none) 112 [dm_ret .int, dm_ald 114 0, dm_getf 117 8 9, dm_no, dm_no, dm_ild 118 1, dm_bald 119, dm_ret .int, dm_ald 121 0, dm_getf 124 8 10, dm_no, dm_no, dm_ild 125 1, dm_sald 126, dm_ret .int, dm_ald 128 0] := dr_c (dg_ret dX11_stamp_112) <| dr_c (dg_aload_n (k := 0) rfl dX11_stamp_113) <| dr_c (dg_getf (T := TX11) (C := RX11) (N := 68) dX11_stamp_114 rfl (by decide) iw_X11 wd_957) <| dr_c (dg_no) <| dr_c (dg_no) <| dr_c (dg_iload_n (k := 1) rfl dX11_stamp_117) <| dr_c (dg_bald dX11_stamp_118) <| dr_c (dg_ret dX11_stamp_119) <| dr_c (dg_aload_n (k := 0) rfl dX11_stamp_120) <| dr_c (dg_getf (T := TX11) (C := RX11) (N := 68) dX11_stamp_121 rfl (by decide) iw_X11 wd_958) <| dr_c (dg_no) <| dr_c (dg_no) <| dr_c (dg_iload_n (k := 1) rfl dX11_stamp_124) <| dr_c (dg_sald dX11_stamp_125) <| dr_c (dg_ret dX11_stamp_126) <| dr_c (dg_aload_n (k := 0) rfl dX11_stamp_127) <| dr_n
theorem tr_181_8 : dm_AllR (dm_Good dm_tb RX11 cX11_stamp 3 (some .int) false none) 128 [dm_getf 131 8 11, dm_no, dm_no, dm_ild 132 1, dm_sald 133, dm_ret .int, dm_ald 135 0, dm_push 136 (.int 0), dm_inv 139 192 1 8, dm_no, dm_no, dm_ret .int, dm_ald 141 0, dm_push 142 (.long 0), dm_push 145 (.long 1152921504606846976), dm_no] := dr_c (dg_getf (T := TX11) (C := RX11) (N := 68) dX11_stamp_128 rfl (by decide) iw_X11 wd_959) <| dr_c (dg_no) <| dr_c (dg_no) <| dr_c (dg_iload_n (k := 1) rfl dX11_stamp_131) <| dr_c (dg_sald dX11_stamp_132) <| dr_c (dg_ret dX11_stamp_133) <| dr_c (dg_aload_n (k := 0) rfl dX11_stamp_134) <| dr_c (dg_iconst (by decide) dX11_stamp_135) <| dr_c (dg_inv dX11_stamp_136 mo_192 rfl rfl wd_1320 wd_1322 wd_46 pd_192) <| dr_c (dg_no) <| dr_c (dg_no) <| dr_c (dg_ret dX11_stamp_139) <| dr_c (dg_aload_n (k := 0) rfl dX11_stamp_140) <| dr_c (dg_lconst (by decide) dX11_stamp_141) <| dr_c (dg_ldc2 wd_918 dX11_stamp_142) <| dr_c (dg_no) <| dr_n
theorem tr_181_9 : dm_AllR (dm_Good dm_tb RX11 cX11_stamp 3 (some .int) false none) 144 [dm_no, dm_inv 148 147 2 8, dm_no, dm_no, dm_ret .int, dm_ald 150 0, dm_push 151 (.long 0), dm_push 154 (.long 1152921504606846976), dm_no, dm_no, dm_inv 157 146 2 8, dm_no, dm_no, dm_ret .int, dm_ald 159 0, dm_getf 162 8 7] := dr_c (dg_no) <| dr_c (dg_inv dX11_stamp_145 mo_147 rfl rfl wd_1225 wd_1227 wd_38 pd_147) <| dr_c (dg_no) <| dr_c (dg_no) <| dr_c (dg_ret dX11_stamp_148) <| dr_c (dg_aload_n (k := 0) rfl dX11_stamp_149) <| dr_c (dg_lconst (by decide) dX11_stamp_150) <| dr_c (dg_ldc2 wd_918 dX11_stamp_151) <| dr_c (dg_no) <| dr_c (dg_no) <| dr_c (dg_inv dX11_stamp_154 mo_146 rfl rfl wd_1209 wd_1211 wd_34 pd_146) <| dr_c (dg_no) <| dr_c (dg_no) <| dr_c (dg_ret dX11_stamp_157) <| dr_c (dg_aload_n (k := 0) rfl dX11_stamp_158) <| dr_c (dg_getf (T := TX11) (C := RX11) (N := 68) dX11_stamp_159 rfl (by decide) iw_X11 wd_955) <| dr_n
theorem tr_181_10 : dm_AllR (dm_Good dm_tb RX11 cX11_stamp 3 (some .int) false none) 160 [dm_no, dm_no, dm_ild 163 1, dm_bald 164, dm_if_eq 167 171, dm_no, dm_no, dm_push 168 (.int 1), dm_goto 172, dm_no, dm_no, dm_push 172 (.int 0), dm_ret .int, dm_ald 174 0, dm_ild 175 1, dm_ild 176 1] := dr_c (dg_no) <| dr_c (dg_no) <| dr_c (dg_iload_n (k := 1) rfl dX11_stamp_162) <| dr_c (dg_bald dX11_stamp_163) <| dr_c (dg_if_eq (by decide) dX11_stamp_164) <| dr_c (dg_no) <| dr_c (dg_no) <| dr_c (dg_iconst (by decide) dX11_stamp_167) <| dr_c (dg_goto (by decide) dX11_stamp_168) <| dr_c (dg_no) <| dr_c (dg_no) <| dr_c (dg_iconst (by decide) dX11_stamp_171) <| dr_c (dg_ret dX11_stamp_172) <| dr_c (dg_aload_n (k := 0) rfl dX11_stamp_173) <| dr_c (dg_iload_n (k := 1) rfl dX11_stamp_174) <| dr_c (dg_iload_n (k := 1) rfl dX11_stamp_175) <| dr_n
theorem tr_181_11 : dm_AllR (dm_Good dm_tb RX11 cX11_stamp 3 (some .int) false none) 176 [dm_inv 179 175 2 8, dm_no, dm_no, dm_push 180 (.int (-1)), dm_ic_ne 183 187, dm_no, dm_no, dm_push 184 (.int (-1)), dm_goto 192, dm_no, dm_no, dm_ald 188 0, dm_ild 189 1, dm_inv 192 182 1 8, dm_no, dm_no] := dr_c (dg_inv dX11_stamp_176 mo_175 rfl rfl wd_1340 wd_1287 wd_1288 pd_175) <| dr_c (dg_no) <| dr_c (dg_no) <| dr_c (dg_iconst (by decide) dX11_stamp_179) <| dr_c (dg_ic_ne (by decide) dX11_stamp_180) <| dr_c (dg_no) <| dr_c (dg_no) <| dr_c (dg_iconst (by decide) dX11_stamp_183) <| dr_c (dg_goto (by decide) dX11_stamp_184) <| dr_c (dg_no) <| dr_c (dg_no) <| dr_c (dg_aload_n (k := 0) rfl dX11_stamp_187) <| dr_c (dg_iload_n (k := 1) rfl dX11_stamp_188) <| dr_c (dg_inv dX11_stamp_189 mo_182 rfl rfl wd_1341 wd_1343 wd_51 pd_182) <| dr_c (dg_no) <| dr_c (dg_no) <| dr_n
theorem tr_181_12 : dm_AllR (dm_Good dm_tb RX11 cX11_stamp 3 (some .int) false none) 192 [dm_ret .int, dm_push 194 (.int (-1)), dm_ret .int] := dr_c (dg_ret dX11_stamp_192) <| dr_c (dg_iconst (by decide) dX11_stamp_193) <| dr_c (dg_ret dX11_stamp_194) <| dr_n
theorem tk_181 : dm_AllC (dm_Good dm_tb RX11 cX11_stamp 3 (some .int) false none) 0 cd_181 := dc_c (by decide) tr_181_0 <| dc_c (by decide) tr_181_1 <| dc_c (by decide) tr_181_2 <| dc_c (by decide) tr_181_3 <| dc_c (by decide) tr_181_4 <| dc_c (by decide) tr_181_5 <| dc_c (by decide) tr_181_6 <| dc_c (by decide) tr_181_7 <| dc_c (by decide) tr_181_8 <| dc_c (by decide) tr_181_9 <| dc_c (by decide) tr_181_10 <| dc_c (by decide) tr_181_11 <| dc_c (by decide) tr_181_12 <| dc_n
theorem dX11_history_0 : decode cX11_history 0 = .ok (.iconst 0, 1) := by decide +kernel
theorem dX11_history_1 : decode cX11_history 1 = .ok (.istore_n 2, 1) := by decide +kernel
theorem dX11_history_2 : decode cX11_history 2 = .ok (.iconst 0, 1) := by decide +kernel
theorem dX11_history_3 : decode cX11_history 3 = .ok (.istore_n 3, 1) := by decide +kernel
theorem dX11_history_4 : decode cX11_history 4 = .ok (.iload_n 3, 1) := by decide +kernel
theorem dX11_history_5 : decode cX11_history 5 = .ok (.bipush 16, 2) := by decide +kernel
theorem dX11_history_7 : decode cX11_history 7 = .ok (.if_icmp .ge 26, 3) := by decide +kernel
theorem dX11_history_10 : decode cX11_history 10 = .ok (.iload_n 2, 1) := by decide +kernel
theorem dX11_history_11 : decode cX11_history 11 = .ok (.aload_n 0, 1) := by decide +kernel
theorem dX11_history_12 : decode cX11_history 12 = .ok (.getfield 56, 3) := by decide +kernel
theorem dX11_history_15 : decode cX11_history 15 = .ok (.bipush 16, 2) := by decide +kernel
theorem dX11_history_17 : decode cX11_history 17 = .ok (.iload_n 1, 1) := by decide +kernel
theorem dX11_history_18 : decode cX11_history 18 = .ok (.imul, 1) := by decide +kernel
theorem dX11_history_19 : decode cX11_history 19 = .ok (.iload_n 3, 1) := by decide +kernel
theorem dX11_history_20 : decode cX11_history 20 = .ok (.iadd, 1) := by decide +kernel
theorem dX11_history_21 : decode cX11_history 21 = .ok (.laload, 1) := by decide +kernel
theorem dX11_history_22 : decode cX11_history 22 = .ok (.invokestatic 300, 3) := by decide +kernel
theorem dX11_history_25 : decode cX11_history 25 = .ok (.iadd, 1) := by decide +kernel
theorem dX11_history_26 : decode cX11_history 26 = .ok (.istore_n 2, 1) := by decide +kernel
theorem dX11_history_27 : decode cX11_history 27 = .ok (.iinc 3 1, 3) := by decide +kernel
theorem dX11_history_30 : decode cX11_history 30 = .ok (.goto (-26), 3) := by decide +kernel
theorem dX11_history_33 : decode cX11_history 33 = .ok (.iload_n 2, 1) := by decide +kernel
theorem dX11_history_34 : decode cX11_history 34 = .ok (.ireturn, 1) := by decide +kernel
def cd_182 : dm_Code := [[dm_push 1 (.int 0), dm_ist 2 2, dm_push 3 (.int 0), dm_ist 4 3, dm_ild 5 3, dm_push 7 (.int 16), dm_no, dm_ic_ge 10 33, dm_no, dm_no, dm_ild 11 2, dm_ald 12 0, dm_getf 15 8 14, dm_no, dm_no, dm_push 17 (.int 16)],
  [dm_no, dm_ild 18 1, dm_ii 19 (fun x y => x * y), dm_ild 20 3, dm_ii 21 (fun x y => x + y), dm_lald 22, dm_ins 25 208 1, dm_no, dm_no, dm_ii 26 (fun x y => x + y), dm_ist 27 2, dm_iinc 30 3 1, dm_no, dm_no, dm_goto 4, dm_no],
  [dm_no, dm_ild 34 2, dm_ret .int]]
theorem tr_182_0 : dm_AllR (dm_Good dm_tb RX11 cX11_history 4 (some .int) false none) 0 [dm_push 1 (.int 0), dm_ist 2 2, dm_push 3 (.int 0), dm_ist 4 3, dm_ild 5 3, dm_push 7 (.int 16), dm_no, dm_ic_ge 10 33, dm_no, dm_no, dm_ild 11 2, dm_ald 12 0, dm_getf 15 8 14, dm_no, dm_no, dm_push 17 (.int 16)] := dr_c (dg_iconst (by decide) dX11_history_0) <| dr_c (dg_istore_n (k := 2) rfl (by decide) dX11_history_1) <| dr_c (dg_iconst (by decide) dX11_history_2) <| dr_c (dg_istore_n (k := 3) rfl (by decide) dX11_history_3) <| dr_c (dg_iload_n (k := 3) rfl dX11_history_4) <| dr_c (dg_bipush (by decide) dX11_history_5) <| dr_c (dg_no) <| dr_c (dg_ic_ge (by decide) dX11_history_7) <| dr_c (dg_no) <| dr_c (dg_no) <| dr_c (dg_iload_n (k := 2) rfl dX11_history_10) <| dr_c (dg_aload_n (k := 0) rfl dX11_history_11) <| dr_c (dg_getf (T := TX11) (C := RX11) (N := 68) dX11_history_12 rfl (by decide) iw_X11 wd_962) <| dr_c (dg_no) <| dr_c (dg_no) <| dr_c (dg_bipush (by decide) dX11_history_15) <| dr_n
theorem tr_182_1 : dm_AllR (dm_Good dm_tb RX11 cX11_history 4 (some .int) false none) 16 [dm_no, dm_ild 18 1, dm_ii 19 (fun x y => x * y), dm_ild 20 3, dm_ii 21 (fun x y => x + y), dm_lald 22, dm_ins 25 208 1, dm_no, dm_no, dm_ii 26 (fun x y => x + y), dm_ist 27 2, dm_iinc 30 3 1, dm_no, dm_no, dm_goto 4, dm_no] := dr_c (dg_no) <| dr_c (dg_iload_n (k := 1) rfl dX11_history_17) <| dr_c (dg_imul dX11_history_18) <| dr_c (dg_iload_n (k := 3) rfl dX11_history_19) <| dr_c (dg_iadd dX11_history_20) <| dr_c (dg_lald dX11_history_21) <| dr_c (dg_ins dX11_history_22 mo_208 wd_1291 wd_1292 pd_208) <| dr_c (dg_no) <| dr_c (dg_no) <| dr_c (dg_iadd dX11_history_25) <| dr_c (dg_istore_n (k := 2) rfl (by decide) dX11_history_26) <| dr_c (dg_iinc (by decide) (by decide) dX11_history_27) <| dr_c (dg_no) <| dr_c (dg_no) <| dr_c (dg_goto (by decide) dX11_history_30) <| dr_c (dg_no) <| dr_n
theorem tr_182_2 : dm_AllR (dm_Good dm_tb RX11 cX11_history 4 (some .int) false none) 32 [dm_no, dm_ild 34 2, dm_ret .int] := dr_c (dg_no) <| dr_c (dg_iload_n (k := 2) rfl dX11_history_33) <| dr_c (dg_ret dX11_history_34) <| dr_n
theorem tk_182 : dm_AllC (dm_Good dm_tb RX11 cX11_history 4 (some .int) false none) 0 cd_182 := dc_c (by decide) tr_182_0 <| dc_c (by decide) tr_182_1 <| dc_c (by decide) tr_182_2 <| dc_n
theorem dX11_turn_0 : decode cX11_turn 0 = .ok (.aload_n 0, 1) := by decide +kernel
theorem dX11_turn_1 : decode cX11_turn 1 = .ok (.getfield 23, 3) := by decide +kernel
theorem dX11_turn_4 : decode cX11_turn 4 = .ok (.iload_n 1, 1) := by decide +kernel
theorem dX11_turn_5 : decode cX11_turn 5 = .ok (.iaload, 1) := by decide +kernel
theorem dX11_turn_6 : decode cX11_turn 6 = .ok (.istore 6, 2) := by decide +kernel
theorem dX11_turn_8 : decode cX11_turn 8 = .ok (.aload_n 0, 1) := by decide +kernel
theorem dX11_turn_9 : decode cX11_turn 9 = .ok (.getfield 23, 3) := by decide +kernel
theorem dX11_turn_12 : decode cX11_turn 12 = .ok (.iload_n 2, 1) := by decide +kernel
theorem dX11_turn_13 : decode cX11_turn 13 = .ok (.iaload, 1) := by decide +kernel
theorem dX11_turn_14 : decode cX11_turn 14 = .ok (.istore 7, 2) := by decide +kernel
theorem dX11_turn_16 : decode cX11_turn 16 = .ok (.lconst 0, 1) := by decide +kernel
theorem dX11_turn_17 : decode cX11_turn 17 = .ok (.lstore 8, 2) := by decide +kernel
theorem dX11_turn_19 : decode cX11_turn 19 = .ok (.lload 8, 2) := by decide +kernel
theorem dX11_turn_21 : decode cX11_turn 21 = .ok (.ldc2_w 186, 3) := by decide +kernel
theorem dX11_turn_24 : decode cX11_turn 24 = .ok (.lcmp, 1) := by decide +kernel
theorem dX11_turn_25 : decode cX11_turn 25 = .ok (.ifCond .ge 161, 3) := by decide +kernel
theorem dX11_turn_28 : decode cX11_turn 28 = .ok (.iload 6, 2) := by decide +kernel
theorem dX11_turn_30 : decode cX11_turn 30 = .ok (.iconst 1, 1) := by decide +kernel
theorem dX11_turn_31 : decode cX11_turn 31 = .ok (.iadd, 1) := by decide +kernel
theorem dX11_turn_32 : decode cX11_turn 32 = .ok (.aload_n 0, 1) := by decide +kernel
theorem dX11_turn_33 : decode cX11_turn 33 = .ok (.getfield 23, 3) := by decide +kernel
theorem dX11_turn_36 : decode cX11_turn 36 = .ok (.iload_n 1, 1) := by decide +kernel
theorem dX11_turn_37 : decode cX11_turn 37 = .ok (.iconst 1, 1) := by decide +kernel
theorem dX11_turn_38 : decode cX11_turn 38 = .ok (.iadd, 1) := by decide +kernel
theorem dX11_turn_39 : decode cX11_turn 39 = .ok (.iaload, 1) := by decide +kernel
theorem dX11_turn_40 : decode cX11_turn 40 = .ok (.if_icmp .ge 15, 3) := by decide +kernel
theorem dX11_turn_43 : decode cX11_turn 43 = .ok (.aload_n 0, 1) := by decide +kernel
theorem dX11_turn_44 : decode cX11_turn 44 = .ok (.getfield 9, 3) := by decide +kernel
theorem dX11_turn_47 : decode cX11_turn 47 = .ok (.iload 6, 2) := by decide +kernel
theorem dX11_turn_49 : decode cX11_turn 49 = .ok (.iconst 1, 1) := by decide +kernel
theorem dX11_turn_50 : decode cX11_turn 50 = .ok (.iadd, 1) := by decide +kernel
theorem dX11_turn_51 : decode cX11_turn 51 = .ok (.laload, 1) := by decide +kernel
theorem dX11_turn_52 : decode cX11_turn 52 = .ok (.goto 6, 3) := by decide +kernel
theorem dX11_turn_55 : decode cX11_turn 55 = .ok (.ldc2_w 186, 3) := by decide +kernel
theorem dX11_turn_58 : decode cX11_turn 58 = .ok (.lstore 10, 2) := by decide +kernel
theorem dX11_turn_60 : decode cX11_turn 60 = .ok (.iload 7, 2) := by decide +kernel
theorem dX11_turn_62 : decode cX11_turn 62 = .ok (.iconst 1, 1) := by decide +kernel
theorem dX11_turn_63 : decode cX11_turn 63 = .ok (.iadd, 1) := by decide +kernel
theorem dX11_turn_64 : decode cX11_turn 64 = .ok (.aload_n 0, 1) := by decide +kernel
theorem dX11_turn_65 : decode cX11_turn 65 = .ok (.getfield 23, 3) := by decide +kernel
theorem dX11_turn_68 : decode cX11_turn 68 = .ok (.iload_n 2, 1) := by decide +kernel
theorem dX11_turn_69 : decode cX11_turn 69 = .ok (.iconst 1, 1) := by decide +kernel
theorem dX11_turn_70 : decode cX11_turn 70 = .ok (.iadd, 1) := by decide +kernel
theorem dX11_turn_71 : decode cX11_turn 71 = .ok (.iaload, 1) := by decide +kernel
theorem dX11_turn_72 : decode cX11_turn 72 = .ok (.if_icmp .ge 15, 3) := by decide +kernel
theorem dX11_turn_75 : decode cX11_turn 75 = .ok (.aload_n 0, 1) := by decide +kernel
theorem dX11_turn_76 : decode cX11_turn 76 = .ok (.getfield 9, 3) := by decide +kernel
theorem dX11_turn_79 : decode cX11_turn 79 = .ok (.iload 7, 2) := by decide +kernel
theorem dX11_turn_81 : decode cX11_turn 81 = .ok (.iconst 1, 1) := by decide +kernel
theorem dX11_turn_82 : decode cX11_turn 82 = .ok (.iadd, 1) := by decide +kernel
theorem dX11_turn_83 : decode cX11_turn 83 = .ok (.laload, 1) := by decide +kernel
theorem dX11_turn_84 : decode cX11_turn 84 = .ok (.goto 6, 3) := by decide +kernel
theorem dX11_turn_87 : decode cX11_turn 87 = .ok (.ldc2_w 186, 3) := by decide +kernel
theorem dX11_turn_90 : decode cX11_turn 90 = .ok (.lstore 12, 2) := by decide +kernel
theorem dX11_turn_92 : decode cX11_turn 92 = .ok (.lload 10, 2) := by decide +kernel
theorem dX11_turn_94 : decode cX11_turn 94 = .ok (.lload 12, 2) := by decide +kernel
theorem dX11_turn_96 : decode cX11_turn 96 = .ok (.lcmp, 1) := by decide +kernel
theorem dX11_turn_97 : decode cX11_turn 97 = .ok (.ifCond .ge 8, 3) := by decide +kernel
theorem dX11_turn_100 : decode cX11_turn 100 = .ok (.lload 10, 2) := by decide +kernel
theorem dX11_turn_102 : decode cX11_turn 102 = .ok (.goto 5, 3) := by decide +kernel
theorem dX11_turn_105 : decode cX11_turn 105 = .ok (.lload 12, 2) := by decide +kernel
theorem dX11_turn_107 : decode cX11_turn 107 = .ok (.lstore 14, 2) := by decide +kernel
theorem dX11_turn_109 : decode cX11_turn 109 = .ok (.lload 14, 2) := by decide +kernel
theorem dX11_turn_111 : decode cX11_turn 111 = .ok (.lload_n 3, 1) := by decide +kernel
theorem dX11_turn_112 : decode cX11_turn 112 = .ok (.lcmp, 1) := by decide +kernel
theorem dX11_turn_113 : decode cX11_turn 113 = .ok (.ifCond .le 44, 3) := by decide +kernel
theorem dX11_turn_116 : decode cX11_turn 116 = .ok (.aload_n 0, 1) := by decide +kernel
theorem dX11_turn_117 : decode cX11_turn 117 = .ok (.getfield 13, 3) := by decide +kernel
theorem dX11_turn_120 : decode cX11_turn 120 = .ok (.iload 6, 2) := by decide +kernel
theorem dX11_turn_122 : decode cX11_turn 122 = .ok (.iaload, 1) := by decide +kernel
theorem dX11_turn_123 : decode cX11_turn 123 = .ok (.aload_n 0, 1) := by decide +kernel
theorem dX11_turn_124 : decode cX11_turn 124 = .ok (.getfield 13, 3) := by decide +kernel
theorem dX11_turn_127 : decode cX11_turn 127 = .ok (.iload 7, 2) := by decide +kernel
theorem dX11_turn_129 : decode cX11_turn 129 = .ok (.iaload, 1) := by decide +kernel
theorem dX11_turn_130 : decode cX11_turn 130 = .ok (.if_icmp .le 7, 3) := by decide +kernel
theorem dX11_turn_133 : decode cX11_turn 133 = .ok (.iconst 1, 1) := by decide +kernel
theorem dX11_turn_134 : decode cX11_turn 134 = .ok (.goto 4, 3) := by decide +kernel
theorem dX11_turn_137 : decode cX11_turn 137 = .ok (.iconst 0, 1) := by decide +kernel
theorem dX11_turn_138 : decode cX11_turn 138 = .ok (.iload 5, 2) := by decide +kernel
theorem dX11_turn_140 : decode cX11_turn 140 = .ok (.if_icmp .ne 17, 3) := by decide +kernel
theorem dX11_turn_143 : decode cX11_turn 143 = .ok (.lload 8, 2) := by decide +kernel
theorem dX11_turn_145 : decode cX11_turn 145 = .ok (.lload_n 3, 1) := by decide +kernel
theorem dX11_turn_146 : decode cX11_turn 146 = .ok (.lcmp, 1) := by decide +kernel
theorem dX11_turn_147 : decode cX11_turn 147 = .ok (.ifCond .le 8, 3) := by decide +kernel
theorem dX11_turn_150 : decode cX11_turn 150 = .ok (.lload 8, 2) := by decide +kernel
theorem dX11_turn_152 : decode cX11_turn 152 = .ok (.goto 4, 3) := by decide +kernel
theorem dX11_turn_155 : decode cX11_turn 155 = .ok (.lload_n 3, 1) := by decide +kernel
theorem dX11_turn_156 : decode cX11_turn 156 = .ok (.lreturn, 1) := by decide +kernel
theorem dX11_turn_157 : decode cX11_turn 157 = .ok (.lload 14, 2) := by decide +kernel
theorem dX11_turn_159 : decode cX11_turn 159 = .ok (.lstore 8, 2) := by decide +kernel
theorem dX11_turn_161 : decode cX11_turn 161 = .ok (.lload 10, 2) := by decide +kernel
theorem dX11_turn_163 : decode cX11_turn 163 = .ok (.lload 8, 2) := by decide +kernel
theorem dX11_turn_165 : decode cX11_turn 165 = .ok (.lcmp, 1) := by decide +kernel
theorem dX11_turn_166 : decode cX11_turn 166 = .ok (.ifCond .ne 6, 3) := by decide +kernel
theorem dX11_turn_169 : decode cX11_turn 169 = .ok (.iinc 6 1, 3) := by decide +kernel
theorem dX11_turn_172 : decode cX11_turn 172 = .ok (.lload 12, 2) := by decide +kernel
theorem dX11_turn_174 : decode cX11_turn 174 = .ok (.lload 8, 2) := by decide +kernel
theorem dX11_turn_176 : decode cX11_turn 176 = .ok (.lcmp, 1) := by decide +kernel
theorem dX11_turn_177 : decode cX11_turn 177 = .ok (.ifCond .ne 6, 3) := by decide +kernel
theorem dX11_turn_180 : decode cX11_turn 180 = .ok (.iinc 7 1, 3) := by decide +kernel
theorem dX11_turn_183 : decode cX11_turn 183 = .ok (.goto (-164), 3) := by decide +kernel
theorem dX11_turn_186 : decode cX11_turn 186 = .ok (.ldc2_w 186, 3) := by decide +kernel
theorem dX11_turn_189 : decode cX11_turn 189 = .ok (.lreturn, 1) := by decide +kernel
def cd_183 : dm_Code := [[dm_ald 1 0, dm_getf 4 8 4, dm_no, dm_no, dm_ild 5 1, dm_iald 6, dm_ist 8 6, dm_no, dm_ald 9 0, dm_getf 12 8 4, dm_no, dm_no, dm_ild 13 2, dm_iald 14, dm_ist 16 7, dm_no],
  [dm_push 17 (.long 0), dm_lst 19 8, dm_no, dm_lld 21 8, dm_no, dm_push 24 (.long 1152921504606846976), dm_no, dm_no, dm_lc 25, dm_if_ge 28 186, dm_no, dm_no, dm_ild 30 6, dm_no, dm_push 31 (.int 1), dm_ii 32 (fun x y => x + y)],
  [dm_ald 33 0, dm_getf 36 8 4, dm_no, dm_no, dm_ild 37 1, dm_push 38 (.int 1), dm_ii 39 (fun x y => x + y), dm_iald 40, dm_ic_ge 43 55, dm_no, dm_no, dm_ald 44 0, dm_getf 47 8 0, dm_no, dm_no, dm_ild 49 6],
  [dm_no, dm_push 50 (.int 1), dm_ii 51 (fun x y => x + y), dm_lald 52, dm_goto 58, dm_no, dm_no, dm_push 58 (.long 1152921504606846976), dm_no, dm_no, dm_lst 60 10, dm_no, dm_ild 62 7, dm_no, dm_push 63 (.int 1), dm_ii 64 (fun x y => x + y)],
  [dm_ald 65 0, dm_getf 68 8 4, dm_no, dm_no, dm_ild 69 2, dm_push 70 (.int 1), dm_ii 71 (fun x y => x + y), dm_iald 72, dm_ic_ge 75 87, dm_no, dm_no, dm_ald 76 0, dm_getf 79 8 0, dm_no, dm_no, dm_ild 81 7],
  [dm_no, dm_push 82 (.int 1), dm_ii 83 (fun x y => x + y), dm_lald 84, dm_goto 90, dm_no, dm_no, dm_push 90 (.long 1152921504606846976), dm_no, dm_no, dm_lst 92 12, dm_no, dm_lld 94 10, dm_no, dm_lld 96 12, dm_no],
  [dm_lc 97, dm_if_ge 100 105, dm_no, dm_no, dm_lld 102 10, dm_no, dm_goto 107, dm_no, dm_no, dm_lld 107 12, dm_no, dm_lst 109 14, dm_no, dm_lld 111 14, dm_no, dm_lld 112 3],
  [dm_lc 113, dm_if_le 116 157, dm_no, dm_no, dm_ald 117 0, dm_getf 120 8 1, dm_no, dm_no, dm_ild 122 6, dm_no, dm_iald 123, dm_ald 124 0, dm_getf 127 8 1, dm_no, dm_no, dm_ild 129 7],
  [dm_no, dm_iald 130, dm_ic_le 133 137, dm_no, dm_no, dm_push 134 (.int 1), dm_goto 138, dm_no, dm_no, dm_push 138 (.int 0), dm_ild 140 5, dm_no, dm_ic_ne 143 157, dm_no, dm_no, dm_lld 145 8],
  [dm_no, dm_lld 146 3, dm_lc 147, dm_if_le 150 155, dm_no, dm_no, dm_lld 152 8, dm_no, dm_goto 156, dm_no, dm_no, dm_lld 156 3, dm_lret, dm_lld 159 14, dm_no, dm_lst 161 8],
  [dm_no, dm_lld 163 10, dm_no, dm_lld 165 8, dm_no, dm_lc 166, dm_if_ne 169 172, dm_no, dm_no, dm_iinc 172 6 1, dm_no, dm_no, dm_lld 174 12, dm_no, dm_lld 176 8, dm_no],
  [dm_lc 177, dm_if_ne 180 183, dm_no, dm_no, dm_iinc 183 7 1, dm_no, dm_no, dm_goto 19, dm_no, dm_no, dm_push 189 (.long 1152921504606846976), dm_no, dm_no, dm_lret]]
theorem tr_183_0 : dm_AllR (dm_Good dm_tb RX11 cX11_turn 16 (some .long) false none) 0 [dm_ald 1 0, dm_getf 4 8 4, dm_no, dm_no, dm_ild 5 1, dm_iald 6, dm_ist 8 6, dm_no, dm_ald 9 0, dm_getf 12 8 4, dm_no, dm_no, dm_ild 13 2, dm_iald 14, dm_ist 16 7, dm_no] := dr_c (dg_aload_n (k := 0) rfl dX11_turn_0) <| dr_c (dg_getf (T := TX11) (C := RX11) (N := 68) dX11_turn_1 rfl (by decide) iw_X11 wd_952) <| dr_c (dg_no) <| dr_c (dg_no) <| dr_c (dg_iload_n (k := 1) rfl dX11_turn_4) <| dr_c (dg_iald dX11_turn_5) <| dr_c (dg_istore (by decide) dX11_turn_6) <| dr_c (dg_no) <| dr_c (dg_aload_n (k := 0) rfl dX11_turn_8) <| dr_c (dg_getf (T := TX11) (C := RX11) (N := 68) dX11_turn_9 rfl (by decide) iw_X11 wd_952) <| dr_c (dg_no) <| dr_c (dg_no) <| dr_c (dg_iload_n (k := 2) rfl dX11_turn_12) <| dr_c (dg_iald dX11_turn_13) <| dr_c (dg_istore (by decide) dX11_turn_14) <| dr_c (dg_no) <| dr_n
theorem tr_183_1 : dm_AllR (dm_Good dm_tb RX11 cX11_turn 16 (some .long) false none) 16 [dm_push 17 (.long 0), dm_lst 19 8, dm_no, dm_lld 21 8, dm_no, dm_push 24 (.long 1152921504606846976), dm_no, dm_no, dm_lc 25, dm_if_ge 28 186, dm_no, dm_no, dm_ild 30 6, dm_no, dm_push 31 (.int 1), dm_ii 32 (fun x y => x + y)] := dr_c (dg_lconst (by decide) dX11_turn_16) <| dr_c (dg_lstore (by decide) dX11_turn_17) <| dr_c (dg_no) <| dr_c (dg_lload dX11_turn_19) <| dr_c (dg_no) <| dr_c (dg_ldc2 wd_918 dX11_turn_21) <| dr_c (dg_no) <| dr_c (dg_no) <| dr_c (dg_lcmp dX11_turn_24) <| dr_c (dg_if_ge (by decide) dX11_turn_25) <| dr_c (dg_no) <| dr_c (dg_no) <| dr_c (dg_iload dX11_turn_28) <| dr_c (dg_no) <| dr_c (dg_iconst (by decide) dX11_turn_30) <| dr_c (dg_iadd dX11_turn_31) <| dr_n
theorem tr_183_2 : dm_AllR (dm_Good dm_tb RX11 cX11_turn 16 (some .long) false none) 32 [dm_ald 33 0, dm_getf 36 8 4, dm_no, dm_no, dm_ild 37 1, dm_push 38 (.int 1), dm_ii 39 (fun x y => x + y), dm_iald 40, dm_ic_ge 43 55, dm_no, dm_no, dm_ald 44 0, dm_getf 47 8 0, dm_no, dm_no, dm_ild 49 6] := dr_c (dg_aload_n (k := 0) rfl dX11_turn_32) <| dr_c (dg_getf (T := TX11) (C := RX11) (N := 68) dX11_turn_33 rfl (by decide) iw_X11 wd_952) <| dr_c (dg_no) <| dr_c (dg_no) <| dr_c (dg_iload_n (k := 1) rfl dX11_turn_36) <| dr_c (dg_iconst (by decide) dX11_turn_37) <| dr_c (dg_iadd dX11_turn_38) <| dr_c (dg_iald dX11_turn_39) <| dr_c (dg_ic_ge (by decide) dX11_turn_40) <| dr_c (dg_no) <| dr_c (dg_no) <| dr_c (dg_aload_n (k := 0) rfl dX11_turn_43) <| dr_c (dg_getf (T := TX11) (C := RX11) (N := 68) dX11_turn_44 rfl (by decide) iw_X11 wd_948) <| dr_c (dg_no) <| dr_c (dg_no) <| dr_c (dg_iload dX11_turn_47) <| dr_n
theorem tr_183_3 : dm_AllR (dm_Good dm_tb RX11 cX11_turn 16 (some .long) false none) 48 [dm_no, dm_push 50 (.int 1), dm_ii 51 (fun x y => x + y), dm_lald 52, dm_goto 58, dm_no, dm_no, dm_push 58 (.long 1152921504606846976), dm_no, dm_no, dm_lst 60 10, dm_no, dm_ild 62 7, dm_no, dm_push 63 (.int 1), dm_ii 64 (fun x y => x + y)] := dr_c (dg_no) <| dr_c (dg_iconst (by decide) dX11_turn_49) <| dr_c (dg_iadd dX11_turn_50) <| dr_c (dg_lald dX11_turn_51) <| dr_c (dg_goto (by decide) dX11_turn_52) <| dr_c (dg_no) <| dr_c (dg_no) <| dr_c (dg_ldc2 wd_918 dX11_turn_55) <| dr_c (dg_no) <| dr_c (dg_no) <| dr_c (dg_lstore (by decide) dX11_turn_58) <| dr_c (dg_no) <| dr_c (dg_iload dX11_turn_60) <| dr_c (dg_no) <| dr_c (dg_iconst (by decide) dX11_turn_62) <| dr_c (dg_iadd dX11_turn_63) <| dr_n
theorem tr_183_4 : dm_AllR (dm_Good dm_tb RX11 cX11_turn 16 (some .long) false none) 64 [dm_ald 65 0, dm_getf 68 8 4, dm_no, dm_no, dm_ild 69 2, dm_push 70 (.int 1), dm_ii 71 (fun x y => x + y), dm_iald 72, dm_ic_ge 75 87, dm_no, dm_no, dm_ald 76 0, dm_getf 79 8 0, dm_no, dm_no, dm_ild 81 7] := dr_c (dg_aload_n (k := 0) rfl dX11_turn_64) <| dr_c (dg_getf (T := TX11) (C := RX11) (N := 68) dX11_turn_65 rfl (by decide) iw_X11 wd_952) <| dr_c (dg_no) <| dr_c (dg_no) <| dr_c (dg_iload_n (k := 2) rfl dX11_turn_68) <| dr_c (dg_iconst (by decide) dX11_turn_69) <| dr_c (dg_iadd dX11_turn_70) <| dr_c (dg_iald dX11_turn_71) <| dr_c (dg_ic_ge (by decide) dX11_turn_72) <| dr_c (dg_no) <| dr_c (dg_no) <| dr_c (dg_aload_n (k := 0) rfl dX11_turn_75) <| dr_c (dg_getf (T := TX11) (C := RX11) (N := 68) dX11_turn_76 rfl (by decide) iw_X11 wd_948) <| dr_c (dg_no) <| dr_c (dg_no) <| dr_c (dg_iload dX11_turn_79) <| dr_n
theorem tr_183_5 : dm_AllR (dm_Good dm_tb RX11 cX11_turn 16 (some .long) false none) 80 [dm_no, dm_push 82 (.int 1), dm_ii 83 (fun x y => x + y), dm_lald 84, dm_goto 90, dm_no, dm_no, dm_push 90 (.long 1152921504606846976), dm_no, dm_no, dm_lst 92 12, dm_no, dm_lld 94 10, dm_no, dm_lld 96 12, dm_no] := dr_c (dg_no) <| dr_c (dg_iconst (by decide) dX11_turn_81) <| dr_c (dg_iadd dX11_turn_82) <| dr_c (dg_lald dX11_turn_83) <| dr_c (dg_goto (by decide) dX11_turn_84) <| dr_c (dg_no) <| dr_c (dg_no) <| dr_c (dg_ldc2 wd_918 dX11_turn_87) <| dr_c (dg_no) <| dr_c (dg_no) <| dr_c (dg_lstore (by decide) dX11_turn_90) <| dr_c (dg_no) <| dr_c (dg_lload dX11_turn_92) <| dr_c (dg_no) <| dr_c (dg_lload dX11_turn_94) <| dr_c (dg_no) <| dr_n
theorem tr_183_6 : dm_AllR (dm_Good dm_tb RX11 cX11_turn 16 (some .long) false none) 96 [dm_lc 97, dm_if_ge 100 105, dm_no, dm_no, dm_lld 102 10, dm_no, dm_goto 107, dm_no, dm_no, dm_lld 107 12, dm_no, dm_lst 109 14, dm_no, dm_lld 111 14, dm_no, dm_lld 112 3] := dr_c (dg_lcmp dX11_turn_96) <| dr_c (dg_if_ge (by decide) dX11_turn_97) <| dr_c (dg_no) <| dr_c (dg_no) <| dr_c (dg_lload dX11_turn_100) <| dr_c (dg_no) <| dr_c (dg_goto (by decide) dX11_turn_102) <| dr_c (dg_no) <| dr_c (dg_no) <| dr_c (dg_lload dX11_turn_105) <| dr_c (dg_no) <| dr_c (dg_lstore (by decide) dX11_turn_107) <| dr_c (dg_no) <| dr_c (dg_lload dX11_turn_109) <| dr_c (dg_no) <| dr_c (dg_lload_n (k := 3) rfl dX11_turn_111) <| dr_n
theorem tr_183_7 : dm_AllR (dm_Good dm_tb RX11 cX11_turn 16 (some .long) false none) 112 [dm_lc 113, dm_if_le 116 157, dm_no, dm_no, dm_ald 117 0, dm_getf 120 8 1, dm_no, dm_no, dm_ild 122 6, dm_no, dm_iald 123, dm_ald 124 0, dm_getf 127 8 1, dm_no, dm_no, dm_ild 129 7] := dr_c (dg_lcmp dX11_turn_112) <| dr_c (dg_if_le (by decide) dX11_turn_113) <| dr_c (dg_no) <| dr_c (dg_no) <| dr_c (dg_aload_n (k := 0) rfl dX11_turn_116) <| dr_c (dg_getf (T := TX11) (C := RX11) (N := 68) dX11_turn_117 rfl (by decide) iw_X11 wd_949) <| dr_c (dg_no) <| dr_c (dg_no) <| dr_c (dg_iload dX11_turn_120) <| dr_c (dg_no) <| dr_c (dg_iald dX11_turn_122) <| dr_c (dg_aload_n (k := 0) rfl dX11_turn_123) <| dr_c (dg_getf (T := TX11) (C := RX11) (N := 68) dX11_turn_124 rfl (by decide) iw_X11 wd_949) <| dr_c (dg_no) <| dr_c (dg_no) <| dr_c (dg_iload dX11_turn_127) <| dr_n
theorem tr_183_8 : dm_AllR (dm_Good dm_tb RX11 cX11_turn 16 (some .long) false none) 128 [dm_no, dm_iald 130, dm_ic_le 133 137, dm_no, dm_no, dm_push 134 (.int 1), dm_goto 138, dm_no, dm_no, dm_push 138 (.int 0), dm_ild 140 5, dm_no, dm_ic_ne 143 157, dm_no, dm_no, dm_lld 145 8] := dr_c (dg_no) <| dr_c (dg_iald dX11_turn_129) <| dr_c (dg_ic_le (by decide) dX11_turn_130) <| dr_c (dg_no) <| dr_c (dg_no) <| dr_c (dg_iconst (by decide) dX11_turn_133) <| dr_c (dg_goto (by decide) dX11_turn_134) <| dr_c (dg_no) <| dr_c (dg_no) <| dr_c (dg_iconst (by decide) dX11_turn_137) <| dr_c (dg_iload dX11_turn_138) <| dr_c (dg_no) <| dr_c (dg_ic_ne (by decide) dX11_turn_140) <| dr_c (dg_no) <| dr_c (dg_no) <| dr_c (dg_lload dX11_turn_143) <| dr_n
theorem tr_183_9 : dm_AllR (dm_Good dm_tb RX11 cX11_turn 16 (some .long) false none) 144 [dm_no, dm_lld 146 3, dm_lc 147, dm_if_le 150 155, dm_no, dm_no, dm_lld 152 8, dm_no, dm_goto 156, dm_no, dm_no, dm_lld 156 3, dm_lret, dm_lld 159 14, dm_no, dm_lst 161 8] := dr_c (dg_no) <| dr_c (dg_lload_n (k := 3) rfl dX11_turn_145) <| dr_c (dg_lcmp dX11_turn_146) <| dr_c (dg_if_le (by decide) dX11_turn_147) <| dr_c (dg_no) <| dr_c (dg_no) <| dr_c (dg_lload dX11_turn_150) <| dr_c (dg_no) <| dr_c (dg_goto (by decide) dX11_turn_152) <| dr_c (dg_no) <| dr_c (dg_no) <| dr_c (dg_lload_n (k := 3) rfl dX11_turn_155) <| dr_c (dg_lret dX11_turn_156) <| dr_c (dg_lload dX11_turn_157) <| dr_c (dg_no) <| dr_c (dg_lstore (by decide) dX11_turn_159) <| dr_n
theorem tr_183_10 : dm_AllR (dm_Good dm_tb RX11 cX11_turn 16 (some .long) false none) 160 [dm_no, dm_lld 163 10, dm_no, dm_lld 165 8, dm_no, dm_lc 166, dm_if_ne 169 172, dm_no, dm_no, dm_iinc 172 6 1, dm_no, dm_no, dm_lld 174 12, dm_no, dm_lld 176 8, dm_no] := dr_c (dg_no) <| dr_c (dg_lload dX11_turn_161) <| dr_c (dg_no) <| dr_c (dg_lload dX11_turn_163) <| dr_c (dg_no) <| dr_c (dg_lcmp dX11_turn_165) <| dr_c (dg_if_ne (by decide) dX11_turn_166) <| dr_c (dg_no) <| dr_c (dg_no) <| dr_c (dg_iinc (by decide) (by decide) dX11_turn_169) <| dr_c (dg_no) <| dr_c (dg_no) <| dr_c (dg_lload dX11_turn_172) <| dr_c (dg_no) <| dr_c (dg_lload dX11_turn_174) <| dr_c (dg_no) <| dr_n
theorem tr_183_11 : dm_AllR (dm_Good dm_tb RX11 cX11_turn 16 (some .long) false none) 176 [dm_lc 177, dm_if_ne 180 183, dm_no, dm_no, dm_iinc 183 7 1, dm_no, dm_no, dm_goto 19, dm_no, dm_no, dm_push 189 (.long 1152921504606846976), dm_no, dm_no, dm_lret] := dr_c (dg_lcmp dX11_turn_176) <| dr_c (dg_if_ne (by decide) dX11_turn_177) <| dr_c (dg_no) <| dr_c (dg_no) <| dr_c (dg_iinc (by decide) (by decide) dX11_turn_180) <| dr_c (dg_no) <| dr_c (dg_no) <| dr_c (dg_goto (by decide) dX11_turn_183) <| dr_c (dg_no) <| dr_c (dg_no) <| dr_c (dg_ldc2 wd_918 dX11_turn_186) <| dr_c (dg_no) <| dr_c (dg_no) <| dr_c (dg_lret dX11_turn_189) <| dr_n
theorem tk_183 : dm_AllC (dm_Good dm_tb RX11 cX11_turn 16 (some .long) false none) 0 cd_183 := dc_c (by decide) tr_183_0 <| dc_c (by decide) tr_183_1 <| dc_c (by decide) tr_183_2 <| dc_c (by decide) tr_183_3 <| dc_c (by decide) tr_183_4 <| dc_c (by decide) tr_183_5 <| dc_c (by decide) tr_183_6 <| dc_c (by decide) tr_183_7 <| dc_c (by decide) tr_183_8 <| dc_c (by decide) tr_183_9 <| dc_c (by decide) tr_183_10 <| dc_c (by decide) tr_183_11 <| dc_n
theorem dX11_witness_0 : decode cX11_witness 0 = .ok (.aload_n 0, 1) := by decide +kernel
theorem dX11_witness_1 : decode cX11_witness 1 = .ok (.iconst 0, 1) := by decide +kernel
theorem dX11_witness_2 : decode cX11_witness 2 = .ok (.putfield 165, 3) := by decide +kernel
theorem dX11_witness_5 : decode cX11_witness 5 = .ok (.aload_n 0, 1) := by decide +kernel
theorem dX11_witness_6 : decode cX11_witness 6 = .ok (.iload_n 1, 1) := by decide +kernel
theorem dX11_witness_7 : decode cX11_witness 7 = .ok (.invokevirtual 192, 3) := by decide +kernel
theorem dX11_witness_10 : decode cX11_witness 10 = .ok (.ifCond .eq 38, 3) := by decide +kernel
theorem dX11_witness_13 : decode cX11_witness 13 = .ok (.aload_n 0, 1) := by decide +kernel
theorem dX11_witness_14 : decode cX11_witness 14 = .ok (.iload_n 2, 1) := by decide +kernel
theorem dX11_witness_15 : decode cX11_witness 15 = .ok (.invokevirtual 192, 3) := by decide +kernel
theorem dX11_witness_18 : decode cX11_witness 18 = .ok (.ifCond .eq 30, 3) := by decide +kernel
theorem dX11_witness_21 : decode cX11_witness 21 = .ok (.aload_n 0, 1) := by decide +kernel
theorem dX11_witness_22 : decode cX11_witness 22 = .ok (.iload_n 1, 1) := by decide +kernel
theorem dX11_witness_23 : decode cX11_witness 23 = .ok (.iload_n 2, 1) := by decide +kernel
theorem dX11_witness_24 : decode cX11_witness 24 = .ok (.invokevirtual 295, 3) := by decide +kernel
theorem dX11_witness_27 : decode cX11_witness 27 = .ok (.ifCond .ne 21, 3) := by decide +kernel
theorem dX11_witness_30 : decode cX11_witness 30 = .ok (.aload_n 0, 1) := by decide +kernel
theorem dX11_witness_31 : decode cX11_witness 31 = .ok (.iload_n 2, 1) := by decide +kernel
theorem dX11_witness_32 : decode cX11_witness 32 = .ok (.iload_n 1, 1) := by decide +kernel
theorem dX11_witness_33 : decode cX11_witness 33 = .ok (.invokevirtual 295, 3) := by decide +kernel
theorem dX11_witness_36 : decode cX11_witness 36 = .ok (.ifCond .ne 12, 3) := by decide +kernel
theorem dX11_witness_39 : decode cX11_witness 39 = .ok (.iload_n 3, 1) := by decide +kernel
theorem dX11_witness_40 : decode cX11_witness 40 = .ok (.ifCond .lt 8, 3) := by decide +kernel
theorem dX11_witness_43 : decode cX11_witness 43 = .ok (.iload_n 3, 1) := by decide +kernel
theorem dX11_witness_44 : decode cX11_witness 44 = .ok (.iconst 1, 1) := by decide +kernel
theorem dX11_witness_45 : decode cX11_witness 45 = .ok (.if_icmp .le 5, 3) := by decide +kernel
theorem dX11_witness_48 : decode cX11_witness 48 = .ok (.iconst 0, 1) := by decide +kernel
theorem dX11_witness_49 : decode cX11_witness 49 = .ok (.ireturn, 1) := by decide +kernel
theorem dX11_witness_50 : decode cX11_witness 50 = .ok (.iload_n 3, 1) := by decide +kernel
theorem dX11_witness_51 : decode cX11_witness 51 = .ok (.ifCond .ne 7, 3) := by decide +kernel
theorem dX11_witness_54 : decode cX11_witness 54 = .ok (.iload_n 1, 1) := by decide +kernel
theorem dX11_witness_55 : decode cX11_witness 55 = .ok (.goto 4, 3) := by decide +kernel
theorem dX11_witness_58 : decode cX11_witness 58 = .ok (.iload_n 2, 1) := by decide +kernel
theorem dX11_witness_59 : decode cX11_witness 59 = .ok (.istore 4, 2) := by decide +kernel
theorem dX11_witness_61 : decode cX11_witness 61 = .ok (.iload_n 3, 1) := by decide +kernel
theorem dX11_witness_62 : decode cX11_witness 62 = .ok (.ifCond .ne 7, 3) := by decide +kernel
theorem dX11_witness_65 : decode cX11_witness 65 = .ok (.iload_n 2, 1) := by decide +kernel
theorem dX11_witness_66 : decode cX11_witness 66 = .ok (.goto 4, 3) := by decide +kernel
theorem dX11_witness_69 : decode cX11_witness 69 = .ok (.iload_n 1, 1) := by decide +kernel
theorem dX11_witness_70 : decode cX11_witness 70 = .ok (.istore 5, 2) := by decide +kernel
theorem dX11_witness_72 : decode cX11_witness 72 = .ok (.aload_n 0, 1) := by decide +kernel
theorem dX11_witness_73 : decode cX11_witness 73 = .ok (.iload 4, 2) := by decide +kernel
theorem dX11_witness_75 : decode cX11_witness 75 = .ok (.iload 5, 2) := by decide +kernel
theorem dX11_witness_77 : decode cX11_witness 77 = .ok (.lconst 0, 1) := by decide +kernel
theorem dX11_witness_78 : decode cX11_witness 78 = .ok (.iconst 1, 1) := by decide +kernel
theorem dX11_witness_79 : decode cX11_witness 79 = .ok (.invokevirtual 325, 3) := by decide +kernel
theorem dX11_witness_82 : decode cX11_witness 82 = .ok (.lstore 6, 2) := by decide +kernel
theorem dX11_witness_84 : decode cX11_witness 84 = .ok (.aload_n 0, 1) := by decide +kernel
theorem dX11_witness_85 : decode cX11_witness 85 = .ok (.iload 4, 2) := by decide +kernel
theorem dX11_witness_87 : decode cX11_witness 87 = .ok (.iload 5, 2) := by decide +kernel
theorem dX11_witness_89 : decode cX11_witness 89 = .ok (.lload 6, 2) := by decide +kernel
theorem dX11_witness_91 : decode cX11_witness 91 = .ok (.iconst 0, 1) := by decide +kernel
theorem dX11_witness_92 : decode cX11_witness 92 = .ok (.invokevirtual 325, 3) := by decide +kernel
theorem dX11_witness_95 : decode cX11_witness 95 = .ok (.lstore 8, 2) := by decide +kernel
theorem dX11_witness_97 : decode cX11_witness 97 = .ok (.iconst 0, 1) := by decide +kernel
theorem dX11_witness_98 : decode cX11_witness 98 = .ok (.istore 10, 2) := by decide +kernel
theorem dX11_witness_100 : decode cX11_witness 100 = .ok (.iload 10, 2) := by decide +kernel
theorem dX11_witness_102 : decode cX11_witness 102 = .ok (.bipush 60, 2) := by decide +kernel
theorem dX11_witness_104 : decode cX11_witness 104 = .ok (.if_icmp .ge 38, 3) := by decide +kernel
theorem dX11_witness_107 : decode cX11_witness 107 = .ok (.lload 6, 2) := by decide +kernel
theorem dX11_witness_109 : decode cX11_witness 109 = .ok (.lconst 1, 1) := by decide +kernel
theorem dX11_witness_110 : decode cX11_witness 110 = .ok (.iload 10, 2) := by decide +kernel
theorem dX11_witness_112 : decode cX11_witness 112 = .ok (.iconst 1, 1) := by decide +kernel
theorem dX11_witness_113 : decode cX11_witness 113 = .ok (.iadd, 1) := by decide +kernel
theorem dX11_witness_114 : decode cX11_witness 114 = .ok (.lshl, 1) := by decide +kernel
theorem dX11_witness_115 : decode cX11_witness 115 = .ok (.lrem, 1) := by decide +kernel
theorem dX11_witness_116 : decode cX11_witness 116 = .ok (.lconst 0, 1) := by decide +kernel
theorem dX11_witness_117 : decode cX11_witness 117 = .ok (.lcmp, 1) := by decide +kernel
theorem dX11_witness_118 : decode cX11_witness 118 = .ok (.ifCond .ne 24, 3) := by decide +kernel
theorem dX11_witness_121 : decode cX11_witness 121 = .ok (.lload 6, 2) := by decide +kernel
theorem dX11_witness_123 : decode cX11_witness 123 = .ok (.lconst 1, 1) := by decide +kernel
theorem dX11_witness_124 : decode cX11_witness 124 = .ok (.iload 10, 2) := by decide +kernel
theorem dX11_witness_126 : decode cX11_witness 126 = .ok (.iconst 1, 1) := by decide +kernel
theorem dX11_witness_127 : decode cX11_witness 127 = .ok (.iadd, 1) := by decide +kernel
theorem dX11_witness_128 : decode cX11_witness 128 = .ok (.lshl, 1) := by decide +kernel
theorem dX11_witness_129 : decode cX11_witness 129 = .ok (.ladd, 1) := by decide +kernel
theorem dX11_witness_130 : decode cX11_witness 130 = .ok (.lload 8, 2) := by decide +kernel
theorem dX11_witness_132 : decode cX11_witness 132 = .ok (.lcmp, 1) := by decide +kernel
theorem dX11_witness_133 : decode cX11_witness 133 = .ok (.ifCond .gt 9, 3) := by decide +kernel
theorem dX11_witness_136 : decode cX11_witness 136 = .ok (.iinc 10 1, 3) := by decide +kernel
theorem dX11_witness_139 : decode cX11_witness 139 = .ok (.goto (-39), 3) := by decide +kernel
theorem dX11_witness_142 : decode cX11_witness 142 = .ok (.aload_n 0, 1) := by decide +kernel
theorem dX11_witness_143 : decode cX11_witness 143 = .ok (.lload 6, 2) := by decide +kernel
theorem dX11_witness_145 : decode cX11_witness 145 = .ok (.iload 10, 2) := by decide +kernel
theorem dX11_witness_147 : decode cX11_witness 147 = .ok (.lshr, 1) := by decide +kernel
theorem dX11_witness_148 : decode cX11_witness 148 = .ok (.putfield 329, 3) := by decide +kernel
theorem dX11_witness_151 : decode cX11_witness 151 = .ok (.aload_n 0, 1) := by decide +kernel
theorem dX11_witness_152 : decode cX11_witness 152 = .ok (.bipush 60, 2) := by decide +kernel
theorem dX11_witness_154 : decode cX11_witness 154 = .ok (.iload 10, 2) := by decide +kernel
theorem dX11_witness_156 : decode cX11_witness 156 = .ok (.isub, 1) := by decide +kernel
theorem dX11_witness_157 : decode cX11_witness 157 = .ok (.putfield 108, 3) := by decide +kernel
theorem dX11_witness_160 : decode cX11_witness 160 = .ok (.iconst 1, 1) := by decide +kernel
theorem dX11_witness_161 : decode cX11_witness 161 = .ok (.ireturn, 1) := by decide +kernel
def cd_184 : dm_Code := [[dm_ald 1 0, dm_push 2 (.int 0), dm_putf 5 8 40 .int, dm_no, dm_no, dm_ald 6 0, dm_ild 7 1, dm_inv 10 136 1 8, dm_no, dm_no, dm_if_eq 13 48, dm_no, dm_no, dm_ald 14 0, dm_ild 15 2, dm_inv 18 136 1 8],
  [dm_no, dm_no, dm_if_eq 21 48, dm_no, dm_no, dm_ald 22 0, dm_ild 23 1, dm_ild 24 2, dm_inv 27 173 2 8, dm_no, dm_no, dm_if_ne 30 48, dm_no, dm_no, dm_ald 31 0, dm_ild 32 2],
  [dm_ild 33 1, dm_inv 36 173 2 8, dm_no, dm_no, dm_if_ne 39 48, dm_no, dm_no, dm_ild 40 3, dm_if_lt 43 48, dm_no, dm_no, dm_ild 44 3, dm_push 45 (.int 1), dm_ic_le 48 50, dm_no, dm_no],
  [dm_push 49 (.int 0), dm_ret .boolean, dm_ild 51 3, dm_if_ne 54 58, dm_no, dm_no, dm_ild 55 1, dm_goto 59, dm_no, dm_no, dm_ild 59 2, dm_ist 61 4, dm_no, dm_ild 62 3, dm_if_ne 65 69, dm_no],
  [dm_no, dm_ild 66 2, dm_goto 70, dm_no, dm_no, dm_ild 70 1, dm_ist 72 5, dm_no, dm_ald 73 0, dm_ild 75 4, dm_no, dm_ild 77 5, dm_no, dm_push 78 (.long 0), dm_push 79 (.int 1), dm_inv 82 183 4 8],
  [dm_no, dm_no, dm_lst 84 6, dm_no, dm_ald 85 0, dm_ild 87 4, dm_no, dm_ild 89 5, dm_no, dm_lld 91 6, dm_no, dm_push 92 (.int 0), dm_inv 95 183 4 8, dm_no, dm_no, dm_lst 97 8],
  [dm_no, dm_push 98 (.int 0), dm_ist 100 10, dm_no, dm_ild 102 10, dm_no, dm_push 104 (.int 60), dm_no, dm_ic_ge 107 142, dm_no, dm_no, dm_lld 109 6, dm_no, dm_push 110 (.long 1), dm_ild 112 10, dm_no],
  [dm_push 113 (.int 1), dm_ii 114 (fun x y => x + y), dm_li 115 (fun x y => x <<< (y.toInt64 &&& 63)), dm_lq 116 (fun x y => x - x / y * y), dm_push 117 (.long 0), dm_lc 118, dm_if_ne 121 142, dm_no, dm_no, dm_lld 123 6, dm_no, dm_push 124 (.long 1), dm_ild 126 10, dm_no, dm_push 127 (.int 1), dm_ii 128 (fun x y => x + y)],
  [dm_li 129 (fun x y => x <<< (y.toInt64 &&& 63)), dm_ll 130 (fun x y => x + y), dm_lld 132 8, dm_no, dm_lc 133, dm_if_gt 136 142, dm_no, dm_no, dm_iinc 139 10 1, dm_no, dm_no, dm_goto 100, dm_no, dm_no, dm_ald 143 0, dm_lld 145 6],
  [dm_no, dm_ild 147 10, dm_no, dm_li 148 (fun x y => x >>> (y.toInt64 &&& 63)), dm_putf 151 8 38 .long, dm_no, dm_no, dm_ald 152 0, dm_push 154 (.int 60), dm_no, dm_ild 156 10, dm_no, dm_ii 157 (fun x y => x - y), dm_putf 160 8 39 .int, dm_no, dm_no],
  [dm_push 161 (.int 1), dm_ret .boolean]]
theorem tr_184_0 : dm_AllR (dm_Good dm_tb RX11 cX11_witness 11 (some .boolean) false none) 0 [dm_ald 1 0, dm_push 2 (.int 0), dm_putf 5 8 40 .int, dm_no, dm_no, dm_ald 6 0, dm_ild 7 1, dm_inv 10 136 1 8, dm_no, dm_no, dm_if_eq 13 48, dm_no, dm_no, dm_ald 14 0, dm_ild 15 2, dm_inv 18 136 1 8] := dr_c (dg_aload_n (k := 0) rfl dX11_witness_0) <| dr_c (dg_iconst (by decide) dX11_witness_1) <| dr_c (dg_putf (T := TX11) (C := RX11) (N := 68) dX11_witness_2 rfl (by decide) iw_X11 tyX11_ok nmX11 wd_988 rfl rfl) <| dr_c (dg_no) <| dr_c (dg_no) <| dr_c (dg_aload_n (k := 0) rfl dX11_witness_5) <| dr_c (dg_iload_n (k := 1) rfl dX11_witness_6) <| dr_c (dg_inv dX11_witness_7 mo_136 rfl rfl wd_1165 wd_1167 wd_24 pd_136) <| dr_c (dg_no) <| dr_c (dg_no) <| dr_c (dg_if_eq (by decide) dX11_witness_10) <| dr_c (dg_no) <| dr_c (dg_no) <| dr_c (dg_aload_n (k := 0) rfl dX11_witness_13) <| dr_c (dg_iload_n (k := 2) rfl dX11_witness_14) <| dr_c (dg_inv dX11_witness_15 mo_136 rfl rfl wd_1165 wd_1167 wd_24 pd_136) <| dr_n
theorem tr_184_1 : dm_AllR (dm_Good dm_tb RX11 cX11_witness 11 (some .boolean) false none) 16 [dm_no, dm_no, dm_if_eq 21 48, dm_no, dm_no, dm_ald 22 0, dm_ild 23 1, dm_ild 24 2, dm_inv 27 173 2 8, dm_no, dm_no, dm_if_ne 30 48, dm_no, dm_no, dm_ald 31 0, dm_ild 32 2] := dr_c (dg_no) <| dr_c (dg_no) <| dr_c (dg_if_eq (by decide) dX11_witness_18) <| dr_c (dg_no) <| dr_c (dg_no) <| dr_c (dg_aload_n (k := 0) rfl dX11_witness_21) <| dr_c (dg_iload_n (k := 1) rfl dX11_witness_22) <| dr_c (dg_iload_n (k := 2) rfl dX11_witness_23) <| dr_c (dg_inv dX11_witness_24 mo_173 rfl rfl wd_1274 wd_1276 wd_44 pd_173) <| dr_c (dg_no) <| dr_c (dg_no) <| dr_c (dg_if_ne (by decide) dX11_witness_27) <| dr_c (dg_no) <| dr_c (dg_no) <| dr_c (dg_aload_n (k := 0) rfl dX11_witness_30) <| dr_c (dg_iload_n (k := 2) rfl dX11_witness_31) <| dr_n
theorem tr_184_2 : dm_AllR (dm_Good dm_tb RX11 cX11_witness 11 (some .boolean) false none) 32 [dm_ild 33 1, dm_inv 36 173 2 8, dm_no, dm_no, dm_if_ne 39 48, dm_no, dm_no, dm_ild 40 3, dm_if_lt 43 48, dm_no, dm_no, dm_ild 44 3, dm_push 45 (.int 1), dm_ic_le 48 50, dm_no, dm_no] := dr_c (dg_iload_n (k := 1) rfl dX11_witness_32) <| dr_c (dg_inv dX11_witness_33 mo_173 rfl rfl wd_1274 wd_1276 wd_44 pd_173) <| dr_c (dg_no) <| dr_c (dg_no) <| dr_c (dg_if_ne (by decide) dX11_witness_36) <| dr_c (dg_no) <| dr_c (dg_no) <| dr_c (dg_iload_n (k := 3) rfl dX11_witness_39) <| dr_c (dg_if_lt (by decide) dX11_witness_40) <| dr_c (dg_no) <| dr_c (dg_no) <| dr_c (dg_iload_n (k := 3) rfl dX11_witness_43) <| dr_c (dg_iconst (by decide) dX11_witness_44) <| dr_c (dg_ic_le (by decide) dX11_witness_45) <| dr_c (dg_no) <| dr_c (dg_no) <| dr_n
theorem tr_184_3 : dm_AllR (dm_Good dm_tb RX11 cX11_witness 11 (some .boolean) false none) 48 [dm_push 49 (.int 0), dm_ret .boolean, dm_ild 51 3, dm_if_ne 54 58, dm_no, dm_no, dm_ild 55 1, dm_goto 59, dm_no, dm_no, dm_ild 59 2, dm_ist 61 4, dm_no, dm_ild 62 3, dm_if_ne 65 69, dm_no] := dr_c (dg_iconst (by decide) dX11_witness_48) <| dr_c (dg_ret dX11_witness_49) <| dr_c (dg_iload_n (k := 3) rfl dX11_witness_50) <| dr_c (dg_if_ne (by decide) dX11_witness_51) <| dr_c (dg_no) <| dr_c (dg_no) <| dr_c (dg_iload_n (k := 1) rfl dX11_witness_54) <| dr_c (dg_goto (by decide) dX11_witness_55) <| dr_c (dg_no) <| dr_c (dg_no) <| dr_c (dg_iload_n (k := 2) rfl dX11_witness_58) <| dr_c (dg_istore (by decide) dX11_witness_59) <| dr_c (dg_no) <| dr_c (dg_iload_n (k := 3) rfl dX11_witness_61) <| dr_c (dg_if_ne (by decide) dX11_witness_62) <| dr_c (dg_no) <| dr_n
theorem tr_184_4 : dm_AllR (dm_Good dm_tb RX11 cX11_witness 11 (some .boolean) false none) 64 [dm_no, dm_ild 66 2, dm_goto 70, dm_no, dm_no, dm_ild 70 1, dm_ist 72 5, dm_no, dm_ald 73 0, dm_ild 75 4, dm_no, dm_ild 77 5, dm_no, dm_push 78 (.long 0), dm_push 79 (.int 1), dm_inv 82 183 4 8] := dr_c (dg_no) <| dr_c (dg_iload_n (k := 2) rfl dX11_witness_65) <| dr_c (dg_goto (by decide) dX11_witness_66) <| dr_c (dg_no) <| dr_c (dg_no) <| dr_c (dg_iload_n (k := 1) rfl dX11_witness_69) <| dr_c (dg_istore (by decide) dX11_witness_70) <| dr_c (dg_no) <| dr_c (dg_aload_n (k := 0) rfl dX11_witness_72) <| dr_c (dg_iload dX11_witness_73) <| dr_c (dg_no) <| dr_c (dg_iload dX11_witness_75) <| dr_c (dg_no) <| dr_c (dg_lconst (by decide) dX11_witness_77) <| dr_c (dg_iconst (by decide) dX11_witness_78) <| dr_c (dg_inv dX11_witness_79 mo_183 rfl rfl wd_1349 wd_1351 wd_52 pd_183) <| dr_n
theorem tr_184_5 : dm_AllR (dm_Good dm_tb RX11 cX11_witness 11 (some .boolean) false none) 80 [dm_no, dm_no, dm_lst 84 6, dm_no, dm_ald 85 0, dm_ild 87 4, dm_no, dm_ild 89 5, dm_no, dm_lld 91 6, dm_no, dm_push 92 (.int 0), dm_inv 95 183 4 8, dm_no, dm_no, dm_lst 97 8] := dr_c (dg_no) <| dr_c (dg_no) <| dr_c (dg_lstore (by decide) dX11_witness_82) <| dr_c (dg_no) <| dr_c (dg_aload_n (k := 0) rfl dX11_witness_84) <| dr_c (dg_iload dX11_witness_85) <| dr_c (dg_no) <| dr_c (dg_iload dX11_witness_87) <| dr_c (dg_no) <| dr_c (dg_lload dX11_witness_89) <| dr_c (dg_no) <| dr_c (dg_iconst (by decide) dX11_witness_91) <| dr_c (dg_inv dX11_witness_92 mo_183 rfl rfl wd_1349 wd_1351 wd_52 pd_183) <| dr_c (dg_no) <| dr_c (dg_no) <| dr_c (dg_lstore (by decide) dX11_witness_95) <| dr_n
theorem tr_184_6 : dm_AllR (dm_Good dm_tb RX11 cX11_witness 11 (some .boolean) false none) 96 [dm_no, dm_push 98 (.int 0), dm_ist 100 10, dm_no, dm_ild 102 10, dm_no, dm_push 104 (.int 60), dm_no, dm_ic_ge 107 142, dm_no, dm_no, dm_lld 109 6, dm_no, dm_push 110 (.long 1), dm_ild 112 10, dm_no] := dr_c (dg_no) <| dr_c (dg_iconst (by decide) dX11_witness_97) <| dr_c (dg_istore (by decide) dX11_witness_98) <| dr_c (dg_no) <| dr_c (dg_iload dX11_witness_100) <| dr_c (dg_no) <| dr_c (dg_bipush (by decide) dX11_witness_102) <| dr_c (dg_no) <| dr_c (dg_ic_ge (by decide) dX11_witness_104) <| dr_c (dg_no) <| dr_c (dg_no) <| dr_c (dg_lload dX11_witness_107) <| dr_c (dg_no) <| dr_c (dg_lconst (by decide) dX11_witness_109) <| dr_c (dg_iload dX11_witness_110) <| dr_c (dg_no) <| dr_n
theorem tr_184_7 : dm_AllR (dm_Good dm_tb RX11 cX11_witness 11 (some .boolean) false none) 112 [dm_push 113 (.int 1), dm_ii 114 (fun x y => x + y), dm_li 115 (fun x y => x <<< (y.toInt64 &&& 63)), dm_lq 116 (fun x y => x - x / y * y), dm_push 117 (.long 0), dm_lc 118, dm_if_ne 121 142, dm_no, dm_no, dm_lld 123 6, dm_no, dm_push 124 (.long 1), dm_ild 126 10, dm_no, dm_push 127 (.int 1), dm_ii 128 (fun x y => x + y)] := dr_c (dg_iconst (by decide) dX11_witness_112) <| dr_c (dg_iadd dX11_witness_113) <| dr_c (dg_lshl dX11_witness_114) <| dr_c (dg_lrem dX11_witness_115) <| dr_c (dg_lconst (by decide) dX11_witness_116) <| dr_c (dg_lcmp dX11_witness_117) <| dr_c (dg_if_ne (by decide) dX11_witness_118) <| dr_c (dg_no) <| dr_c (dg_no) <| dr_c (dg_lload dX11_witness_121) <| dr_c (dg_no) <| dr_c (dg_lconst (by decide) dX11_witness_123) <| dr_c (dg_iload dX11_witness_124) <| dr_c (dg_no) <| dr_c (dg_iconst (by decide) dX11_witness_126) <| dr_c (dg_iadd dX11_witness_127) <| dr_n
theorem tr_184_8 : dm_AllR (dm_Good dm_tb RX11 cX11_witness 11 (some .boolean) false none) 128 [dm_li 129 (fun x y => x <<< (y.toInt64 &&& 63)), dm_ll 130 (fun x y => x + y), dm_lld 132 8, dm_no, dm_lc 133, dm_if_gt 136 142, dm_no, dm_no, dm_iinc 139 10 1, dm_no, dm_no, dm_goto 100, dm_no, dm_no, dm_ald 143 0, dm_lld 145 6] := dr_c (dg_lshl dX11_witness_128) <| dr_c (dg_ladd dX11_witness_129) <| dr_c (dg_lload dX11_witness_130) <| dr_c (dg_no) <| dr_c (dg_lcmp dX11_witness_132) <| dr_c (dg_if_gt (by decide) dX11_witness_133) <| dr_c (dg_no) <| dr_c (dg_no) <| dr_c (dg_iinc (by decide) (by decide) dX11_witness_136) <| dr_c (dg_no) <| dr_c (dg_no) <| dr_c (dg_goto (by decide) dX11_witness_139) <| dr_c (dg_no) <| dr_c (dg_no) <| dr_c (dg_aload_n (k := 0) rfl dX11_witness_142) <| dr_c (dg_lload dX11_witness_143) <| dr_n
theorem tr_184_9 : dm_AllR (dm_Good dm_tb RX11 cX11_witness 11 (some .boolean) false none) 144 [dm_no, dm_ild 147 10, dm_no, dm_li 148 (fun x y => x >>> (y.toInt64 &&& 63)), dm_putf 151 8 38 .long, dm_no, dm_no, dm_ald 152 0, dm_push 154 (.int 60), dm_no, dm_ild 156 10, dm_no, dm_ii 157 (fun x y => x - y), dm_putf 160 8 39 .int, dm_no, dm_no] := dr_c (dg_no) <| dr_c (dg_iload dX11_witness_145) <| dr_c (dg_no) <| dr_c (dg_lshr dX11_witness_147) <| dr_c (dg_putf (T := TX11) (C := RX11) (N := 68) dX11_witness_148 rfl (by decide) iw_X11 tyX11_ok nmX11 wd_986 rfl rfl) <| dr_c (dg_no) <| dr_c (dg_no) <| dr_c (dg_aload_n (k := 0) rfl dX11_witness_151) <| dr_c (dg_bipush (by decide) dX11_witness_152) <| dr_c (dg_no) <| dr_c (dg_iload dX11_witness_154) <| dr_c (dg_no) <| dr_c (dg_isub dX11_witness_156) <| dr_c (dg_putf (T := TX11) (C := RX11) (N := 68) dX11_witness_157 rfl (by decide) iw_X11 tyX11_ok nmX11 wd_987 rfl rfl) <| dr_c (dg_no) <| dr_c (dg_no) <| dr_n
theorem tr_184_10 : dm_AllR (dm_Good dm_tb RX11 cX11_witness 11 (some .boolean) false none) 160 [dm_push 161 (.int 1), dm_ret .boolean] := dr_c (dg_iconst (by decide) dX11_witness_160) <| dr_c (dg_ret dX11_witness_161) <| dr_n
theorem tk_184 : dm_AllC (dm_Good dm_tb RX11 cX11_witness 11 (some .boolean) false none) 0 cd_184 := dc_c (by decide) tr_184_0 <| dc_c (by decide) tr_184_1 <| dc_c (by decide) tr_184_2 <| dc_c (by decide) tr_184_3 <| dc_c (by decide) tr_184_4 <| dc_c (by decide) tr_184_5 <| dc_c (by decide) tr_184_6 <| dc_c (by decide) tr_184_7 <| dc_c (by decide) tr_184_8 <| dc_c (by decide) tr_184_9 <| dc_c (by decide) tr_184_10 <| dc_n
theorem dX11_place_0 : decode cX11_place 0 = .ok (.aload_n 0, 1) := by decide +kernel
theorem dX11_place_1 : decode cX11_place 1 = .ok (.iconst 0, 1) := by decide +kernel
theorem dX11_place_2 : decode cX11_place 2 = .ok (.putfield 165, 3) := by decide +kernel
theorem dX11_place_5 : decode cX11_place 5 = .ok (.aload_n 0, 1) := by decide +kernel
theorem dX11_place_6 : decode cX11_place 6 = .ok (.getfield 329, 3) := by decide +kernel
theorem dX11_place_9 : decode cX11_place 9 = .ok (.lreturn, 1) := by decide +kernel
def cd_185 : dm_Code := [[dm_ald 1 0, dm_push 2 (.int 0), dm_putf 5 8 40 .int, dm_no, dm_no, dm_ald 6 0, dm_getf 9 8 38, dm_no, dm_no, dm_lret]]
theorem tr_185_0 : dm_AllR (dm_Good dm_tb RX11 cX11_place 1 (some .long) false none) 0 [dm_ald 1 0, dm_push 2 (.int 0), dm_putf 5 8 40 .int, dm_no, dm_no, dm_ald 6 0, dm_getf 9 8 38, dm_no, dm_no, dm_lret] := dr_c (dg_aload_n (k := 0) rfl dX11_place_0) <| dr_c (dg_iconst (by decide) dX11_place_1) <| dr_c (dg_putf (T := TX11) (C := RX11) (N := 68) dX11_place_2 rfl (by decide) iw_X11 tyX11_ok nmX11 wd_988 rfl rfl) <| dr_c (dg_no) <| dr_c (dg_no) <| dr_c (dg_aload_n (k := 0) rfl dX11_place_5) <| dr_c (dg_getf (T := TX11) (C := RX11) (N := 68) dX11_place_6 rfl (by decide) iw_X11 wd_986) <| dr_c (dg_no) <| dr_c (dg_no) <| dr_c (dg_lret dX11_place_9) <| dr_n
theorem tk_185 : dm_AllC (dm_Good dm_tb RX11 cX11_place 1 (some .long) false none) 0 cd_185 := dc_c (by decide) tr_185_0 <| dc_n
theorem dX11_digits_0 : decode cX11_digits 0 = .ok (.aload_n 0, 1) := by decide +kernel
theorem dX11_digits_1 : decode cX11_digits 1 = .ok (.iconst 0, 1) := by decide +kernel
theorem dX11_digits_2 : decode cX11_digits 2 = .ok (.putfield 165, 3) := by decide +kernel
theorem dX11_digits_5 : decode cX11_digits 5 = .ok (.aload_n 0, 1) := by decide +kernel
theorem dX11_digits_6 : decode cX11_digits 6 = .ok (.getfield 108, 3) := by decide +kernel
theorem dX11_digits_9 : decode cX11_digits 9 = .ok (.ireturn, 1) := by decide +kernel
def cd_186 : dm_Code := [[dm_ald 1 0, dm_push 2 (.int 0), dm_putf 5 8 40 .int, dm_no, dm_no, dm_ald 6 0, dm_getf 9 8 39, dm_no, dm_no, dm_ret .int]]
theorem tr_186_0 : dm_AllR (dm_Good dm_tb RX11 cX11_digits 1 (some .int) false none) 0 [dm_ald 1 0, dm_push 2 (.int 0), dm_putf 5 8 40 .int, dm_no, dm_no, dm_ald 6 0, dm_getf 9 8 39, dm_no, dm_no, dm_ret .int] := dr_c (dg_aload_n (k := 0) rfl dX11_digits_0) <| dr_c (dg_iconst (by decide) dX11_digits_1) <| dr_c (dg_putf (T := TX11) (C := RX11) (N := 68) dX11_digits_2 rfl (by decide) iw_X11 tyX11_ok nmX11 wd_988 rfl rfl) <| dr_c (dg_no) <| dr_c (dg_no) <| dr_c (dg_aload_n (k := 0) rfl dX11_digits_5) <| dr_c (dg_getf (T := TX11) (C := RX11) (N := 68) dX11_digits_6 rfl (by decide) iw_X11 wd_987) <| dr_c (dg_no) <| dr_c (dg_no) <| dr_c (dg_ret dX11_digits_9) <| dr_n
theorem tk_186 : dm_AllC (dm_Good dm_tb RX11 cX11_digits 1 (some .int) false none) 0 cd_186 := dc_c (by decide) tr_186_0 <| dc_n
theorem dX11_check_0 : decode cX11_check 0 = .ok (.aload_n 0, 1) := by decide +kernel
theorem dX11_check_1 : decode cX11_check 1 = .ok (.iconst 0, 1) := by decide +kernel
theorem dX11_check_2 : decode cX11_check 2 = .ok (.putfield 165, 3) := by decide +kernel
theorem dX11_check_5 : decode cX11_check 5 = .ok (.aload_n 0, 1) := by decide +kernel
theorem dX11_check_6 : decode cX11_check 6 = .ok (.iload_n 1, 1) := by decide +kernel
theorem dX11_check_7 : decode cX11_check 7 = .ok (.invokevirtual 192, 3) := by decide +kernel
theorem dX11_check_10 : decode cX11_check 10 = .ok (.ifCond .eq 30, 3) := by decide +kernel
theorem dX11_check_13 : decode cX11_check 13 = .ok (.aload_n 0, 1) := by decide +kernel
theorem dX11_check_14 : decode cX11_check 14 = .ok (.iload_n 2, 1) := by decide +kernel
theorem dX11_check_15 : decode cX11_check 15 = .ok (.invokevirtual 192, 3) := by decide +kernel
theorem dX11_check_18 : decode cX11_check 18 = .ok (.ifCond .eq 22, 3) := by decide +kernel
theorem dX11_check_21 : decode cX11_check 21 = .ok (.lload_n 3, 1) := by decide +kernel
theorem dX11_check_22 : decode cX11_check 22 = .ok (.iload 5, 2) := by decide +kernel
theorem dX11_check_24 : decode cX11_check 24 = .ok (.invokestatic 305, 3) := by decide +kernel
theorem dX11_check_27 : decode cX11_check 27 = .ok (.ifCond .eq 13, 3) := by decide +kernel
theorem dX11_check_30 : decode cX11_check 30 = .ok (.lload 6, 2) := by decide +kernel
theorem dX11_check_32 : decode cX11_check 32 = .ok (.iload 8, 2) := by decide +kernel
theorem dX11_check_34 : decode cX11_check 34 = .ok (.invokestatic 305, 3) := by decide +kernel
theorem dX11_check_37 : decode cX11_check 37 = .ok (.ifCond .ne 5, 3) := by decide +kernel
theorem dX11_check_40 : decode cX11_check 40 = .ok (.iconst (-1), 1) := by decide +kernel
theorem dX11_check_41 : decode cX11_check 41 = .ok (.ireturn, 1) := by decide +kernel
theorem dX11_check_42 : decode cX11_check 42 = .ok (.lload_n 3, 1) := by decide +kernel
theorem dX11_check_43 : decode cX11_check 43 = .ok (.bipush 60, 2) := by decide +kernel
theorem dX11_check_45 : decode cX11_check 45 = .ok (.iload 5, 2) := by decide +kernel
theorem dX11_check_47 : decode cX11_check 47 = .ok (.isub, 1) := by decide +kernel
theorem dX11_check_48 : decode cX11_check 48 = .ok (.lshl, 1) := by decide +kernel
theorem dX11_check_49 : decode cX11_check 49 = .ok (.lstore 9, 2) := by decide +kernel
theorem dX11_check_51 : decode cX11_check 51 = .ok (.lload 6, 2) := by decide +kernel
theorem dX11_check_53 : decode cX11_check 53 = .ok (.bipush 60, 2) := by decide +kernel
theorem dX11_check_55 : decode cX11_check 55 = .ok (.iload 8, 2) := by decide +kernel
theorem dX11_check_57 : decode cX11_check 57 = .ok (.isub, 1) := by decide +kernel
theorem dX11_check_58 : decode cX11_check 58 = .ok (.lshl, 1) := by decide +kernel
theorem dX11_check_59 : decode cX11_check 59 = .ok (.lstore 11, 2) := by decide +kernel
theorem dX11_check_61 : decode cX11_check 61 = .ok (.aload_n 0, 1) := by decide +kernel
theorem dX11_check_62 : decode cX11_check 62 = .ok (.iload_n 1, 1) := by decide +kernel
theorem dX11_check_63 : decode cX11_check 63 = .ok (.lload 9, 2) := by decide +kernel
theorem dX11_check_65 : decode cX11_check 65 = .ok (.invokevirtual 309, 3) := by decide +kernel
theorem dX11_check_68 : decode cX11_check 68 = .ok (.aload_n 0, 1) := by decide +kernel
theorem dX11_check_69 : decode cX11_check 69 = .ok (.iload_n 2, 1) := by decide +kernel
theorem dX11_check_70 : decode cX11_check 70 = .ok (.lload 9, 2) := by decide +kernel
theorem dX11_check_72 : decode cX11_check 72 = .ok (.invokevirtual 309, 3) := by decide +kernel
theorem dX11_check_75 : decode cX11_check 75 = .ok (.if_icmp .gt 7, 3) := by decide +kernel
theorem dX11_check_78 : decode cX11_check 78 = .ok (.iconst 1, 1) := by decide +kernel
theorem dX11_check_79 : decode cX11_check 79 = .ok (.goto 25, 3) := by decide +kernel
theorem dX11_check_82 : decode cX11_check 82 = .ok (.aload_n 0, 1) := by decide +kernel
theorem dX11_check_83 : decode cX11_check 83 = .ok (.iload_n 2, 1) := by decide +kernel
theorem dX11_check_84 : decode cX11_check 84 = .ok (.lload 11, 2) := by decide +kernel
theorem dX11_check_86 : decode cX11_check 86 = .ok (.invokevirtual 309, 3) := by decide +kernel
theorem dX11_check_89 : decode cX11_check 89 = .ok (.aload_n 0, 1) := by decide +kernel
theorem dX11_check_90 : decode cX11_check 90 = .ok (.iload_n 1, 1) := by decide +kernel
theorem dX11_check_91 : decode cX11_check 91 = .ok (.lload 11, 2) := by decide +kernel
theorem dX11_check_93 : decode cX11_check 93 = .ok (.invokevirtual 309, 3) := by decide +kernel
theorem dX11_check_96 : decode cX11_check 96 = .ok (.if_icmp .gt 7, 3) := by decide +kernel
theorem dX11_check_99 : decode cX11_check 99 = .ok (.iconst 2, 1) := by decide +kernel
theorem dX11_check_100 : decode cX11_check 100 = .ok (.goto 4, 3) := by decide +kernel
theorem dX11_check_103 : decode cX11_check 103 = .ok (.iconst 0, 1) := by decide +kernel
theorem dX11_check_104 : decode cX11_check 104 = .ok (.ireturn, 1) := by decide +kernel
def cd_187 : dm_Code := [[dm_ald 1 0, dm_push 2 (.int 0), dm_putf 5 8 40 .int, dm_no, dm_no, dm_ald 6 0, dm_ild 7 1, dm_inv 10 136 1 8, dm_no, dm_no, dm_if_eq 13 40, dm_no, dm_no, dm_ald 14 0, dm_ild 15 2, dm_inv 18 136 1 8],
  [dm_no, dm_no, dm_if_eq 21 40, dm_no, dm_no, dm_lld 22 3, dm_ild 24 5, dm_no, dm_ins 27 177 2, dm_no, dm_no, dm_if_eq 30 40, dm_no, dm_no, dm_lld 32 6, dm_no],
  [dm_ild 34 8, dm_no, dm_ins 37 177 2, dm_no, dm_no, dm_if_ne 40 42, dm_no, dm_no, dm_push 41 (.int (-1)), dm_ret .int, dm_lld 43 3, dm_push 45 (.int 60), dm_no, dm_ild 47 5, dm_no, dm_ii 48 (fun x y => x - y)],
  [dm_li 49 (fun x y => x <<< (y.toInt64 &&& 63)), dm_lst 51 9, dm_no, dm_lld 53 6, dm_no, dm_push 55 (.int 60), dm_no, dm_ild 57 8, dm_no, dm_ii 58 (fun x y => x - y), dm_li 59 (fun x y => x <<< (y.toInt64 &&& 63)), dm_lst 61 11, dm_no, dm_ald 62 0, dm_ild 63 1, dm_lld 65 9],
  [dm_no, dm_inv 68 178 2 8, dm_no, dm_no, dm_ald 69 0, dm_ild 70 2, dm_lld 72 9, dm_no, dm_inv 75 178 2 8, dm_no, dm_no, dm_ic_gt 78 82, dm_no, dm_no, dm_push 79 (.int 1), dm_goto 104],
  [dm_no, dm_no, dm_ald 83 0, dm_ild 84 2, dm_lld 86 11, dm_no, dm_inv 89 178 2 8, dm_no, dm_no, dm_ald 90 0, dm_ild 91 1, dm_lld 93 11, dm_no, dm_inv 96 178 2 8, dm_no, dm_no],
  [dm_ic_gt 99 103, dm_no, dm_no, dm_push 100 (.int 2), dm_goto 104, dm_no, dm_no, dm_push 104 (.int 0), dm_ret .int]]
theorem tr_187_0 : dm_AllR (dm_Good dm_tb RX11 cX11_check 13 (some .int) false none) 0 [dm_ald 1 0, dm_push 2 (.int 0), dm_putf 5 8 40 .int, dm_no, dm_no, dm_ald 6 0, dm_ild 7 1, dm_inv 10 136 1 8, dm_no, dm_no, dm_if_eq 13 40, dm_no, dm_no, dm_ald 14 0, dm_ild 15 2, dm_inv 18 136 1 8] := dr_c (dg_aload_n (k := 0) rfl dX11_check_0) <| dr_c (dg_iconst (by decide) dX11_check_1) <| dr_c (dg_putf (T := TX11) (C := RX11) (N := 68) dX11_check_2 rfl (by decide) iw_X11 tyX11_ok nmX11 wd_988 rfl rfl) <| dr_c (dg_no) <| dr_c (dg_no) <| dr_c (dg_aload_n (k := 0) rfl dX11_check_5) <| dr_c (dg_iload_n (k := 1) rfl dX11_check_6) <| dr_c (dg_inv dX11_check_7 mo_136 rfl rfl wd_1165 wd_1167 wd_24 pd_136) <| dr_c (dg_no) <| dr_c (dg_no) <| dr_c (dg_if_eq (by decide) dX11_check_10) <| dr_c (dg_no) <| dr_c (dg_no) <| dr_c (dg_aload_n (k := 0) rfl dX11_check_13) <| dr_c (dg_iload_n (k := 2) rfl dX11_check_14) <| dr_c (dg_inv dX11_check_15 mo_136 rfl rfl wd_1165 wd_1167 wd_24 pd_136) <| dr_n
theorem tr_187_1 : dm_AllR (dm_Good dm_tb RX11 cX11_check 13 (some .int) false none) 16 [dm_no, dm_no, dm_if_eq 21 40, dm_no, dm_no, dm_lld 22 3, dm_ild 24 5, dm_no, dm_ins 27 177 2, dm_no, dm_no, dm_if_eq 30 40, dm_no, dm_no, dm_lld 32 6, dm_no] := dr_c (dg_no) <| dr_c (dg_no) <| dr_c (dg_if_eq (by decide) dX11_check_18) <| dr_c (dg_no) <| dr_c (dg_no) <| dr_c (dg_lload_n (k := 3) rfl dX11_check_21) <| dr_c (dg_iload dX11_check_22) <| dr_c (dg_no) <| dr_c (dg_ins dX11_check_24 mo_177 wd_1305 wd_1306 pd_177) <| dr_c (dg_no) <| dr_c (dg_no) <| dr_c (dg_if_eq (by decide) dX11_check_27) <| dr_c (dg_no) <| dr_c (dg_no) <| dr_c (dg_lload dX11_check_30) <| dr_c (dg_no) <| dr_n
theorem tr_187_2 : dm_AllR (dm_Good dm_tb RX11 cX11_check 13 (some .int) false none) 32 [dm_ild 34 8, dm_no, dm_ins 37 177 2, dm_no, dm_no, dm_if_ne 40 42, dm_no, dm_no, dm_push 41 (.int (-1)), dm_ret .int, dm_lld 43 3, dm_push 45 (.int 60), dm_no, dm_ild 47 5, dm_no, dm_ii 48 (fun x y => x - y)] := dr_c (dg_iload dX11_check_32) <| dr_c (dg_no) <| dr_c (dg_ins dX11_check_34 mo_177 wd_1305 wd_1306 pd_177) <| dr_c (dg_no) <| dr_c (dg_no) <| dr_c (dg_if_ne (by decide) dX11_check_37) <| dr_c (dg_no) <| dr_c (dg_no) <| dr_c (dg_iconst (by decide) dX11_check_40) <| dr_c (dg_ret dX11_check_41) <| dr_c (dg_lload_n (k := 3) rfl dX11_check_42) <| dr_c (dg_bipush (by decide) dX11_check_43) <| dr_c (dg_no) <| dr_c (dg_iload dX11_check_45) <| dr_c (dg_no) <| dr_c (dg_isub dX11_check_47) <| dr_n
theorem tr_187_3 : dm_AllR (dm_Good dm_tb RX11 cX11_check 13 (some .int) false none) 48 [dm_li 49 (fun x y => x <<< (y.toInt64 &&& 63)), dm_lst 51 9, dm_no, dm_lld 53 6, dm_no, dm_push 55 (.int 60), dm_no, dm_ild 57 8, dm_no, dm_ii 58 (fun x y => x - y), dm_li 59 (fun x y => x <<< (y.toInt64 &&& 63)), dm_lst 61 11, dm_no, dm_ald 62 0, dm_ild 63 1, dm_lld 65 9] := dr_c (dg_lshl dX11_check_48) <| dr_c (dg_lstore (by decide) dX11_check_49) <| dr_c (dg_no) <| dr_c (dg_lload dX11_check_51) <| dr_c (dg_no) <| dr_c (dg_bipush (by decide) dX11_check_53) <| dr_c (dg_no) <| dr_c (dg_iload dX11_check_55) <| dr_c (dg_no) <| dr_c (dg_isub dX11_check_57) <| dr_c (dg_lshl dX11_check_58) <| dr_c (dg_lstore (by decide) dX11_check_59) <| dr_c (dg_no) <| dr_c (dg_aload_n (k := 0) rfl dX11_check_61) <| dr_c (dg_iload_n (k := 1) rfl dX11_check_62) <| dr_c (dg_lload dX11_check_63) <| dr_n
theorem tr_187_4 : dm_AllR (dm_Good dm_tb RX11 cX11_check 13 (some .int) false none) 64 [dm_no, dm_inv 68 178 2 8, dm_no, dm_no, dm_ald 69 0, dm_ild 70 2, dm_lld 72 9, dm_no, dm_inv 75 178 2 8, dm_no, dm_no, dm_ic_gt 78 82, dm_no, dm_no, dm_push 79 (.int 1), dm_goto 104] := dr_c (dg_no) <| dr_c (dg_inv dX11_check_65 mo_178 rfl rfl wd_1308 wd_1310 wd_45 pd_178) <| dr_c (dg_no) <| dr_c (dg_no) <| dr_c (dg_aload_n (k := 0) rfl dX11_check_68) <| dr_c (dg_iload_n (k := 2) rfl dX11_check_69) <| dr_c (dg_lload dX11_check_70) <| dr_c (dg_no) <| dr_c (dg_inv dX11_check_72 mo_178 rfl rfl wd_1308 wd_1310 wd_45 pd_178) <| dr_c (dg_no) <| dr_c (dg_no) <| dr_c (dg_ic_gt (by decide) dX11_check_75) <| dr_c (dg_no) <| dr_c (dg_no) <| dr_c (dg_iconst (by decide) dX11_check_78) <| dr_c (dg_goto (by decide) dX11_check_79) <| dr_n
theorem tr_187_5 : dm_AllR (dm_Good dm_tb RX11 cX11_check 13 (some .int) false none) 80 [dm_no, dm_no, dm_ald 83 0, dm_ild 84 2, dm_lld 86 11, dm_no, dm_inv 89 178 2 8, dm_no, dm_no, dm_ald 90 0, dm_ild 91 1, dm_lld 93 11, dm_no, dm_inv 96 178 2 8, dm_no, dm_no] := dr_c (dg_no) <| dr_c (dg_no) <| dr_c (dg_aload_n (k := 0) rfl dX11_check_82) <| dr_c (dg_iload_n (k := 2) rfl dX11_check_83) <| dr_c (dg_lload dX11_check_84) <| dr_c (dg_no) <| dr_c (dg_inv dX11_check_86 mo_178 rfl rfl wd_1308 wd_1310 wd_45 pd_178) <| dr_c (dg_no) <| dr_c (dg_no) <| dr_c (dg_aload_n (k := 0) rfl dX11_check_89) <| dr_c (dg_iload_n (k := 1) rfl dX11_check_90) <| dr_c (dg_lload dX11_check_91) <| dr_c (dg_no) <| dr_c (dg_inv dX11_check_93 mo_178 rfl rfl wd_1308 wd_1310 wd_45 pd_178) <| dr_c (dg_no) <| dr_c (dg_no) <| dr_n
theorem tr_187_6 : dm_AllR (dm_Good dm_tb RX11 cX11_check 13 (some .int) false none) 96 [dm_ic_gt 99 103, dm_no, dm_no, dm_push 100 (.int 2), dm_goto 104, dm_no, dm_no, dm_push 104 (.int 0), dm_ret .int] := dr_c (dg_ic_gt (by decide) dX11_check_96) <| dr_c (dg_no) <| dr_c (dg_no) <| dr_c (dg_iconst (by decide) dX11_check_99) <| dr_c (dg_goto (by decide) dX11_check_100) <| dr_c (dg_no) <| dr_c (dg_no) <| dr_c (dg_iconst (by decide) dX11_check_103) <| dr_c (dg_ret dX11_check_104) <| dr_n
theorem tk_187 : dm_AllC (dm_Good dm_tb RX11 cX11_check 13 (some .int) false none) 0 cd_187 := dc_c (by decide) tr_187_0 <| dc_c (by decide) tr_187_1 <| dc_c (by decide) tr_187_2 <| dc_c (by decide) tr_187_3 <| dc_c (by decide) tr_187_4 <| dc_c (by decide) tr_187_5 <| dc_c (by decide) tr_187_6 <| dc_n
theorem dX11_bit_0 : decode cX11_bit 0 = .ok (.aload_n 0, 1) := by decide +kernel
theorem dX11_bit_1 : decode cX11_bit 1 = .ok (.getfield 332, 3) := by decide +kernel
theorem dX11_bit_4 : decode cX11_bit 4 = .ok (.ifCond .eq 13, 3) := by decide +kernel
theorem dX11_bit_7 : decode cX11_bit 7 = .ok (.aload_n 0, 1) := by decide +kernel
theorem dX11_bit_8 : decode cX11_bit 8 = .ok (.getfield 101, 3) := by decide +kernel
theorem dX11_bit_11 : decode cX11_bit 11 = .ok (.aload_n 0, 1) := by decide +kernel
theorem dX11_bit_12 : decode cX11_bit 12 = .ok (.getfield 336, 3) := by decide +kernel
theorem dX11_bit_15 : decode cX11_bit 15 = .ok (.iload_n 1, 1) := by decide +kernel
theorem dX11_bit_16 : decode cX11_bit 16 = .ok (.bastore, 1) := by decide +kernel
theorem dX11_bit_17 : decode cX11_bit 17 = .ok (.aload_n 0, 1) := by decide +kernel
theorem dX11_bit_18 : decode cX11_bit 18 = .ok (.dup, 1) := by decide +kernel
theorem dX11_bit_19 : decode cX11_bit 19 = .ok (.getfield 336, 3) := by decide +kernel
theorem dX11_bit_22 : decode cX11_bit 22 = .ok (.iconst 1, 1) := by decide +kernel
theorem dX11_bit_23 : decode cX11_bit 23 = .ok (.iadd, 1) := by decide +kernel
theorem dX11_bit_24 : decode cX11_bit 24 = .ok (.putfield 336, 3) := by decide +kernel
theorem dX11_bit_27 : decode cX11_bit 27 = .ok (.return_, 1) := by decide +kernel
def cd_188 : dm_Code := [[dm_ald 1 0, dm_getf 4 8 64, dm_no, dm_no, dm_if_eq 7 17, dm_no, dm_no, dm_ald 8 0, dm_getf 11 8 35, dm_no, dm_no, dm_ald 12 0, dm_getf 15 8 65, dm_no, dm_no, dm_ild 16 1],
  [dm_bast 17, dm_ald 18 0, dm_dup 19, dm_getf 22 8 65, dm_no, dm_no, dm_push 23 (.int 1), dm_ii 24 (fun x y => x + y), dm_putf 27 8 65 .int, dm_no, dm_no, dm_vret]]
theorem tr_188_0 : dm_AllR (dm_Good dm_tb RX11 cX11_bit 2 none false none) 0 [dm_ald 1 0, dm_getf 4 8 64, dm_no, dm_no, dm_if_eq 7 17, dm_no, dm_no, dm_ald 8 0, dm_getf 11 8 35, dm_no, dm_no, dm_ald 12 0, dm_getf 15 8 65, dm_no, dm_no, dm_ild 16 1] := dr_c (dg_aload_n (k := 0) rfl dX11_bit_0) <| dr_c (dg_getf (T := TX11) (C := RX11) (N := 68) dX11_bit_1 rfl (by decide) iw_X11 wd_1012) <| dr_c (dg_no) <| dr_c (dg_no) <| dr_c (dg_if_eq (by decide) dX11_bit_4) <| dr_c (dg_no) <| dr_c (dg_no) <| dr_c (dg_aload_n (k := 0) rfl dX11_bit_7) <| dr_c (dg_getf (T := TX11) (C := RX11) (N := 68) dX11_bit_8 rfl (by decide) iw_X11 wd_983) <| dr_c (dg_no) <| dr_c (dg_no) <| dr_c (dg_aload_n (k := 0) rfl dX11_bit_11) <| dr_c (dg_getf (T := TX11) (C := RX11) (N := 68) dX11_bit_12 rfl (by decide) iw_X11 wd_1013) <| dr_c (dg_no) <| dr_c (dg_no) <| dr_c (dg_iload_n (k := 1) rfl dX11_bit_15) <| dr_n
theorem tr_188_1 : dm_AllR (dm_Good dm_tb RX11 cX11_bit 2 none false none) 16 [dm_bast 17, dm_ald 18 0, dm_dup 19, dm_getf 22 8 65, dm_no, dm_no, dm_push 23 (.int 1), dm_ii 24 (fun x y => x + y), dm_putf 27 8 65 .int, dm_no, dm_no, dm_vret] := dr_c (dg_bast dX11_bit_16) <| dr_c (dg_aload_n (k := 0) rfl dX11_bit_17) <| dr_c (dg_dup dX11_bit_18) <| dr_c (dg_getf (T := TX11) (C := RX11) (N := 68) dX11_bit_19 rfl (by decide) iw_X11 wd_1013) <| dr_c (dg_no) <| dr_c (dg_no) <| dr_c (dg_iconst (by decide) dX11_bit_22) <| dr_c (dg_iadd dX11_bit_23) <| dr_c (dg_putf (T := TX11) (C := RX11) (N := 68) dX11_bit_24 rfl (by decide) iw_X11 tyX11_ok nmX11 wd_1013 rfl rfl) <| dr_c (dg_no) <| dr_c (dg_no) <| dr_c (dg_vret dX11_bit_27) <| dr_n
theorem tk_188 : dm_AllC (dm_Good dm_tb RX11 cX11_bit 2 none false none) 0 cd_188 := dc_c (by decide) tr_188_0 <| dc_c (by decide) tr_188_1 <| dc_n
theorem dX11_number_0 : decode cX11_number 0 = .ok (.iconst 2, 1) := by decide +kernel
theorem dX11_number_1 : decode cX11_number 1 = .ok (.istore_n 2, 1) := by decide +kernel
theorem dX11_number_2 : decode cX11_number 2 = .ok (.iload_n 1, 1) := by decide +kernel
theorem dX11_number_3 : decode cX11_number 3 = .ok (.istore_n 3, 1) := by decide +kernel
theorem dX11_number_4 : decode cX11_number 4 = .ok (.iload_n 3, 1) := by decide +kernel
theorem dX11_number_5 : decode cX11_number 5 = .ok (.iconst 1, 1) := by decide +kernel
theorem dX11_number_6 : decode cX11_number 6 = .ok (.iload_n 2, 1) := by decide +kernel
theorem dX11_number_7 : decode cX11_number 7 = .ok (.ishl, 1) := by decide +kernel
theorem dX11_number_8 : decode cX11_number 8 = .ok (.if_icmp .lt 20, 3) := by decide +kernel
theorem dX11_number_11 : decode cX11_number 11 = .ok (.aload_n 0, 1) := by decide +kernel
theorem dX11_number_12 : decode cX11_number 12 = .ok (.iconst 1, 1) := by decide +kernel
theorem dX11_number_13 : decode cX11_number 13 = .ok (.invokevirtual 338, 3) := by decide +kernel
theorem dX11_number_16 : decode cX11_number 16 = .ok (.iload_n 3, 1) := by decide +kernel
theorem dX11_number_17 : decode cX11_number 17 = .ok (.iconst 1, 1) := by decide +kernel
theorem dX11_number_18 : decode cX11_number 18 = .ok (.iload_n 2, 1) := by decide +kernel
theorem dX11_number_19 : decode cX11_number 19 = .ok (.ishl, 1) := by decide +kernel
theorem dX11_number_20 : decode cX11_number 20 = .ok (.isub, 1) := by decide +kernel
theorem dX11_number_21 : decode cX11_number 21 = .ok (.istore_n 3, 1) := by decide +kernel
theorem dX11_number_22 : decode cX11_number 22 = .ok (.iinc 2 1, 3) := by decide +kernel
theorem dX11_number_25 : decode cX11_number 25 = .ok (.goto (-21), 3) := by decide +kernel
theorem dX11_number_28 : decode cX11_number 28 = .ok (.aload_n 0, 1) := by decide +kernel
theorem dX11_number_29 : decode cX11_number 29 = .ok (.iconst 0, 1) := by decide +kernel
theorem dX11_number_30 : decode cX11_number 30 = .ok (.invokevirtual 338, 3) := by decide +kernel
theorem dX11_number_33 : decode cX11_number 33 = .ok (.iload_n 2, 1) := by decide +kernel
theorem dX11_number_34 : decode cX11_number 34 = .ok (.iconst 1, 1) := by decide +kernel
theorem dX11_number_35 : decode cX11_number 35 = .ok (.isub, 1) := by decide +kernel
theorem dX11_number_36 : decode cX11_number 36 = .ok (.istore 4, 2) := by decide +kernel
theorem dX11_number_38 : decode cX11_number 38 = .ok (.iload 4, 2) := by decide +kernel
theorem dX11_number_40 : decode cX11_number 40 = .ok (.ifCond .lt 28, 3) := by decide +kernel
theorem dX11_number_43 : decode cX11_number 43 = .ok (.aload_n 0, 1) := by decide +kernel
theorem dX11_number_44 : decode cX11_number 44 = .ok (.iload_n 3, 1) := by decide +kernel
theorem dX11_number_45 : decode cX11_number 45 = .ok (.iload 4, 2) := by decide +kernel
theorem dX11_number_47 : decode cX11_number 47 = .ok (.ishr, 1) := by decide +kernel
theorem dX11_number_48 : decode cX11_number 48 = .ok (.iconst 1, 1) := by decide +kernel
theorem dX11_number_49 : decode cX11_number 49 = .ok (.iand, 1) := by decide +kernel
theorem dX11_number_50 : decode cX11_number 50 = .ok (.iconst 1, 1) := by decide +kernel
theorem dX11_number_51 : decode cX11_number 51 = .ok (.if_icmp .ne 7, 3) := by decide +kernel
theorem dX11_number_54 : decode cX11_number 54 = .ok (.iconst 1, 1) := by decide +kernel
theorem dX11_number_55 : decode cX11_number 55 = .ok (.goto 4, 3) := by decide +kernel
theorem dX11_number_58 : decode cX11_number 58 = .ok (.iconst 0, 1) := by decide +kernel
theorem dX11_number_59 : decode cX11_number 59 = .ok (.invokevirtual 338, 3) := by decide +kernel
theorem dX11_number_62 : decode cX11_number 62 = .ok (.iinc 4 (-1), 3) := by decide +kernel
theorem dX11_number_65 : decode cX11_number 65 = .ok (.goto (-27), 3) := by decide +kernel
theorem dX11_number_68 : decode cX11_number 68 = .ok (.return_, 1) := by decide +kernel
def cd_189 : dm_Code := [[dm_push 1 (.int 2), dm_ist 2 2, dm_ild 3 1, dm_ist 4 3, dm_ild 5 3, dm_push 6 (.int 1), dm_ild 7 2, dm_ii 8 (fun x y => x <<< (y &&& 31)), dm_ic_lt 11 28, dm_no, dm_no, dm_ald 12 0, dm_push 13 (.int 1), dm_inv 16 188 1 8, dm_no, dm_no],
  [dm_ild 17 3, dm_push 18 (.int 1), dm_ild 19 2, dm_ii 20 (fun x y => x <<< (y &&& 31)), dm_ii 21 (fun x y => x - y), dm_ist 22 3, dm_iinc 25 2 1, dm_no, dm_no, dm_goto 4, dm_no, dm_no, dm_ald 29 0, dm_push 30 (.int 0), dm_inv 33 188 1 8, dm_no],
  [dm_no, dm_ild 34 2, dm_push 35 (.int 1), dm_ii 36 (fun x y => x - y), dm_ist 38 4, dm_no, dm_ild 40 4, dm_no, dm_if_lt 43 68, dm_no, dm_no, dm_ald 44 0, dm_ild 45 3, dm_ild 47 4, dm_no, dm_ii 48 (fun x y => x >>> (y &&& 31))],
  [dm_push 49 (.int 1), dm_ii 50 (fun x y => x &&& y), dm_push 51 (.int 1), dm_ic_ne 54 58, dm_no, dm_no, dm_push 55 (.int 1), dm_goto 59, dm_no, dm_no, dm_push 59 (.int 0), dm_inv 62 188 1 8, dm_no, dm_no, dm_iinc 65 4 (-1), dm_no],
  [dm_no, dm_goto 38, dm_no, dm_no, dm_vret]]
theorem tr_189_0 : dm_AllR (dm_Good dm_tb RX11 cX11_number 5 none false none) 0 [dm_push 1 (.int 2), dm_ist 2 2, dm_ild 3 1, dm_ist 4 3, dm_ild 5 3, dm_push 6 (.int 1), dm_ild 7 2, dm_ii 8 (fun x y => x <<< (y &&& 31)), dm_ic_lt 11 28, dm_no, dm_no, dm_ald 12 0, dm_push 13 (.int 1), dm_inv 16 188 1 8, dm_no, dm_no] := dr_c (dg_iconst (by decide) dX11_number_0) <| dr_c (dg_istore_n (k := 2) rfl (by decide) dX11_number_1) <| dr_c (dg_iload_n (k := 1) rfl dX11_number_2) <| dr_c (dg_istore_n (k := 3) rfl (by decide) dX11_number_3) <| dr_c (dg_iload_n (k := 3) rfl dX11_number_4) <| dr_c (dg_iconst (by decide) dX11_number_5) <| dr_c (dg_iload_n (k := 2) rfl dX11_number_6) <| dr_c (dg_ishl dX11_number_7) <| dr_c (dg_ic_lt (by decide) dX11_number_8) <| dr_c (dg_no) <| dr_c (dg_no) <| dr_c (dg_aload_n (k := 0) rfl dX11_number_11) <| dr_c (dg_iconst (by decide) dX11_number_12) <| dr_c (dg_inv dX11_number_13 mo_188 rfl rfl wd_1328 wd_1330 wd_48 pd_188) <| dr_c (dg_no) <| dr_c (dg_no) <| dr_n
theorem tr_189_1 : dm_AllR (dm_Good dm_tb RX11 cX11_number 5 none false none) 16 [dm_ild 17 3, dm_push 18 (.int 1), dm_ild 19 2, dm_ii 20 (fun x y => x <<< (y &&& 31)), dm_ii 21 (fun x y => x - y), dm_ist 22 3, dm_iinc 25 2 1, dm_no, dm_no, dm_goto 4, dm_no, dm_no, dm_ald 29 0, dm_push 30 (.int 0), dm_inv 33 188 1 8, dm_no] := dr_c (dg_iload_n (k := 3) rfl dX11_number_16) <| dr_c (dg_iconst (by decide) dX11_number_17) <| dr_c (dg_iload_n (k := 2) rfl dX11_number_18) <| dr_c (dg_ishl dX11_number_19) <| dr_c (dg_isub dX11_number_20) <| dr_c (dg_istore_n (k := 3) rfl (by decide) dX11_number_21) <| dr_c (dg_iinc (by decide) (by decide) dX11_number_22) <| dr_c (dg_no) <| dr_c (dg_no) <| dr_c (dg_goto (by decide) dX11_number_25) <| dr_c (dg_no) <| dr_c (dg_no) <| dr_c (dg_aload_n (k := 0) rfl dX11_number_28) <| dr_c (dg_iconst (by decide) dX11_number_29) <| dr_c (dg_inv dX11_number_30 mo_188 rfl rfl wd_1328 wd_1330 wd_48 pd_188) <| dr_c (dg_no) <| dr_n
theorem tr_189_2 : dm_AllR (dm_Good dm_tb RX11 cX11_number 5 none false none) 32 [dm_no, dm_ild 34 2, dm_push 35 (.int 1), dm_ii 36 (fun x y => x - y), dm_ist 38 4, dm_no, dm_ild 40 4, dm_no, dm_if_lt 43 68, dm_no, dm_no, dm_ald 44 0, dm_ild 45 3, dm_ild 47 4, dm_no, dm_ii 48 (fun x y => x >>> (y &&& 31))] := dr_c (dg_no) <| dr_c (dg_iload_n (k := 2) rfl dX11_number_33) <| dr_c (dg_iconst (by decide) dX11_number_34) <| dr_c (dg_isub dX11_number_35) <| dr_c (dg_istore (by decide) dX11_number_36) <| dr_c (dg_no) <| dr_c (dg_iload dX11_number_38) <| dr_c (dg_no) <| dr_c (dg_if_lt (by decide) dX11_number_40) <| dr_c (dg_no) <| dr_c (dg_no) <| dr_c (dg_aload_n (k := 0) rfl dX11_number_43) <| dr_c (dg_iload_n (k := 3) rfl dX11_number_44) <| dr_c (dg_iload dX11_number_45) <| dr_c (dg_no) <| dr_c (dg_ishr dX11_number_47) <| dr_n
theorem tr_189_3 : dm_AllR (dm_Good dm_tb RX11 cX11_number 5 none false none) 48 [dm_push 49 (.int 1), dm_ii 50 (fun x y => x &&& y), dm_push 51 (.int 1), dm_ic_ne 54 58, dm_no, dm_no, dm_push 55 (.int 1), dm_goto 59, dm_no, dm_no, dm_push 59 (.int 0), dm_inv 62 188 1 8, dm_no, dm_no, dm_iinc 65 4 (-1), dm_no] := dr_c (dg_iconst (by decide) dX11_number_48) <| dr_c (dg_iand dX11_number_49) <| dr_c (dg_iconst (by decide) dX11_number_50) <| dr_c (dg_ic_ne (by decide) dX11_number_51) <| dr_c (dg_no) <| dr_c (dg_no) <| dr_c (dg_iconst (by decide) dX11_number_54) <| dr_c (dg_goto (by decide) dX11_number_55) <| dr_c (dg_no) <| dr_c (dg_no) <| dr_c (dg_iconst (by decide) dX11_number_58) <| dr_c (dg_inv dX11_number_59 mo_188 rfl rfl wd_1328 wd_1330 wd_48 pd_188) <| dr_c (dg_no) <| dr_c (dg_no) <| dr_c (dg_iinc (by decide) (by decide) dX11_number_62) <| dr_c (dg_no) <| dr_n
theorem tr_189_4 : dm_AllR (dm_Good dm_tb RX11 cX11_number 5 none false none) 64 [dm_no, dm_goto 38, dm_no, dm_no, dm_vret] := dr_c (dg_no) <| dr_c (dg_goto (by decide) dX11_number_65) <| dr_c (dg_no) <| dr_c (dg_no) <| dr_c (dg_vret dX11_number_68) <| dr_n
theorem tk_189 : dm_AllC (dm_Good dm_tb RX11 cX11_number 5 none false none) 0 cd_189 := dc_c (by decide) tr_189_0 <| dc_c (by decide) tr_189_1 <| dc_c (by decide) tr_189_2 <| dc_c (by decide) tr_189_3 <| dc_c (by decide) tr_189_4 <| dc_n
theorem dX11_writeShare_0 : decode cX11_writeShare 0 = .ok (.aload_n 0, 1) := by decide +kernel
theorem dX11_writeShare_1 : decode cX11_writeShare 1 = .ok (.lload_n 1, 1) := by decide +kernel
theorem dX11_writeShare_2 : decode cX11_writeShare 2 = .ok (.lload_n 3, 1) := by decide +kernel
theorem dX11_writeShare_3 : decode cX11_writeShare 3 = .ok (.invokevirtual 226, 3) := by decide +kernel
theorem dX11_writeShare_6 : decode cX11_writeShare 6 = .ok (.istore 5, 2) := by decide +kernel
theorem dX11_writeShare_8 : decode cX11_writeShare 8 = .ok (.iload 5, 2) := by decide +kernel
theorem dX11_writeShare_10 : decode cX11_writeShare 10 = .ok (.iconst 2, 1) := by decide +kernel
theorem dX11_writeShare_11 : decode cX11_writeShare 11 = .ok (.if_icmp .ge 29, 3) := by decide +kernel
theorem dX11_writeShare_14 : decode cX11_writeShare 14 = .ok (.aload_n 0, 1) := by decide +kernel
theorem dX11_writeShare_15 : decode cX11_writeShare 15 = .ok (.iconst 0, 1) := by decide +kernel
theorem dX11_writeShare_16 : decode cX11_writeShare 16 = .ok (.invokevirtual 338, 3) := by decide +kernel
theorem dX11_writeShare_19 : decode cX11_writeShare 19 = .ok (.aload_n 0, 1) := by decide +kernel
theorem dX11_writeShare_20 : decode cX11_writeShare 20 = .ok (.iconst 0, 1) := by decide +kernel
theorem dX11_writeShare_21 : decode cX11_writeShare 21 = .ok (.invokevirtual 338, 3) := by decide +kernel
theorem dX11_writeShare_24 : decode cX11_writeShare 24 = .ok (.aload_n 0, 1) := by decide +kernel
theorem dX11_writeShare_25 : decode cX11_writeShare 25 = .ok (.iload 5, 2) := by decide +kernel
theorem dX11_writeShare_27 : decode cX11_writeShare 27 = .ok (.iconst 1, 1) := by decide +kernel
theorem dX11_writeShare_28 : decode cX11_writeShare 28 = .ok (.if_icmp .ne 7, 3) := by decide +kernel
theorem dX11_writeShare_31 : decode cX11_writeShare 31 = .ok (.iconst 1, 1) := by decide +kernel
theorem dX11_writeShare_32 : decode cX11_writeShare 32 = .ok (.goto 4, 3) := by decide +kernel
theorem dX11_writeShare_35 : decode cX11_writeShare 35 = .ok (.iconst 0, 1) := by decide +kernel
theorem dX11_writeShare_36 : decode cX11_writeShare 36 = .ok (.invokevirtual 338, 3) := by decide +kernel
theorem dX11_writeShare_39 : decode cX11_writeShare 39 = .ok (.return_, 1) := by decide +kernel
theorem dX11_writeShare_40 : decode cX11_writeShare 40 = .ok (.lload_n 3, 1) := by decide +kernel
theorem dX11_writeShare_41 : decode cX11_writeShare 41 = .ok (.ldc2_w 224, 3) := by decide +kernel
theorem dX11_writeShare_44 : decode cX11_writeShare 44 = .ok (.ldiv, 1) := by decide +kernel
theorem dX11_writeShare_45 : decode cX11_writeShare 45 = .ok (.lstore 6, 2) := by decide +kernel
theorem dX11_writeShare_47 : decode cX11_writeShare 47 = .ok (.aload_n 0, 1) := by decide +kernel
theorem dX11_writeShare_48 : decode cX11_writeShare 48 = .ok (.lload_n 1, 1) := by decide +kernel
theorem dX11_writeShare_49 : decode cX11_writeShare 49 = .ok (.lload 6, 2) := by decide +kernel
theorem dX11_writeShare_51 : decode cX11_writeShare 51 = .ok (.invokevirtual 226, 3) := by decide +kernel
theorem dX11_writeShare_54 : decode cX11_writeShare 54 = .ok (.ifCond .le 7, 3) := by decide +kernel
theorem dX11_writeShare_57 : decode cX11_writeShare 57 = .ok (.iconst 1, 1) := by decide +kernel
theorem dX11_writeShare_58 : decode cX11_writeShare 58 = .ok (.goto 4, 3) := by decide +kernel
theorem dX11_writeShare_61 : decode cX11_writeShare 61 = .ok (.iconst 0, 1) := by decide +kernel
theorem dX11_writeShare_62 : decode cX11_writeShare 62 = .ok (.istore 8, 2) := by decide +kernel
theorem dX11_writeShare_64 : decode cX11_writeShare 64 = .ok (.aload_n 0, 1) := by decide +kernel
theorem dX11_writeShare_65 : decode cX11_writeShare 65 = .ok (.lload_n 1, 1) := by decide +kernel
theorem dX11_writeShare_66 : decode cX11_writeShare 66 = .ok (.lload 6, 2) := by decide +kernel
theorem dX11_writeShare_68 : decode cX11_writeShare 68 = .ok (.ladd, 1) := by decide +kernel
theorem dX11_writeShare_69 : decode cX11_writeShare 69 = .ok (.lload 6, 2) := by decide +kernel
theorem dX11_writeShare_71 : decode cX11_writeShare 71 = .ok (.invokevirtual 226, 3) := by decide +kernel
theorem dX11_writeShare_74 : decode cX11_writeShare 74 = .ok (.ifCond .le 7, 3) := by decide +kernel
theorem dX11_writeShare_77 : decode cX11_writeShare 77 = .ok (.iconst 1, 1) := by decide +kernel
theorem dX11_writeShare_78 : decode cX11_writeShare 78 = .ok (.goto 4, 3) := by decide +kernel
theorem dX11_writeShare_81 : decode cX11_writeShare 81 = .ok (.iconst 0, 1) := by decide +kernel
theorem dX11_writeShare_82 : decode cX11_writeShare 82 = .ok (.istore 9, 2) := by decide +kernel
theorem dX11_writeShare_84 : decode cX11_writeShare 84 = .ok (.aload_n 0, 1) := by decide +kernel
theorem dX11_writeShare_85 : decode cX11_writeShare 85 = .ok (.iload 8, 2) := by decide +kernel
theorem dX11_writeShare_87 : decode cX11_writeShare 87 = .ok (.invokevirtual 338, 3) := by decide +kernel
theorem dX11_writeShare_90 : decode cX11_writeShare 90 = .ok (.aload_n 0, 1) := by decide +kernel
theorem dX11_writeShare_91 : decode cX11_writeShare 91 = .ok (.iload 9, 2) := by decide +kernel
theorem dX11_writeShare_93 : decode cX11_writeShare 93 = .ok (.invokevirtual 338, 3) := by decide +kernel
theorem dX11_writeShare_96 : decode cX11_writeShare 96 = .ok (.iload 8, 2) := by decide +kernel
theorem dX11_writeShare_98 : decode cX11_writeShare 98 = .ok (.ifCond .eq 10, 3) := by decide +kernel
theorem dX11_writeShare_101 : decode cX11_writeShare 101 = .ok (.aload_n 0, 1) := by decide +kernel
theorem dX11_writeShare_102 : decode cX11_writeShare 102 = .ok (.lload_n 1, 1) := by decide +kernel
theorem dX11_writeShare_103 : decode cX11_writeShare 103 = .ok (.lload 6, 2) := by decide +kernel
theorem dX11_writeShare_105 : decode cX11_writeShare 105 = .ok (.invokevirtual 342, 3) := by decide +kernel
theorem dX11_writeShare_108 : decode cX11_writeShare 108 = .ok (.iload 9, 2) := by decide +kernel
theorem dX11_writeShare_110 : decode cX11_writeShare 110 = .ok (.ifCond .eq 13, 3) := by decide +kernel
theorem dX11_writeShare_113 : decode cX11_writeShare 113 = .ok (.aload_n 0, 1) := by decide +kernel
theorem dX11_writeShare_114 : decode cX11_writeShare 114 = .ok (.lload_n 1, 1) := by decide +kernel
theorem dX11_writeShare_115 : decode cX11_writeShare 115 = .ok (.lload 6, 2) := by decide +kernel
theorem dX11_writeShare_117 : decode cX11_writeShare 117 = .ok (.ladd, 1) := by decide +kernel
theorem dX11_writeShare_118 : decode cX11_writeShare 118 = .ok (.lload 6, 2) := by decide +kernel
theorem dX11_writeShare_120 : decode cX11_writeShare 120 = .ok (.invokevirtual 342, 3) := by decide +kernel
theorem dX11_writeShare_123 : decode cX11_writeShare 123 = .ok (.return_, 1) := by decide +kernel
def cd_190 : dm_Code := [[dm_ald 1 0, dm_lld 2 1, dm_lld 3 3, dm_inv 6 152 2 8, dm_no, dm_no, dm_ist 8 5, dm_no, dm_ild 10 5, dm_no, dm_push 11 (.int 2), dm_ic_ge 14 40, dm_no, dm_no, dm_ald 15 0, dm_push 16 (.int 0)],
  [dm_inv 19 188 1 8, dm_no, dm_no, dm_ald 20 0, dm_push 21 (.int 0), dm_inv 24 188 1 8, dm_no, dm_no, dm_ald 25 0, dm_ild 27 5, dm_no, dm_push 28 (.int 1), dm_ic_ne 31 35, dm_no, dm_no, dm_push 32 (.int 1)],
  [dm_goto 36, dm_no, dm_no, dm_push 36 (.int 0), dm_inv 39 188 1 8, dm_no, dm_no, dm_vret, dm_lld 41 3, dm_push 44 (.long 2), dm_no, dm_no, dm_lq 45 (fun x y => x / y), dm_lst 47 6, dm_no, dm_ald 48 0],
  [dm_lld 49 1, dm_lld 51 6, dm_no, dm_inv 54 152 2 8, dm_no, dm_no, dm_if_le 57 61, dm_no, dm_no, dm_push 58 (.int 1), dm_goto 62, dm_no, dm_no, dm_push 62 (.int 0), dm_ist 64 8, dm_no],
  [dm_ald 65 0, dm_lld 66 1, dm_lld 68 6, dm_no, dm_ll 69 (fun x y => x + y), dm_lld 71 6, dm_no, dm_inv 74 152 2 8, dm_no, dm_no, dm_if_le 77 81, dm_no, dm_no, dm_push 78 (.int 1), dm_goto 82, dm_no],
  [dm_no, dm_push 82 (.int 0), dm_ist 84 9, dm_no, dm_ald 85 0, dm_ild 87 8, dm_no, dm_inv 90 188 1 8, dm_no, dm_no, dm_ald 91 0, dm_ild 93 9, dm_no, dm_inv 96 188 1 8, dm_no, dm_no],
  [dm_ild 98 8, dm_no, dm_if_eq 101 108, dm_no, dm_no, dm_ald 102 0, dm_lld 103 1, dm_lld 105 6, dm_no, dm_inv 108 190 2 8, dm_no, dm_no, dm_ild 110 9, dm_no, dm_if_eq 113 123, dm_no],
  [dm_no, dm_ald 114 0, dm_lld 115 1, dm_lld 117 6, dm_no, dm_ll 118 (fun x y => x + y), dm_lld 120 6, dm_no, dm_inv 123 190 2 8, dm_no, dm_no, dm_vret]]
theorem tr_190_0 : dm_AllR (dm_Good dm_tb RX11 cX11_writeShare 10 none false none) 0 [dm_ald 1 0, dm_lld 2 1, dm_lld 3 3, dm_inv 6 152 2 8, dm_no, dm_no, dm_ist 8 5, dm_no, dm_ild 10 5, dm_no, dm_push 11 (.int 2), dm_ic_ge 14 40, dm_no, dm_no, dm_ald 15 0, dm_push 16 (.int 0)] := dr_c (dg_aload_n (k := 0) rfl dX11_writeShare_0) <| dr_c (dg_lload_n (k := 1) rfl dX11_writeShare_1) <| dr_c (dg_lload_n (k := 3) rfl dX11_writeShare_2) <| dr_c (dg_inv dX11_writeShare_3 mo_152 rfl rfl wd_927 wd_929 wd_18 pd_152) <| dr_c (dg_no) <| dr_c (dg_no) <| dr_c (dg_istore (by decide) dX11_writeShare_6) <| dr_c (dg_no) <| dr_c (dg_iload dX11_writeShare_8) <| dr_c (dg_no) <| dr_c (dg_iconst (by decide) dX11_writeShare_10) <| dr_c (dg_ic_ge (by decide) dX11_writeShare_11) <| dr_c (dg_no) <| dr_c (dg_no) <| dr_c (dg_aload_n (k := 0) rfl dX11_writeShare_14) <| dr_c (dg_iconst (by decide) dX11_writeShare_15) <| dr_n
theorem tr_190_1 : dm_AllR (dm_Good dm_tb RX11 cX11_writeShare 10 none false none) 16 [dm_inv 19 188 1 8, dm_no, dm_no, dm_ald 20 0, dm_push 21 (.int 0), dm_inv 24 188 1 8, dm_no, dm_no, dm_ald 25 0, dm_ild 27 5, dm_no, dm_push 28 (.int 1), dm_ic_ne 31 35, dm_no, dm_no, dm_push 32 (.int 1)] := dr_c (dg_inv dX11_writeShare_16 mo_188 rfl rfl wd_1328 wd_1330 wd_48 pd_188) <| dr_c (dg_no) <| dr_c (dg_no) <| dr_c (dg_aload_n (k := 0) rfl dX11_writeShare_19) <| dr_c (dg_iconst (by decide) dX11_writeShare_20) <| dr_c (dg_inv dX11_writeShare_21 mo_188 rfl rfl wd_1328 wd_1330 wd_48 pd_188) <| dr_c (dg_no) <| dr_c (dg_no) <| dr_c (dg_aload_n (k := 0) rfl dX11_writeShare_24) <| dr_c (dg_iload dX11_writeShare_25) <| dr_c (dg_no) <| dr_c (dg_iconst (by decide) dX11_writeShare_27) <| dr_c (dg_ic_ne (by decide) dX11_writeShare_28) <| dr_c (dg_no) <| dr_c (dg_no) <| dr_c (dg_iconst (by decide) dX11_writeShare_31) <| dr_n
theorem tr_190_2 : dm_AllR (dm_Good dm_tb RX11 cX11_writeShare 10 none false none) 32 [dm_goto 36, dm_no, dm_no, dm_push 36 (.int 0), dm_inv 39 188 1 8, dm_no, dm_no, dm_vret, dm_lld 41 3, dm_push 44 (.long 2), dm_no, dm_no, dm_lq 45 (fun x y => x / y), dm_lst 47 6, dm_no, dm_ald 48 0] := dr_c (dg_goto (by decide) dX11_writeShare_32) <| dr_c (dg_no) <| dr_c (dg_no) <| dr_c (dg_iconst (by decide) dX11_writeShare_35) <| dr_c (dg_inv dX11_writeShare_36 mo_188 rfl rfl wd_1328 wd_1330 wd_48 pd_188) <| dr_c (dg_no) <| dr_c (dg_no) <| dr_c (dg_vret dX11_writeShare_39) <| dr_c (dg_lload_n (k := 3) rfl dX11_writeShare_40) <| dr_c (dg_ldc2 wd_931 dX11_writeShare_41) <| dr_c (dg_no) <| dr_c (dg_no) <| dr_c (dg_ldiv dX11_writeShare_44) <| dr_c (dg_lstore (by decide) dX11_writeShare_45) <| dr_c (dg_no) <| dr_c (dg_aload_n (k := 0) rfl dX11_writeShare_47) <| dr_n
theorem tr_190_3 : dm_AllR (dm_Good dm_tb RX11 cX11_writeShare 10 none false none) 48 [dm_lld 49 1, dm_lld 51 6, dm_no, dm_inv 54 152 2 8, dm_no, dm_no, dm_if_le 57 61, dm_no, dm_no, dm_push 58 (.int 1), dm_goto 62, dm_no, dm_no, dm_push 62 (.int 0), dm_ist 64 8, dm_no] := dr_c (dg_lload_n (k := 1) rfl dX11_writeShare_48) <| dr_c (dg_lload dX11_writeShare_49) <| dr_c (dg_no) <| dr_c (dg_inv dX11_writeShare_51 mo_152 rfl rfl wd_927 wd_929 wd_18 pd_152) <| dr_c (dg_no) <| dr_c (dg_no) <| dr_c (dg_if_le (by decide) dX11_writeShare_54) <| dr_c (dg_no) <| dr_c (dg_no) <| dr_c (dg_iconst (by decide) dX11_writeShare_57) <| dr_c (dg_goto (by decide) dX11_writeShare_58) <| dr_c (dg_no) <| dr_c (dg_no) <| dr_c (dg_iconst (by decide) dX11_writeShare_61) <| dr_c (dg_istore (by decide) dX11_writeShare_62) <| dr_c (dg_no) <| dr_n
theorem tr_190_4 : dm_AllR (dm_Good dm_tb RX11 cX11_writeShare 10 none false none) 64 [dm_ald 65 0, dm_lld 66 1, dm_lld 68 6, dm_no, dm_ll 69 (fun x y => x + y), dm_lld 71 6, dm_no, dm_inv 74 152 2 8, dm_no, dm_no, dm_if_le 77 81, dm_no, dm_no, dm_push 78 (.int 1), dm_goto 82, dm_no] := dr_c (dg_aload_n (k := 0) rfl dX11_writeShare_64) <| dr_c (dg_lload_n (k := 1) rfl dX11_writeShare_65) <| dr_c (dg_lload dX11_writeShare_66) <| dr_c (dg_no) <| dr_c (dg_ladd dX11_writeShare_68) <| dr_c (dg_lload dX11_writeShare_69) <| dr_c (dg_no) <| dr_c (dg_inv dX11_writeShare_71 mo_152 rfl rfl wd_927 wd_929 wd_18 pd_152) <| dr_c (dg_no) <| dr_c (dg_no) <| dr_c (dg_if_le (by decide) dX11_writeShare_74) <| dr_c (dg_no) <| dr_c (dg_no) <| dr_c (dg_iconst (by decide) dX11_writeShare_77) <| dr_c (dg_goto (by decide) dX11_writeShare_78) <| dr_c (dg_no) <| dr_n
theorem tr_190_5 : dm_AllR (dm_Good dm_tb RX11 cX11_writeShare 10 none false none) 80 [dm_no, dm_push 82 (.int 0), dm_ist 84 9, dm_no, dm_ald 85 0, dm_ild 87 8, dm_no, dm_inv 90 188 1 8, dm_no, dm_no, dm_ald 91 0, dm_ild 93 9, dm_no, dm_inv 96 188 1 8, dm_no, dm_no] := dr_c (dg_no) <| dr_c (dg_iconst (by decide) dX11_writeShare_81) <| dr_c (dg_istore (by decide) dX11_writeShare_82) <| dr_c (dg_no) <| dr_c (dg_aload_n (k := 0) rfl dX11_writeShare_84) <| dr_c (dg_iload dX11_writeShare_85) <| dr_c (dg_no) <| dr_c (dg_inv dX11_writeShare_87 mo_188 rfl rfl wd_1328 wd_1330 wd_48 pd_188) <| dr_c (dg_no) <| dr_c (dg_no) <| dr_c (dg_aload_n (k := 0) rfl dX11_writeShare_90) <| dr_c (dg_iload dX11_writeShare_91) <| dr_c (dg_no) <| dr_c (dg_inv dX11_writeShare_93 mo_188 rfl rfl wd_1328 wd_1330 wd_48 pd_188) <| dr_c (dg_no) <| dr_c (dg_no) <| dr_n
theorem tr_190_6 : dm_AllR (dm_Good dm_tb RX11 cX11_writeShare 10 none false none) 96 [dm_ild 98 8, dm_no, dm_if_eq 101 108, dm_no, dm_no, dm_ald 102 0, dm_lld 103 1, dm_lld 105 6, dm_no, dm_inv 108 190 2 8, dm_no, dm_no, dm_ild 110 9, dm_no, dm_if_eq 113 123, dm_no] := dr_c (dg_iload dX11_writeShare_96) <| dr_c (dg_no) <| dr_c (dg_if_eq (by decide) dX11_writeShare_98) <| dr_c (dg_no) <| dr_c (dg_no) <| dr_c (dg_aload_n (k := 0) rfl dX11_writeShare_101) <| dr_c (dg_lload_n (k := 1) rfl dX11_writeShare_102) <| dr_c (dg_lload dX11_writeShare_103) <| dr_c (dg_no) <| dr_c (dg_inv dX11_writeShare_105 mo_190 rfl rfl wd_1324 wd_1326 wd_47 pd_190) <| dr_c (dg_no) <| dr_c (dg_no) <| dr_c (dg_iload dX11_writeShare_108) <| dr_c (dg_no) <| dr_c (dg_if_eq (by decide) dX11_writeShare_110) <| dr_c (dg_no) <| dr_n
theorem tr_190_7 : dm_AllR (dm_Good dm_tb RX11 cX11_writeShare 10 none false none) 112 [dm_no, dm_ald 114 0, dm_lld 115 1, dm_lld 117 6, dm_no, dm_ll 118 (fun x y => x + y), dm_lld 120 6, dm_no, dm_inv 123 190 2 8, dm_no, dm_no, dm_vret] := dr_c (dg_no) <| dr_c (dg_aload_n (k := 0) rfl dX11_writeShare_113) <| dr_c (dg_lload_n (k := 1) rfl dX11_writeShare_114) <| dr_c (dg_lload dX11_writeShare_115) <| dr_c (dg_no) <| dr_c (dg_ladd dX11_writeShare_117) <| dr_c (dg_lload dX11_writeShare_118) <| dr_c (dg_no) <| dr_c (dg_inv dX11_writeShare_120 mo_190 rfl rfl wd_1324 wd_1326 wd_47 pd_190) <| dr_c (dg_no) <| dr_c (dg_no) <| dr_c (dg_vret dX11_writeShare_123) <| dr_n
theorem tk_190 : dm_AllC (dm_Good dm_tb RX11 cX11_writeShare 10 none false none) 0 cd_190 := dc_c (by decide) tr_190_0 <| dc_c (by decide) tr_190_1 <| dc_c (by decide) tr_190_2 <| dc_c (by decide) tr_190_3 <| dc_c (by decide) tr_190_4 <| dc_c (by decide) tr_190_5 <| dc_c (by decide) tr_190_6 <| dc_c (by decide) tr_190_7 <| dc_n
theorem dX11_writeHeight_0 : decode cX11_writeHeight 0 = .ok (.aload_n 0, 1) := by decide +kernel
theorem dX11_writeHeight_1 : decode cX11_writeHeight 1 = .ok (.lload_n 1, 1) := by decide +kernel
theorem dX11_writeHeight_2 : decode cX11_writeHeight 2 = .ok (.lload_n 3, 1) := by decide +kernel
theorem dX11_writeHeight_3 : decode cX11_writeHeight 3 = .ok (.invokevirtual 267, 3) := by decide +kernel
theorem dX11_writeHeight_6 : decode cX11_writeHeight 6 = .ok (.iload 5, 2) := by decide +kernel
theorem dX11_writeHeight_8 : decode cX11_writeHeight 8 = .ok (.isub, 1) := by decide +kernel
theorem dX11_writeHeight_9 : decode cX11_writeHeight 9 = .ok (.istore 6, 2) := by decide +kernel
theorem dX11_writeHeight_11 : decode cX11_writeHeight 11 = .ok (.aload_n 0, 1) := by decide +kernel
theorem dX11_writeHeight_12 : decode cX11_writeHeight 12 = .ok (.lload_n 1, 1) := by decide +kernel
theorem dX11_writeHeight_13 : decode cX11_writeHeight 13 = .ok (.lload_n 3, 1) := by decide +kernel
theorem dX11_writeHeight_14 : decode cX11_writeHeight 14 = .ok (.invokevirtual 220, 3) := by decide +kernel
theorem dX11_writeHeight_17 : decode cX11_writeHeight 17 = .ok (.ifCond .eq 15, 3) := by decide +kernel
theorem dX11_writeHeight_20 : decode cX11_writeHeight 20 = .ok (.aload_n 0, 1) := by decide +kernel
theorem dX11_writeHeight_21 : decode cX11_writeHeight 21 = .ok (.iconst 1, 1) := by decide +kernel
theorem dX11_writeHeight_22 : decode cX11_writeHeight 22 = .ok (.invokevirtual 338, 3) := by decide +kernel
theorem dX11_writeHeight_25 : decode cX11_writeHeight 25 = .ok (.aload_n 0, 1) := by decide +kernel
theorem dX11_writeHeight_26 : decode cX11_writeHeight 26 = .ok (.iload 6, 2) := by decide +kernel
theorem dX11_writeHeight_28 : decode cX11_writeHeight 28 = .ok (.invokevirtual 345, 3) := by decide +kernel
theorem dX11_writeHeight_31 : decode cX11_writeHeight 31 = .ok (.return_, 1) := by decide +kernel
theorem dX11_writeHeight_32 : decode cX11_writeHeight 32 = .ok (.aload_n 0, 1) := by decide +kernel
theorem dX11_writeHeight_33 : decode cX11_writeHeight 33 = .ok (.iconst 0, 1) := by decide +kernel
theorem dX11_writeHeight_34 : decode cX11_writeHeight 34 = .ok (.invokevirtual 338, 3) := by decide +kernel
theorem dX11_writeHeight_37 : decode cX11_writeHeight 37 = .ok (.aload_n 0, 1) := by decide +kernel
theorem dX11_writeHeight_38 : decode cX11_writeHeight 38 = .ok (.iload 6, 2) := by decide +kernel
theorem dX11_writeHeight_40 : decode cX11_writeHeight 40 = .ok (.ifCond .le 7, 3) := by decide +kernel
theorem dX11_writeHeight_43 : decode cX11_writeHeight 43 = .ok (.iconst 1, 1) := by decide +kernel
theorem dX11_writeHeight_44 : decode cX11_writeHeight 44 = .ok (.goto 4, 3) := by decide +kernel
theorem dX11_writeHeight_47 : decode cX11_writeHeight 47 = .ok (.iconst 0, 1) := by decide +kernel
theorem dX11_writeHeight_48 : decode cX11_writeHeight 48 = .ok (.invokevirtual 338, 3) := by decide +kernel
theorem dX11_writeHeight_51 : decode cX11_writeHeight 51 = .ok (.iload 6, 2) := by decide +kernel
theorem dX11_writeHeight_53 : decode cX11_writeHeight 53 = .ok (.ifCond .le 9, 3) := by decide +kernel
theorem dX11_writeHeight_56 : decode cX11_writeHeight 56 = .ok (.aload_n 0, 1) := by decide +kernel
theorem dX11_writeHeight_57 : decode cX11_writeHeight 57 = .ok (.iload 6, 2) := by decide +kernel
theorem dX11_writeHeight_59 : decode cX11_writeHeight 59 = .ok (.invokevirtual 345, 3) := by decide +kernel
theorem dX11_writeHeight_62 : decode cX11_writeHeight 62 = .ok (.lload_n 3, 1) := by decide +kernel
theorem dX11_writeHeight_63 : decode cX11_writeHeight 63 = .ok (.ldc2_w 224, 3) := by decide +kernel
theorem dX11_writeHeight_66 : decode cX11_writeHeight 66 = .ok (.ldiv, 1) := by decide +kernel
theorem dX11_writeHeight_67 : decode cX11_writeHeight 67 = .ok (.lstore 7, 2) := by decide +kernel
theorem dX11_writeHeight_69 : decode cX11_writeHeight 69 = .ok (.aload_n 0, 1) := by decide +kernel
theorem dX11_writeHeight_70 : decode cX11_writeHeight 70 = .ok (.lload_n 1, 1) := by decide +kernel
theorem dX11_writeHeight_71 : decode cX11_writeHeight 71 = .ok (.lload 7, 2) := by decide +kernel
theorem dX11_writeHeight_73 : decode cX11_writeHeight 73 = .ok (.invokevirtual 220, 3) := by decide +kernel
theorem dX11_writeHeight_76 : decode cX11_writeHeight 76 = .ok (.ifCond .eq 25, 3) := by decide +kernel
theorem dX11_writeHeight_79 : decode cX11_writeHeight 79 = .ok (.aload_n 0, 1) := by decide +kernel
theorem dX11_writeHeight_80 : decode cX11_writeHeight 80 = .ok (.getfield 86, 3) := by decide +kernel
theorem dX11_writeHeight_83 : decode cX11_writeHeight 83 = .ok (.aload_n 0, 1) := by decide +kernel
theorem dX11_writeHeight_84 : decode cX11_writeHeight 84 = .ok (.lload_n 1, 1) := by decide +kernel
theorem dX11_writeHeight_85 : decode cX11_writeHeight 85 = .ok (.invokevirtual 203, 3) := by decide +kernel
theorem dX11_writeHeight_88 : decode cX11_writeHeight 88 = .ok (.iaload, 1) := by decide +kernel
theorem dX11_writeHeight_89 : decode cX11_writeHeight 89 = .ok (.iload 5, 2) := by decide +kernel
theorem dX11_writeHeight_91 : decode cX11_writeHeight 91 = .ok (.iload 6, 2) := by decide +kernel
theorem dX11_writeHeight_93 : decode cX11_writeHeight 93 = .ok (.iadd, 1) := by decide +kernel
theorem dX11_writeHeight_94 : decode cX11_writeHeight 94 = .ok (.if_icmp .ne 7, 3) := by decide +kernel
theorem dX11_writeHeight_97 : decode cX11_writeHeight 97 = .ok (.iconst 1, 1) := by decide +kernel
theorem dX11_writeHeight_98 : decode cX11_writeHeight 98 = .ok (.goto 4, 3) := by decide +kernel
theorem dX11_writeHeight_101 : decode cX11_writeHeight 101 = .ok (.iconst 0, 1) := by decide +kernel
theorem dX11_writeHeight_102 : decode cX11_writeHeight 102 = .ok (.istore 9, 2) := by decide +kernel
theorem dX11_writeHeight_104 : decode cX11_writeHeight 104 = .ok (.aload_n 0, 1) := by decide +kernel
theorem dX11_writeHeight_105 : decode cX11_writeHeight 105 = .ok (.lload_n 1, 1) := by decide +kernel
theorem dX11_writeHeight_106 : decode cX11_writeHeight 106 = .ok (.lload 7, 2) := by decide +kernel
theorem dX11_writeHeight_108 : decode cX11_writeHeight 108 = .ok (.ladd, 1) := by decide +kernel
theorem dX11_writeHeight_109 : decode cX11_writeHeight 109 = .ok (.lload 7, 2) := by decide +kernel
theorem dX11_writeHeight_111 : decode cX11_writeHeight 111 = .ok (.invokevirtual 220, 3) := by decide +kernel
theorem dX11_writeHeight_114 : decode cX11_writeHeight 114 = .ok (.ifCond .eq 28, 3) := by decide +kernel
theorem dX11_writeHeight_117 : decode cX11_writeHeight 117 = .ok (.aload_n 0, 1) := by decide +kernel
theorem dX11_writeHeight_118 : decode cX11_writeHeight 118 = .ok (.getfield 86, 3) := by decide +kernel
theorem dX11_writeHeight_121 : decode cX11_writeHeight 121 = .ok (.aload_n 0, 1) := by decide +kernel
theorem dX11_writeHeight_122 : decode cX11_writeHeight 122 = .ok (.lload_n 1, 1) := by decide +kernel
theorem dX11_writeHeight_123 : decode cX11_writeHeight 123 = .ok (.lload 7, 2) := by decide +kernel
theorem dX11_writeHeight_125 : decode cX11_writeHeight 125 = .ok (.ladd, 1) := by decide +kernel
theorem dX11_writeHeight_126 : decode cX11_writeHeight 126 = .ok (.invokevirtual 203, 3) := by decide +kernel
theorem dX11_writeHeight_129 : decode cX11_writeHeight 129 = .ok (.iaload, 1) := by decide +kernel
theorem dX11_writeHeight_130 : decode cX11_writeHeight 130 = .ok (.iload 5, 2) := by decide +kernel
theorem dX11_writeHeight_132 : decode cX11_writeHeight 132 = .ok (.iload 6, 2) := by decide +kernel
theorem dX11_writeHeight_134 : decode cX11_writeHeight 134 = .ok (.iadd, 1) := by decide +kernel
theorem dX11_writeHeight_135 : decode cX11_writeHeight 135 = .ok (.if_icmp .ne 7, 3) := by decide +kernel
theorem dX11_writeHeight_138 : decode cX11_writeHeight 138 = .ok (.iconst 1, 1) := by decide +kernel
theorem dX11_writeHeight_139 : decode cX11_writeHeight 139 = .ok (.goto 4, 3) := by decide +kernel
theorem dX11_writeHeight_142 : decode cX11_writeHeight 142 = .ok (.iconst 0, 1) := by decide +kernel
theorem dX11_writeHeight_143 : decode cX11_writeHeight 143 = .ok (.istore 10, 2) := by decide +kernel
theorem dX11_writeHeight_145 : decode cX11_writeHeight 145 = .ok (.aload_n 0, 1) := by decide +kernel
theorem dX11_writeHeight_146 : decode cX11_writeHeight 146 = .ok (.iload 10, 2) := by decide +kernel
theorem dX11_writeHeight_148 : decode cX11_writeHeight 148 = .ok (.invokevirtual 338, 3) := by decide +kernel
theorem dX11_writeHeight_151 : decode cX11_writeHeight 151 = .ok (.aload_n 0, 1) := by decide +kernel
theorem dX11_writeHeight_152 : decode cX11_writeHeight 152 = .ok (.iload 9, 2) := by decide +kernel
theorem dX11_writeHeight_154 : decode cX11_writeHeight 154 = .ok (.invokevirtual 338, 3) := by decide +kernel
theorem dX11_writeHeight_157 : decode cX11_writeHeight 157 = .ok (.iload 9, 2) := by decide +kernel
theorem dX11_writeHeight_159 : decode cX11_writeHeight 159 = .ok (.ifCond .ne 15, 3) := by decide +kernel
theorem dX11_writeHeight_162 : decode cX11_writeHeight 162 = .ok (.aload_n 0, 1) := by decide +kernel
theorem dX11_writeHeight_163 : decode cX11_writeHeight 163 = .ok (.lload_n 1, 1) := by decide +kernel
theorem dX11_writeHeight_164 : decode cX11_writeHeight 164 = .ok (.lload 7, 2) := by decide +kernel
theorem dX11_writeHeight_166 : decode cX11_writeHeight 166 = .ok (.iload 5, 2) := by decide +kernel
theorem dX11_writeHeight_168 : decode cX11_writeHeight 168 = .ok (.iload 6, 2) := by decide +kernel
theorem dX11_writeHeight_170 : decode cX11_writeHeight 170 = .ok (.iadd, 1) := by decide +kernel
theorem dX11_writeHeight_171 : decode cX11_writeHeight 171 = .ok (.invokevirtual 348, 3) := by decide +kernel
theorem dX11_writeHeight_174 : decode cX11_writeHeight 174 = .ok (.iload 10, 2) := by decide +kernel
theorem dX11_writeHeight_176 : decode cX11_writeHeight 176 = .ok (.ifCond .ne 18, 3) := by decide +kernel
theorem dX11_writeHeight_179 : decode cX11_writeHeight 179 = .ok (.aload_n 0, 1) := by decide +kernel
theorem dX11_writeHeight_180 : decode cX11_writeHeight 180 = .ok (.lload_n 1, 1) := by decide +kernel
theorem dX11_writeHeight_181 : decode cX11_writeHeight 181 = .ok (.lload 7, 2) := by decide +kernel
theorem dX11_writeHeight_183 : decode cX11_writeHeight 183 = .ok (.ladd, 1) := by decide +kernel
theorem dX11_writeHeight_184 : decode cX11_writeHeight 184 = .ok (.lload 7, 2) := by decide +kernel
theorem dX11_writeHeight_186 : decode cX11_writeHeight 186 = .ok (.iload 5, 2) := by decide +kernel
theorem dX11_writeHeight_188 : decode cX11_writeHeight 188 = .ok (.iload 6, 2) := by decide +kernel
theorem dX11_writeHeight_190 : decode cX11_writeHeight 190 = .ok (.iadd, 1) := by decide +kernel
theorem dX11_writeHeight_191 : decode cX11_writeHeight 191 = .ok (.invokevirtual 348, 3) := by decide +kernel
theorem dX11_writeHeight_194 : decode cX11_writeHeight 194 = .ok (.return_, 1) := by decide +kernel
def cd_191 : dm_Code := [[dm_ald 1 0, dm_lld 2 1, dm_lld 3 3, dm_inv 6 147 2 8, dm_no, dm_no, dm_ild 8 5, dm_no, dm_ii 9 (fun x y => x - y), dm_ist 11 6, dm_no, dm_ald 12 0, dm_lld 13 1, dm_lld 14 3, dm_inv 17 145 2 8, dm_no],
  [dm_no, dm_if_eq 20 32, dm_no, dm_no, dm_ald 21 0, dm_push 22 (.int 1), dm_inv 25 188 1 8, dm_no, dm_no, dm_ald 26 0, dm_ild 28 6, dm_no, dm_inv 31 189 1 8, dm_no, dm_no, dm_vret],
  [dm_ald 33 0, dm_push 34 (.int 0), dm_inv 37 188 1 8, dm_no, dm_no, dm_ald 38 0, dm_ild 40 6, dm_no, dm_if_le 43 47, dm_no, dm_no, dm_push 44 (.int 1), dm_goto 48, dm_no, dm_no, dm_push 48 (.int 0)],
  [dm_inv 51 188 1 8, dm_no, dm_no, dm_ild 53 6, dm_no, dm_if_le 56 62, dm_no, dm_no, dm_ald 57 0, dm_ild 59 6, dm_no, dm_inv 62 189 1 8, dm_no, dm_no, dm_lld 63 3, dm_push 66 (.long 2)],
  [dm_no, dm_no, dm_lq 67 (fun x y => x / y), dm_lst 69 7, dm_no, dm_ald 70 0, dm_lld 71 1, dm_lld 73 7, dm_no, dm_inv 76 145 2 8, dm_no, dm_no, dm_if_eq 79 101, dm_no, dm_no, dm_ald 80 0],
  [dm_getf 83 8 28, dm_no, dm_no, dm_ald 84 0, dm_lld 85 1, dm_inv 88 143 1 8, dm_no, dm_no, dm_iald 89, dm_ild 91 5, dm_no, dm_ild 93 6, dm_no, dm_ii 94 (fun x y => x + y), dm_ic_ne 97 101, dm_no],
  [dm_no, dm_push 98 (.int 1), dm_goto 102, dm_no, dm_no, dm_push 102 (.int 0), dm_ist 104 9, dm_no, dm_ald 105 0, dm_lld 106 1, dm_lld 108 7, dm_no, dm_ll 109 (fun x y => x + y), dm_lld 111 7, dm_no, dm_inv 114 145 2 8],
  [dm_no, dm_no, dm_if_eq 117 142, dm_no, dm_no, dm_ald 118 0, dm_getf 121 8 28, dm_no, dm_no, dm_ald 122 0, dm_lld 123 1, dm_lld 125 7, dm_no, dm_ll 126 (fun x y => x + y), dm_inv 129 143 1 8, dm_no],
  [dm_no, dm_iald 130, dm_ild 132 5, dm_no, dm_ild 134 6, dm_no, dm_ii 135 (fun x y => x + y), dm_ic_ne 138 142, dm_no, dm_no, dm_push 139 (.int 1), dm_goto 143, dm_no, dm_no, dm_push 143 (.int 0), dm_ist 145 10],
  [dm_no, dm_ald 146 0, dm_ild 148 10, dm_no, dm_inv 151 188 1 8, dm_no, dm_no, dm_ald 152 0, dm_ild 154 9, dm_no, dm_inv 157 188 1 8, dm_no, dm_no, dm_ild 159 9, dm_no, dm_if_ne 162 174],
  [dm_no, dm_no, dm_ald 163 0, dm_lld 164 1, dm_lld 166 7, dm_no, dm_ild 168 5, dm_no, dm_ild 170 6, dm_no, dm_ii 171 (fun x y => x + y), dm_inv 174 191 3 8, dm_no, dm_no, dm_ild 176 10, dm_no],
  [dm_if_ne 179 194, dm_no, dm_no, dm_ald 180 0, dm_lld 181 1, dm_lld 183 7, dm_no, dm_ll 184 (fun x y => x + y), dm_lld 186 7, dm_no, dm_ild 188 5, dm_no, dm_ild 190 6, dm_no, dm_ii 191 (fun x y => x + y), dm_inv 194 191 3 8],
  [dm_no, dm_no, dm_vret]]
theorem tr_191_0 : dm_AllR (dm_Good dm_tb RX11 cX11_writeHeight 11 none false none) 0 [dm_ald 1 0, dm_lld 2 1, dm_lld 3 3, dm_inv 6 147 2 8, dm_no, dm_no, dm_ild 8 5, dm_no, dm_ii 9 (fun x y => x - y), dm_ist 11 6, dm_no, dm_ald 12 0, dm_lld 13 1, dm_lld 14 3, dm_inv 17 145 2 8, dm_no] := dr_c (dg_aload_n (k := 0) rfl dX11_writeHeight_0) <| dr_c (dg_lload_n (k := 1) rfl dX11_writeHeight_1) <| dr_c (dg_lload_n (k := 3) rfl dX11_writeHeight_2) <| dr_c (dg_inv dX11_writeHeight_3 mo_147 rfl rfl wd_1225 wd_1227 wd_38 pd_147) <| dr_c (dg_no) <| dr_c (dg_no) <| dr_c (dg_iload dX11_writeHeight_6) <| dr_c (dg_no) <| dr_c (dg_isub dX11_writeHeight_8) <| dr_c (dg_istore (by decide) dX11_writeHeight_9) <| dr_c (dg_no) <| dr_c (dg_aload_n (k := 0) rfl dX11_writeHeight_11) <| dr_c (dg_lload_n (k := 1) rfl dX11_writeHeight_12) <| dr_c (dg_lload_n (k := 3) rfl dX11_writeHeight_13) <| dr_c (dg_inv dX11_writeHeight_14 mo_145 rfl rfl wd_936 wd_938 wd_20 pd_145) <| dr_c (dg_no) <| dr_n
theorem tr_191_1 : dm_AllR (dm_Good dm_tb RX11 cX11_writeHeight 11 none false none) 16 [dm_no, dm_if_eq 20 32, dm_no, dm_no, dm_ald 21 0, dm_push 22 (.int 1), dm_inv 25 188 1 8, dm_no, dm_no, dm_ald 26 0, dm_ild 28 6, dm_no, dm_inv 31 189 1 8, dm_no, dm_no, dm_vret] := dr_c (dg_no) <| dr_c (dg_if_eq (by decide) dX11_writeHeight_17) <| dr_c (dg_no) <| dr_c (dg_no) <| dr_c (dg_aload_n (k := 0) rfl dX11_writeHeight_20) <| dr_c (dg_iconst (by decide) dX11_writeHeight_21) <| dr_c (dg_inv dX11_writeHeight_22 mo_188 rfl rfl wd_1328 wd_1330 wd_48 pd_188) <| dr_c (dg_no) <| dr_c (dg_no) <| dr_c (dg_aload_n (k := 0) rfl dX11_writeHeight_25) <| dr_c (dg_iload dX11_writeHeight_26) <| dr_c (dg_no) <| dr_c (dg_inv dX11_writeHeight_28 mo_189 rfl rfl wd_1336 wd_1338 wd_50 pd_189) <| dr_c (dg_no) <| dr_c (dg_no) <| dr_c (dg_vret dX11_writeHeight_31) <| dr_n
theorem tr_191_2 : dm_AllR (dm_Good dm_tb RX11 cX11_writeHeight 11 none false none) 32 [dm_ald 33 0, dm_push 34 (.int 0), dm_inv 37 188 1 8, dm_no, dm_no, dm_ald 38 0, dm_ild 40 6, dm_no, dm_if_le 43 47, dm_no, dm_no, dm_push 44 (.int 1), dm_goto 48, dm_no, dm_no, dm_push 48 (.int 0)] := dr_c (dg_aload_n (k := 0) rfl dX11_writeHeight_32) <| dr_c (dg_iconst (by decide) dX11_writeHeight_33) <| dr_c (dg_inv dX11_writeHeight_34 mo_188 rfl rfl wd_1328 wd_1330 wd_48 pd_188) <| dr_c (dg_no) <| dr_c (dg_no) <| dr_c (dg_aload_n (k := 0) rfl dX11_writeHeight_37) <| dr_c (dg_iload dX11_writeHeight_38) <| dr_c (dg_no) <| dr_c (dg_if_le (by decide) dX11_writeHeight_40) <| dr_c (dg_no) <| dr_c (dg_no) <| dr_c (dg_iconst (by decide) dX11_writeHeight_43) <| dr_c (dg_goto (by decide) dX11_writeHeight_44) <| dr_c (dg_no) <| dr_c (dg_no) <| dr_c (dg_iconst (by decide) dX11_writeHeight_47) <| dr_n
theorem tr_191_3 : dm_AllR (dm_Good dm_tb RX11 cX11_writeHeight 11 none false none) 48 [dm_inv 51 188 1 8, dm_no, dm_no, dm_ild 53 6, dm_no, dm_if_le 56 62, dm_no, dm_no, dm_ald 57 0, dm_ild 59 6, dm_no, dm_inv 62 189 1 8, dm_no, dm_no, dm_lld 63 3, dm_push 66 (.long 2)] := dr_c (dg_inv dX11_writeHeight_48 mo_188 rfl rfl wd_1328 wd_1330 wd_48 pd_188) <| dr_c (dg_no) <| dr_c (dg_no) <| dr_c (dg_iload dX11_writeHeight_51) <| dr_c (dg_no) <| dr_c (dg_if_le (by decide) dX11_writeHeight_53) <| dr_c (dg_no) <| dr_c (dg_no) <| dr_c (dg_aload_n (k := 0) rfl dX11_writeHeight_56) <| dr_c (dg_iload dX11_writeHeight_57) <| dr_c (dg_no) <| dr_c (dg_inv dX11_writeHeight_59 mo_189 rfl rfl wd_1336 wd_1338 wd_50 pd_189) <| dr_c (dg_no) <| dr_c (dg_no) <| dr_c (dg_lload_n (k := 3) rfl dX11_writeHeight_62) <| dr_c (dg_ldc2 wd_931 dX11_writeHeight_63) <| dr_n
theorem tr_191_4 : dm_AllR (dm_Good dm_tb RX11 cX11_writeHeight 11 none false none) 64 [dm_no, dm_no, dm_lq 67 (fun x y => x / y), dm_lst 69 7, dm_no, dm_ald 70 0, dm_lld 71 1, dm_lld 73 7, dm_no, dm_inv 76 145 2 8, dm_no, dm_no, dm_if_eq 79 101, dm_no, dm_no, dm_ald 80 0] := dr_c (dg_no) <| dr_c (dg_no) <| dr_c (dg_ldiv dX11_writeHeight_66) <| dr_c (dg_lstore (by decide) dX11_writeHeight_67) <| dr_c (dg_no) <| dr_c (dg_aload_n (k := 0) rfl dX11_writeHeight_69) <| dr_c (dg_lload_n (k := 1) rfl dX11_writeHeight_70) <| dr_c (dg_lload dX11_writeHeight_71) <| dr_c (dg_no) <| dr_c (dg_inv dX11_writeHeight_73 mo_145 rfl rfl wd_936 wd_938 wd_20 pd_145) <| dr_c (dg_no) <| dr_c (dg_no) <| dr_c (dg_if_eq (by decide) dX11_writeHeight_76) <| dr_c (dg_no) <| dr_c (dg_no) <| dr_c (dg_aload_n (k := 0) rfl dX11_writeHeight_79) <| dr_n
theorem tr_191_5 : dm_AllR (dm_Good dm_tb RX11 cX11_writeHeight 11 none false none) 80 [dm_getf 83 8 28, dm_no, dm_no, dm_ald 84 0, dm_lld 85 1, dm_inv 88 143 1 8, dm_no, dm_no, dm_iald 89, dm_ild 91 5, dm_no, dm_ild 93 6, dm_no, dm_ii 94 (fun x y => x + y), dm_ic_ne 97 101, dm_no] := dr_c (dg_getf (T := TX11) (C := RX11) (N := 68) dX11_writeHeight_80 rfl (by decide) iw_X11 wd_976) <| dr_c (dg_no) <| dr_c (dg_no) <| dr_c (dg_aload_n (k := 0) rfl dX11_writeHeight_83) <| dr_c (dg_lload_n (k := 1) rfl dX11_writeHeight_84) <| dr_c (dg_inv dX11_writeHeight_85 mo_143 rfl rfl wd_940 wd_942 wd_21 pd_143) <| dr_c (dg_no) <| dr_c (dg_no) <| dr_c (dg_iald dX11_writeHeight_88) <| dr_c (dg_iload dX11_writeHeight_89) <| dr_c (dg_no) <| dr_c (dg_iload dX11_writeHeight_91) <| dr_c (dg_no) <| dr_c (dg_iadd dX11_writeHeight_93) <| dr_c (dg_ic_ne (by decide) dX11_writeHeight_94) <| dr_c (dg_no) <| dr_n
theorem tr_191_6 : dm_AllR (dm_Good dm_tb RX11 cX11_writeHeight 11 none false none) 96 [dm_no, dm_push 98 (.int 1), dm_goto 102, dm_no, dm_no, dm_push 102 (.int 0), dm_ist 104 9, dm_no, dm_ald 105 0, dm_lld 106 1, dm_lld 108 7, dm_no, dm_ll 109 (fun x y => x + y), dm_lld 111 7, dm_no, dm_inv 114 145 2 8] := dr_c (dg_no) <| dr_c (dg_iconst (by decide) dX11_writeHeight_97) <| dr_c (dg_goto (by decide) dX11_writeHeight_98) <| dr_c (dg_no) <| dr_c (dg_no) <| dr_c (dg_iconst (by decide) dX11_writeHeight_101) <| dr_c (dg_istore (by decide) dX11_writeHeight_102) <| dr_c (dg_no) <| dr_c (dg_aload_n (k := 0) rfl dX11_writeHeight_104) <| dr_c (dg_lload_n (k := 1) rfl dX11_writeHeight_105) <| dr_c (dg_lload dX11_writeHeight_106) <| dr_c (dg_no) <| dr_c (dg_ladd dX11_writeHeight_108) <| dr_c (dg_lload dX11_writeHeight_109) <| dr_c (dg_no) <| dr_c (dg_inv dX11_writeHeight_111 mo_145 rfl rfl wd_936 wd_938 wd_20 pd_145) <| dr_n
theorem tr_191_7 : dm_AllR (dm_Good dm_tb RX11 cX11_writeHeight 11 none false none) 112 [dm_no, dm_no, dm_if_eq 117 142, dm_no, dm_no, dm_ald 118 0, dm_getf 121 8 28, dm_no, dm_no, dm_ald 122 0, dm_lld 123 1, dm_lld 125 7, dm_no, dm_ll 126 (fun x y => x + y), dm_inv 129 143 1 8, dm_no] := dr_c (dg_no) <| dr_c (dg_no) <| dr_c (dg_if_eq (by decide) dX11_writeHeight_114) <| dr_c (dg_no) <| dr_c (dg_no) <| dr_c (dg_aload_n (k := 0) rfl dX11_writeHeight_117) <| dr_c (dg_getf (T := TX11) (C := RX11) (N := 68) dX11_writeHeight_118 rfl (by decide) iw_X11 wd_976) <| dr_c (dg_no) <| dr_c (dg_no) <| dr_c (dg_aload_n (k := 0) rfl dX11_writeHeight_121) <| dr_c (dg_lload_n (k := 1) rfl dX11_writeHeight_122) <| dr_c (dg_lload dX11_writeHeight_123) <| dr_c (dg_no) <| dr_c (dg_ladd dX11_writeHeight_125) <| dr_c (dg_inv dX11_writeHeight_126 mo_143 rfl rfl wd_940 wd_942 wd_21 pd_143) <| dr_c (dg_no) <| dr_n
theorem tr_191_8 : dm_AllR (dm_Good dm_tb RX11 cX11_writeHeight 11 none false none) 128 [dm_no, dm_iald 130, dm_ild 132 5, dm_no, dm_ild 134 6, dm_no, dm_ii 135 (fun x y => x + y), dm_ic_ne 138 142, dm_no, dm_no, dm_push 139 (.int 1), dm_goto 143, dm_no, dm_no, dm_push 143 (.int 0), dm_ist 145 10] := dr_c (dg_no) <| dr_c (dg_iald dX11_writeHeight_129) <| dr_c (dg_iload dX11_writeHeight_130) <| dr_c (dg_no) <| dr_c (dg_iload dX11_writeHeight_132) <| dr_c (dg_no) <| dr_c (dg_iadd dX11_writeHeight_134) <| dr_c (dg_ic_ne (by decide) dX11_writeHeight_135) <| dr_c (dg_no) <| dr_c (dg_no) <| dr_c (dg_iconst (by decide) dX11_writeHeight_138) <| dr_c (dg_goto (by decide) dX11_writeHeight_139) <| dr_c (dg_no) <| dr_c (dg_no) <| dr_c (dg_iconst (by decide) dX11_writeHeight_142) <| dr_c (dg_istore (by decide) dX11_writeHeight_143) <| dr_n
theorem tr_191_9 : dm_AllR (dm_Good dm_tb RX11 cX11_writeHeight 11 none false none) 144 [dm_no, dm_ald 146 0, dm_ild 148 10, dm_no, dm_inv 151 188 1 8, dm_no, dm_no, dm_ald 152 0, dm_ild 154 9, dm_no, dm_inv 157 188 1 8, dm_no, dm_no, dm_ild 159 9, dm_no, dm_if_ne 162 174] := dr_c (dg_no) <| dr_c (dg_aload_n (k := 0) rfl dX11_writeHeight_145) <| dr_c (dg_iload dX11_writeHeight_146) <| dr_c (dg_no) <| dr_c (dg_inv dX11_writeHeight_148 mo_188 rfl rfl wd_1328 wd_1330 wd_48 pd_188) <| dr_c (dg_no) <| dr_c (dg_no) <| dr_c (dg_aload_n (k := 0) rfl dX11_writeHeight_151) <| dr_c (dg_iload dX11_writeHeight_152) <| dr_c (dg_no) <| dr_c (dg_inv dX11_writeHeight_154 mo_188 rfl rfl wd_1328 wd_1330 wd_48 pd_188) <| dr_c (dg_no) <| dr_c (dg_no) <| dr_c (dg_iload dX11_writeHeight_157) <| dr_c (dg_no) <| dr_c (dg_if_ne (by decide) dX11_writeHeight_159) <| dr_n
theorem tr_191_10 : dm_AllR (dm_Good dm_tb RX11 cX11_writeHeight 11 none false none) 160 [dm_no, dm_no, dm_ald 163 0, dm_lld 164 1, dm_lld 166 7, dm_no, dm_ild 168 5, dm_no, dm_ild 170 6, dm_no, dm_ii 171 (fun x y => x + y), dm_inv 174 191 3 8, dm_no, dm_no, dm_ild 176 10, dm_no] := dr_c (dg_no) <| dr_c (dg_no) <| dr_c (dg_aload_n (k := 0) rfl dX11_writeHeight_162) <| dr_c (dg_lload_n (k := 1) rfl dX11_writeHeight_163) <| dr_c (dg_lload dX11_writeHeight_164) <| dr_c (dg_no) <| dr_c (dg_iload dX11_writeHeight_166) <| dr_c (dg_no) <| dr_c (dg_iload dX11_writeHeight_168) <| dr_c (dg_no) <| dr_c (dg_iadd dX11_writeHeight_170) <| dr_c (dg_inv dX11_writeHeight_171 mo_191 rfl rfl wd_1332 wd_1334 wd_49 pd_191) <| dr_c (dg_no) <| dr_c (dg_no) <| dr_c (dg_iload dX11_writeHeight_174) <| dr_c (dg_no) <| dr_n
theorem tr_191_11 : dm_AllR (dm_Good dm_tb RX11 cX11_writeHeight 11 none false none) 176 [dm_if_ne 179 194, dm_no, dm_no, dm_ald 180 0, dm_lld 181 1, dm_lld 183 7, dm_no, dm_ll 184 (fun x y => x + y), dm_lld 186 7, dm_no, dm_ild 188 5, dm_no, dm_ild 190 6, dm_no, dm_ii 191 (fun x y => x + y), dm_inv 194 191 3 8] := dr_c (dg_if_ne (by decide) dX11_writeHeight_176) <| dr_c (dg_no) <| dr_c (dg_no) <| dr_c (dg_aload_n (k := 0) rfl dX11_writeHeight_179) <| dr_c (dg_lload_n (k := 1) rfl dX11_writeHeight_180) <| dr_c (dg_lload dX11_writeHeight_181) <| dr_c (dg_no) <| dr_c (dg_ladd dX11_writeHeight_183) <| dr_c (dg_lload dX11_writeHeight_184) <| dr_c (dg_no) <| dr_c (dg_iload dX11_writeHeight_186) <| dr_c (dg_no) <| dr_c (dg_iload dX11_writeHeight_188) <| dr_c (dg_no) <| dr_c (dg_iadd dX11_writeHeight_190) <| dr_c (dg_inv dX11_writeHeight_191 mo_191 rfl rfl wd_1332 wd_1334 wd_49 pd_191) <| dr_n
theorem tr_191_12 : dm_AllR (dm_Good dm_tb RX11 cX11_writeHeight 11 none false none) 192 [dm_no, dm_no, dm_vret] := dr_c (dg_no) <| dr_c (dg_no) <| dr_c (dg_vret dX11_writeHeight_194) <| dr_n
theorem tk_191 : dm_AllC (dm_Good dm_tb RX11 cX11_writeHeight 11 none false none) 0 cd_191 := dc_c (by decide) tr_191_0 <| dc_c (by decide) tr_191_1 <| dc_c (by decide) tr_191_2 <| dc_c (by decide) tr_191_3 <| dc_c (by decide) tr_191_4 <| dc_c (by decide) tr_191_5 <| dc_c (by decide) tr_191_6 <| dc_c (by decide) tr_191_7 <| dc_c (by decide) tr_191_8 <| dc_c (by decide) tr_191_9 <| dc_c (by decide) tr_191_10 <| dc_c (by decide) tr_191_11 <| dc_c (by decide) tr_191_12 <| dc_n
theorem dX11_written_0 : decode cX11_written 0 = .ok (.aload_n 0, 1) := by decide +kernel
theorem dX11_written_1 : decode cX11_written 1 = .ok (.iload_n 1, 1) := by decide +kernel
theorem dX11_written_2 : decode cX11_written 2 = .ok (.putfield 332, 3) := by decide +kernel
theorem dX11_written_5 : decode cX11_written 5 = .ok (.aload_n 0, 1) := by decide +kernel
theorem dX11_written_6 : decode cX11_written 6 = .ok (.iconst 0, 1) := by decide +kernel
theorem dX11_written_7 : decode cX11_written 7 = .ok (.putfield 336, 3) := by decide +kernel
theorem dX11_written_10 : decode cX11_written 10 = .ok (.aload_n 0, 1) := by decide +kernel
theorem dX11_written_11 : decode cX11_written 11 = .ok (.lconst 0, 1) := by decide +kernel
theorem dX11_written_12 : decode cX11_written 12 = .ok (.ldc2_w 186, 3) := by decide +kernel
theorem dX11_written_15 : decode cX11_written 15 = .ok (.invokevirtual 342, 3) := by decide +kernel
theorem dX11_written_18 : decode cX11_written 18 = .ok (.aload_n 0, 1) := by decide +kernel
theorem dX11_written_19 : decode cX11_written 19 = .ok (.lconst 0, 1) := by decide +kernel
theorem dX11_written_20 : decode cX11_written 20 = .ok (.ldc2_w 186, 3) := by decide +kernel
theorem dX11_written_23 : decode cX11_written 23 = .ok (.iconst 0, 1) := by decide +kernel
theorem dX11_written_24 : decode cX11_written 24 = .ok (.invokevirtual 348, 3) := by decide +kernel
theorem dX11_written_27 : decode cX11_written 27 = .ok (.aload_n 0, 1) := by decide +kernel
theorem dX11_written_28 : decode cX11_written 28 = .ok (.getfield 336, 3) := by decide +kernel
theorem dX11_written_31 : decode cX11_written 31 = .ok (.ireturn, 1) := by decide +kernel
def cd_192 : dm_Code := [[dm_ald 1 0, dm_ild 2 1, dm_putf 5 8 64 .boolean, dm_no, dm_no, dm_ald 6 0, dm_push 7 (.int 0), dm_putf 10 8 65 .int, dm_no, dm_no, dm_ald 11 0, dm_push 12 (.long 0), dm_push 15 (.long 1152921504606846976), dm_no, dm_no, dm_inv 18 190 2 8],
  [dm_no, dm_no, dm_ald 19 0, dm_push 20 (.long 0), dm_push 23 (.long 1152921504606846976), dm_no, dm_no, dm_push 24 (.int 0), dm_inv 27 191 3 8, dm_no, dm_no, dm_ald 28 0, dm_getf 31 8 65, dm_no, dm_no, dm_ret .int]]
theorem tr_192_0 : dm_AllR (dm_Good dm_tb RX11 cX11_written 2 (some .int) false none) 0 [dm_ald 1 0, dm_ild 2 1, dm_putf 5 8 64 .boolean, dm_no, dm_no, dm_ald 6 0, dm_push 7 (.int 0), dm_putf 10 8 65 .int, dm_no, dm_no, dm_ald 11 0, dm_push 12 (.long 0), dm_push 15 (.long 1152921504606846976), dm_no, dm_no, dm_inv 18 190 2 8] := dr_c (dg_aload_n (k := 0) rfl dX11_written_0) <| dr_c (dg_iload_n (k := 1) rfl dX11_written_1) <| dr_c (dg_putf (T := TX11) (C := RX11) (N := 68) dX11_written_2 rfl (by decide) iw_X11 tyX11_ok nmX11 wd_1012 rfl rfl) <| dr_c (dg_no) <| dr_c (dg_no) <| dr_c (dg_aload_n (k := 0) rfl dX11_written_5) <| dr_c (dg_iconst (by decide) dX11_written_6) <| dr_c (dg_putf (T := TX11) (C := RX11) (N := 68) dX11_written_7 rfl (by decide) iw_X11 tyX11_ok nmX11 wd_1013 rfl rfl) <| dr_c (dg_no) <| dr_c (dg_no) <| dr_c (dg_aload_n (k := 0) rfl dX11_written_10) <| dr_c (dg_lconst (by decide) dX11_written_11) <| dr_c (dg_ldc2 wd_918 dX11_written_12) <| dr_c (dg_no) <| dr_c (dg_no) <| dr_c (dg_inv dX11_written_15 mo_190 rfl rfl wd_1324 wd_1326 wd_47 pd_190) <| dr_n
theorem tr_192_1 : dm_AllR (dm_Good dm_tb RX11 cX11_written 2 (some .int) false none) 16 [dm_no, dm_no, dm_ald 19 0, dm_push 20 (.long 0), dm_push 23 (.long 1152921504606846976), dm_no, dm_no, dm_push 24 (.int 0), dm_inv 27 191 3 8, dm_no, dm_no, dm_ald 28 0, dm_getf 31 8 65, dm_no, dm_no, dm_ret .int] := dr_c (dg_no) <| dr_c (dg_no) <| dr_c (dg_aload_n (k := 0) rfl dX11_written_18) <| dr_c (dg_lconst (by decide) dX11_written_19) <| dr_c (dg_ldc2 wd_918 dX11_written_20) <| dr_c (dg_no) <| dr_c (dg_no) <| dr_c (dg_iconst (by decide) dX11_written_23) <| dr_c (dg_inv dX11_written_24 mo_191 rfl rfl wd_1332 wd_1334 wd_49 pd_191) <| dr_c (dg_no) <| dr_c (dg_no) <| dr_c (dg_aload_n (k := 0) rfl dX11_written_27) <| dr_c (dg_getf (T := TX11) (C := RX11) (N := 68) dX11_written_28 rfl (by decide) iw_X11 wd_1013) <| dr_c (dg_no) <| dr_c (dg_no) <| dr_c (dg_ret dX11_written_31) <| dr_n
theorem tk_192 : dm_AllC (dm_Good dm_tb RX11 cX11_written 2 (some .int) false none) 0 cd_192 := dc_c (by decide) tr_192_0 <| dc_c (by decide) tr_192_1 <| dc_n
theorem dX11_pack_0 : decode cX11_pack 0 = .ok (.aload_n 0, 1) := by decide +kernel
theorem dX11_pack_1 : decode cX11_pack 1 = .ok (.iconst 0, 1) := by decide +kernel
theorem dX11_pack_2 : decode cX11_pack 2 = .ok (.putfield 165, 3) := by decide +kernel
theorem dX11_pack_5 : decode cX11_pack 5 = .ok (.aload_n 0, 1) := by decide +kernel
theorem dX11_pack_6 : decode cX11_pack 6 = .ok (.iload_n 1, 1) := by decide +kernel
theorem dX11_pack_7 : decode cX11_pack 7 = .ok (.invokevirtual 192, 3) := by decide +kernel
theorem dX11_pack_10 : decode cX11_pack 10 = .ok (.ifCond .ne 5, 3) := by decide +kernel
theorem dX11_pack_13 : decode cX11_pack 13 = .ok (.iconst (-1), 1) := by decide +kernel
theorem dX11_pack_14 : decode cX11_pack 14 = .ok (.ireturn, 1) := by decide +kernel
theorem dX11_pack_15 : decode cX11_pack 15 = .ok (.aload_n 0, 1) := by decide +kernel
theorem dX11_pack_16 : decode cX11_pack 16 = .ok (.iload_n 1, 1) := by decide +kernel
theorem dX11_pack_17 : decode cX11_pack 17 = .ok (.invokevirtual 250, 3) := by decide +kernel
theorem dX11_pack_20 : decode cX11_pack 20 = .ok (.aload_n 0, 1) := by decide +kernel
theorem dX11_pack_21 : decode cX11_pack 21 = .ok (.iload_n 1, 1) := by decide +kernel
theorem dX11_pack_22 : decode cX11_pack 22 = .ok (.invokevirtual 235, 3) := by decide +kernel
theorem dX11_pack_25 : decode cX11_pack 25 = .ok (.aload_n 0, 1) := by decide +kernel
theorem dX11_pack_26 : decode cX11_pack 26 = .ok (.iconst 0, 1) := by decide +kernel
theorem dX11_pack_27 : decode cX11_pack 27 = .ok (.invokevirtual 313, 3) := by decide +kernel
theorem dX11_pack_30 : decode cX11_pack 30 = .ok (.sipush 600, 3) := by decide +kernel
theorem dX11_pack_33 : decode cX11_pack 33 = .ok (.if_icmp .le 5, 3) := by decide +kernel
theorem dX11_pack_36 : decode cX11_pack 36 = .ok (.iconst (-1), 1) := by decide +kernel
theorem dX11_pack_37 : decode cX11_pack 37 = .ok (.ireturn, 1) := by decide +kernel
theorem dX11_pack_38 : decode cX11_pack 38 = .ok (.aload_n 0, 1) := by decide +kernel
theorem dX11_pack_39 : decode cX11_pack 39 = .ok (.aload_n 0, 1) := by decide +kernel
theorem dX11_pack_40 : decode cX11_pack 40 = .ok (.iconst 1, 1) := by decide +kernel
theorem dX11_pack_41 : decode cX11_pack 41 = .ok (.invokevirtual 313, 3) := by decide +kernel
theorem dX11_pack_44 : decode cX11_pack 44 = .ok (.putfield 352, 3) := by decide +kernel
theorem dX11_pack_47 : decode cX11_pack 47 = .ok (.aload_n 0, 1) := by decide +kernel
theorem dX11_pack_48 : decode cX11_pack 48 = .ok (.getfield 352, 3) := by decide +kernel
theorem dX11_pack_51 : decode cX11_pack 51 = .ok (.ireturn, 1) := by decide +kernel
def cd_193 : dm_Code := [[dm_ald 1 0, dm_push 2 (.int 0), dm_putf 5 8 40 .int, dm_no, dm_no, dm_ald 6 0, dm_ild 7 1, dm_inv 10 136 1 8, dm_no, dm_no, dm_if_ne 13 15, dm_no, dm_no, dm_push 14 (.int (-1)), dm_ret .int, dm_ald 16 0],
  [dm_ild 17 1, dm_inv 20 141 1 8, dm_no, dm_no, dm_ald 21 0, dm_ild 22 1, dm_inv 25 142 1 8, dm_no, dm_no, dm_ald 26 0, dm_push 27 (.int 0), dm_inv 30 192 1 8, dm_no, dm_no, dm_push 33 (.int 600), dm_no],
  [dm_no, dm_ic_le 36 38, dm_no, dm_no, dm_push 37 (.int (-1)), dm_ret .int, dm_ald 39 0, dm_ald 40 0, dm_push 41 (.int 1), dm_inv 44 192 1 8, dm_no, dm_no, dm_putf 47 8 36 .int, dm_no, dm_no, dm_ald 48 0],
  [dm_getf 51 8 36, dm_no, dm_no, dm_ret .int]]
theorem tr_193_0 : dm_AllR (dm_Good dm_tb RX11 cX11_pack 2 (some .int) false none) 0 [dm_ald 1 0, dm_push 2 (.int 0), dm_putf 5 8 40 .int, dm_no, dm_no, dm_ald 6 0, dm_ild 7 1, dm_inv 10 136 1 8, dm_no, dm_no, dm_if_ne 13 15, dm_no, dm_no, dm_push 14 (.int (-1)), dm_ret .int, dm_ald 16 0] := dr_c (dg_aload_n (k := 0) rfl dX11_pack_0) <| dr_c (dg_iconst (by decide) dX11_pack_1) <| dr_c (dg_putf (T := TX11) (C := RX11) (N := 68) dX11_pack_2 rfl (by decide) iw_X11 tyX11_ok nmX11 wd_988 rfl rfl) <| dr_c (dg_no) <| dr_c (dg_no) <| dr_c (dg_aload_n (k := 0) rfl dX11_pack_5) <| dr_c (dg_iload_n (k := 1) rfl dX11_pack_6) <| dr_c (dg_inv dX11_pack_7 mo_136 rfl rfl wd_1165 wd_1167 wd_24 pd_136) <| dr_c (dg_no) <| dr_c (dg_no) <| dr_c (dg_if_ne (by decide) dX11_pack_10) <| dr_c (dg_no) <| dr_c (dg_no) <| dr_c (dg_iconst (by decide) dX11_pack_13) <| dr_c (dg_ret dX11_pack_14) <| dr_c (dg_aload_n (k := 0) rfl dX11_pack_15) <| dr_n
theorem tr_193_1 : dm_AllR (dm_Good dm_tb RX11 cX11_pack 2 (some .int) false none) 16 [dm_ild 17 1, dm_inv 20 141 1 8, dm_no, dm_no, dm_ald 21 0, dm_ild 22 1, dm_inv 25 142 1 8, dm_no, dm_no, dm_ald 26 0, dm_push 27 (.int 0), dm_inv 30 192 1 8, dm_no, dm_no, dm_push 33 (.int 600), dm_no] := dr_c (dg_iload_n (k := 1) rfl dX11_pack_16) <| dr_c (dg_inv dX11_pack_17 mo_141 rfl rfl wd_1189 wd_1191 wd_30 pd_141) <| dr_c (dg_no) <| dr_c (dg_no) <| dr_c (dg_aload_n (k := 0) rfl dX11_pack_20) <| dr_c (dg_iload_n (k := 1) rfl dX11_pack_21) <| dr_c (dg_inv dX11_pack_22 mo_142 rfl rfl wd_1173 wd_1175 wd_26 pd_142) <| dr_c (dg_no) <| dr_c (dg_no) <| dr_c (dg_aload_n (k := 0) rfl dX11_pack_25) <| dr_c (dg_iconst (by decide) dX11_pack_26) <| dr_c (dg_inv dX11_pack_27 mo_192 rfl rfl wd_1320 wd_1322 wd_46 pd_192) <| dr_c (dg_no) <| dr_c (dg_no) <| dr_c (dg_sipush (by decide) dX11_pack_30) <| dr_c (dg_no) <| dr_n
theorem tr_193_2 : dm_AllR (dm_Good dm_tb RX11 cX11_pack 2 (some .int) false none) 32 [dm_no, dm_ic_le 36 38, dm_no, dm_no, dm_push 37 (.int (-1)), dm_ret .int, dm_ald 39 0, dm_ald 40 0, dm_push 41 (.int 1), dm_inv 44 192 1 8, dm_no, dm_no, dm_putf 47 8 36 .int, dm_no, dm_no, dm_ald 48 0] := dr_c (dg_no) <| dr_c (dg_ic_le (by decide) dX11_pack_33) <| dr_c (dg_no) <| dr_c (dg_no) <| dr_c (dg_iconst (by decide) dX11_pack_36) <| dr_c (dg_ret dX11_pack_37) <| dr_c (dg_aload_n (k := 0) rfl dX11_pack_38) <| dr_c (dg_aload_n (k := 0) rfl dX11_pack_39) <| dr_c (dg_iconst (by decide) dX11_pack_40) <| dr_c (dg_inv dX11_pack_41 mo_192 rfl rfl wd_1320 wd_1322 wd_46 pd_192) <| dr_c (dg_no) <| dr_c (dg_no) <| dr_c (dg_putf (T := TX11) (C := RX11) (N := 68) dX11_pack_44 rfl (by decide) iw_X11 tyX11_ok nmX11 wd_984 rfl rfl) <| dr_c (dg_no) <| dr_c (dg_no) <| dr_c (dg_aload_n (k := 0) rfl dX11_pack_47) <| dr_n
theorem tr_193_3 : dm_AllR (dm_Good dm_tb RX11 cX11_pack 2 (some .int) false none) 48 [dm_getf 51 8 36, dm_no, dm_no, dm_ret .int] := dr_c (dg_getf (T := TX11) (C := RX11) (N := 68) dX11_pack_48 rfl (by decide) iw_X11 wd_984) <| dr_c (dg_no) <| dr_c (dg_no) <| dr_c (dg_ret dX11_pack_51) <| dr_n
theorem tk_193 : dm_AllC (dm_Good dm_tb RX11 cX11_pack 2 (some .int) false none) 0 cd_193 := dc_c (by decide) tr_193_0 <| dc_c (by decide) tr_193_1 <| dc_c (by decide) tr_193_2 <| dc_c (by decide) tr_193_3 <| dc_n
theorem dX11_bit__0 : decode cX11_bit_ 0 = .ok (.aload_n 0, 1) := by decide +kernel
theorem dX11_bit__1 : decode cX11_bit_ 1 = .ok (.iconst 0, 1) := by decide +kernel
theorem dX11_bit__2 : decode cX11_bit_ 2 = .ok (.putfield 165, 3) := by decide +kernel
theorem dX11_bit__5 : decode cX11_bit_ 5 = .ok (.iload_n 1, 1) := by decide +kernel
theorem dX11_bit__6 : decode cX11_bit_ 6 = .ok (.ifCond .lt 28, 3) := by decide +kernel
theorem dX11_bit__9 : decode cX11_bit_ 9 = .ok (.iload_n 1, 1) := by decide +kernel
theorem dX11_bit__10 : decode cX11_bit_ 10 = .ok (.aload_n 0, 1) := by decide +kernel
theorem dX11_bit__11 : decode cX11_bit_ 11 = .ok (.getfield 352, 3) := by decide +kernel
theorem dX11_bit__14 : decode cX11_bit_ 14 = .ok (.if_icmp .ge 20, 3) := by decide +kernel
theorem dX11_bit__17 : decode cX11_bit_ 17 = .ok (.aload_n 0, 1) := by decide +kernel
theorem dX11_bit__18 : decode cX11_bit_ 18 = .ok (.getfield 101, 3) := by decide +kernel
theorem dX11_bit__21 : decode cX11_bit_ 21 = .ok (.iload_n 1, 1) := by decide +kernel
theorem dX11_bit__22 : decode cX11_bit_ 22 = .ok (.baload, 1) := by decide +kernel
theorem dX11_bit__23 : decode cX11_bit_ 23 = .ok (.ifCond .eq 7, 3) := by decide +kernel
theorem dX11_bit__26 : decode cX11_bit_ 26 = .ok (.iconst 1, 1) := by decide +kernel
theorem dX11_bit__27 : decode cX11_bit_ 27 = .ok (.goto 8, 3) := by decide +kernel
theorem dX11_bit__30 : decode cX11_bit_ 30 = .ok (.iconst 0, 1) := by decide +kernel
theorem dX11_bit__31 : decode cX11_bit_ 31 = .ok (.goto 4, 3) := by decide +kernel
theorem dX11_bit__34 : decode cX11_bit_ 34 = .ok (.iconst (-1), 1) := by decide +kernel
theorem dX11_bit__35 : decode cX11_bit_ 35 = .ok (.ireturn, 1) := by decide +kernel
def cd_194 : dm_Code := [[dm_ald 1 0, dm_push 2 (.int 0), dm_putf 5 8 40 .int, dm_no, dm_no, dm_ild 6 1, dm_if_lt 9 34, dm_no, dm_no, dm_ild 10 1, dm_ald 11 0, dm_getf 14 8 36, dm_no, dm_no, dm_ic_ge 17 34, dm_no],
  [dm_no, dm_ald 18 0, dm_getf 21 8 35, dm_no, dm_no, dm_ild 22 1, dm_bald 23, dm_if_eq 26 30, dm_no, dm_no, dm_push 27 (.int 1), dm_goto 35, dm_no, dm_no, dm_push 31 (.int 0), dm_goto 35],
  [dm_no, dm_no, dm_push 35 (.int (-1)), dm_ret .int]]
theorem tr_194_0 : dm_AllR (dm_Good dm_tb RX11 cX11_bit_ 2 (some .int) false none) 0 [dm_ald 1 0, dm_push 2 (.int 0), dm_putf 5 8 40 .int, dm_no, dm_no, dm_ild 6 1, dm_if_lt 9 34, dm_no, dm_no, dm_ild 10 1, dm_ald 11 0, dm_getf 14 8 36, dm_no, dm_no, dm_ic_ge 17 34, dm_no] := dr_c (dg_aload_n (k := 0) rfl dX11_bit__0) <| dr_c (dg_iconst (by decide) dX11_bit__1) <| dr_c (dg_putf (T := TX11) (C := RX11) (N := 68) dX11_bit__2 rfl (by decide) iw_X11 tyX11_ok nmX11 wd_988 rfl rfl) <| dr_c (dg_no) <| dr_c (dg_no) <| dr_c (dg_iload_n (k := 1) rfl dX11_bit__5) <| dr_c (dg_if_lt (by decide) dX11_bit__6) <| dr_c (dg_no) <| dr_c (dg_no) <| dr_c (dg_iload_n (k := 1) rfl dX11_bit__9) <| dr_c (dg_aload_n (k := 0) rfl dX11_bit__10) <| dr_c (dg_getf (T := TX11) (C := RX11) (N := 68) dX11_bit__11 rfl (by decide) iw_X11 wd_984) <| dr_c (dg_no) <| dr_c (dg_no) <| dr_c (dg_ic_ge (by decide) dX11_bit__14) <| dr_c (dg_no) <| dr_n
theorem tr_194_1 : dm_AllR (dm_Good dm_tb RX11 cX11_bit_ 2 (some .int) false none) 16 [dm_no, dm_ald 18 0, dm_getf 21 8 35, dm_no, dm_no, dm_ild 22 1, dm_bald 23, dm_if_eq 26 30, dm_no, dm_no, dm_push 27 (.int 1), dm_goto 35, dm_no, dm_no, dm_push 31 (.int 0), dm_goto 35] := dr_c (dg_no) <| dr_c (dg_aload_n (k := 0) rfl dX11_bit__17) <| dr_c (dg_getf (T := TX11) (C := RX11) (N := 68) dX11_bit__18 rfl (by decide) iw_X11 wd_983) <| dr_c (dg_no) <| dr_c (dg_no) <| dr_c (dg_iload_n (k := 1) rfl dX11_bit__21) <| dr_c (dg_bald dX11_bit__22) <| dr_c (dg_if_eq (by decide) dX11_bit__23) <| dr_c (dg_no) <| dr_c (dg_no) <| dr_c (dg_iconst (by decide) dX11_bit__26) <| dr_c (dg_goto (by decide) dX11_bit__27) <| dr_c (dg_no) <| dr_c (dg_no) <| dr_c (dg_iconst (by decide) dX11_bit__30) <| dr_c (dg_goto (by decide) dX11_bit__31) <| dr_n
theorem tr_194_2 : dm_AllR (dm_Good dm_tb RX11 cX11_bit_ 2 (some .int) false none) 32 [dm_no, dm_no, dm_push 35 (.int (-1)), dm_ret .int] := dr_c (dg_no) <| dr_c (dg_no) <| dr_c (dg_iconst (by decide) dX11_bit__34) <| dr_c (dg_ret dX11_bit__35) <| dr_n
theorem tk_194 : dm_AllC (dm_Good dm_tb RX11 cX11_bit_ 2 (some .int) false none) 0 cd_194 := dc_c (by decide) tr_194_0 <| dc_c (by decide) tr_194_1 <| dc_c (by decide) tr_194_2 <| dc_n
theorem dX11_add_0 : decode cX11_add 0 = .ok (.aload_n 0, 1) := by decide +kernel
theorem dX11_add_1 : decode cX11_add 1 = .ok (.iconst 0, 1) := by decide +kernel
theorem dX11_add_2 : decode cX11_add 2 = .ok (.putfield 165, 3) := by decide +kernel
theorem dX11_add_5 : decode cX11_add 5 = .ok (.iload_n 3, 1) := by decide +kernel
theorem dX11_add_6 : decode cX11_add 6 = .ok (.ifCond .lt 21, 3) := by decide +kernel
theorem dX11_add_9 : decode cX11_add 9 = .ok (.iload_n 3, 1) := by decide +kernel
theorem dX11_add_10 : decode cX11_add 10 = .ok (.bipush 64, 2) := by decide +kernel
theorem dX11_add_12 : decode cX11_add 12 = .ok (.if_icmp .gt 15, 3) := by decide +kernel
theorem dX11_add_15 : decode cX11_add 15 = .ok (.aload_n 0, 1) := by decide +kernel
theorem dX11_add_16 : decode cX11_add 16 = .ok (.getfield 352, 3) := by decide +kernel
theorem dX11_add_19 : decode cX11_add 19 = .ok (.iload_n 3, 1) := by decide +kernel
theorem dX11_add_20 : decode cX11_add 20 = .ok (.iadd, 1) := by decide +kernel
theorem dX11_add_21 : decode cX11_add 21 = .ok (.sipush 600, 3) := by decide +kernel
theorem dX11_add_24 : decode cX11_add 24 = .ok (.if_icmp .le 5, 3) := by decide +kernel
theorem dX11_add_27 : decode cX11_add 27 = .ok (.iconst (-1), 1) := by decide +kernel
theorem dX11_add_28 : decode cX11_add 28 = .ok (.ireturn, 1) := by decide +kernel
theorem dX11_add_29 : decode cX11_add 29 = .ok (.iload_n 3, 1) := by decide +kernel
theorem dX11_add_30 : decode cX11_add 30 = .ok (.iconst 1, 1) := by decide +kernel
theorem dX11_add_31 : decode cX11_add 31 = .ok (.isub, 1) := by decide +kernel
theorem dX11_add_32 : decode cX11_add 32 = .ok (.istore 4, 2) := by decide +kernel
theorem dX11_add_34 : decode cX11_add 34 = .ok (.iload 4, 2) := by decide +kernel
theorem dX11_add_36 : decode cX11_add 36 = .ok (.ifCond .lt 44, 3) := by decide +kernel
theorem dX11_add_39 : decode cX11_add 39 = .ok (.aload_n 0, 1) := by decide +kernel
theorem dX11_add_40 : decode cX11_add 40 = .ok (.getfield 101, 3) := by decide +kernel
theorem dX11_add_43 : decode cX11_add 43 = .ok (.aload_n 0, 1) := by decide +kernel
theorem dX11_add_44 : decode cX11_add 44 = .ok (.getfield 352, 3) := by decide +kernel
theorem dX11_add_47 : decode cX11_add 47 = .ok (.lload_n 1, 1) := by decide +kernel
theorem dX11_add_48 : decode cX11_add 48 = .ok (.iload 4, 2) := by decide +kernel
theorem dX11_add_50 : decode cX11_add 50 = .ok (.lshr, 1) := by decide +kernel
theorem dX11_add_51 : decode cX11_add 51 = .ok (.lconst 1, 1) := by decide +kernel
theorem dX11_add_52 : decode cX11_add 52 = .ok (.land, 1) := by decide +kernel
theorem dX11_add_53 : decode cX11_add 53 = .ok (.lconst 1, 1) := by decide +kernel
theorem dX11_add_54 : decode cX11_add 54 = .ok (.lcmp, 1) := by decide +kernel
theorem dX11_add_55 : decode cX11_add 55 = .ok (.ifCond .ne 7, 3) := by decide +kernel
theorem dX11_add_58 : decode cX11_add 58 = .ok (.iconst 1, 1) := by decide +kernel
theorem dX11_add_59 : decode cX11_add 59 = .ok (.goto 4, 3) := by decide +kernel
theorem dX11_add_62 : decode cX11_add 62 = .ok (.iconst 0, 1) := by decide +kernel
theorem dX11_add_63 : decode cX11_add 63 = .ok (.bastore, 1) := by decide +kernel
theorem dX11_add_64 : decode cX11_add 64 = .ok (.aload_n 0, 1) := by decide +kernel
theorem dX11_add_65 : decode cX11_add 65 = .ok (.dup, 1) := by decide +kernel
theorem dX11_add_66 : decode cX11_add 66 = .ok (.getfield 352, 3) := by decide +kernel
theorem dX11_add_69 : decode cX11_add 69 = .ok (.iconst 1, 1) := by decide +kernel
theorem dX11_add_70 : decode cX11_add 70 = .ok (.iadd, 1) := by decide +kernel
theorem dX11_add_71 : decode cX11_add 71 = .ok (.putfield 352, 3) := by decide +kernel
theorem dX11_add_74 : decode cX11_add 74 = .ok (.iinc 4 (-1), 3) := by decide +kernel
theorem dX11_add_77 : decode cX11_add 77 = .ok (.goto (-43), 3) := by decide +kernel
theorem dX11_add_80 : decode cX11_add 80 = .ok (.aload_n 0, 1) := by decide +kernel
theorem dX11_add_81 : decode cX11_add 81 = .ok (.getfield 352, 3) := by decide +kernel
theorem dX11_add_84 : decode cX11_add 84 = .ok (.ireturn, 1) := by decide +kernel
def cd_195 : dm_Code := [[dm_ald 1 0, dm_push 2 (.int 0), dm_putf 5 8 40 .int, dm_no, dm_no, dm_ild 6 3, dm_if_lt 9 27, dm_no, dm_no, dm_ild 10 3, dm_push 12 (.int 64), dm_no, dm_ic_gt 15 27, dm_no, dm_no, dm_ald 16 0],
  [dm_getf 19 8 36, dm_no, dm_no, dm_ild 20 3, dm_ii 21 (fun x y => x + y), dm_push 24 (.int 600), dm_no, dm_no, dm_ic_le 27 29, dm_no, dm_no, dm_push 28 (.int (-1)), dm_ret .int, dm_ild 30 3, dm_push 31 (.int 1), dm_ii 32 (fun x y => x - y)],
  [dm_ist 34 4, dm_no, dm_ild 36 4, dm_no, dm_if_lt 39 80, dm_no, dm_no, dm_ald 40 0, dm_getf 43 8 35, dm_no, dm_no, dm_ald 44 0, dm_getf 47 8 36, dm_no, dm_no, dm_lld 48 1],
  [dm_ild 50 4, dm_no, dm_li 51 (fun x y => x >>> (y.toInt64 &&& 63)), dm_push 52 (.long 1), dm_ll 53 (fun x y => x &&& y), dm_push 54 (.long 1), dm_lc 55, dm_if_ne 58 62, dm_no, dm_no, dm_push 59 (.int 1), dm_goto 63, dm_no, dm_no, dm_push 63 (.int 0), dm_bast 64],
  [dm_ald 65 0, dm_dup 66, dm_getf 69 8 36, dm_no, dm_no, dm_push 70 (.int 1), dm_ii 71 (fun x y => x + y), dm_putf 74 8 36 .int, dm_no, dm_no, dm_iinc 77 4 (-1), dm_no, dm_no, dm_goto 34, dm_no, dm_no],
  [dm_ald 81 0, dm_getf 84 8 36, dm_no, dm_no, dm_ret .int]]
theorem tr_195_0 : dm_AllR (dm_Good dm_tb RX11 cX11_add 5 (some .int) false none) 0 [dm_ald 1 0, dm_push 2 (.int 0), dm_putf 5 8 40 .int, dm_no, dm_no, dm_ild 6 3, dm_if_lt 9 27, dm_no, dm_no, dm_ild 10 3, dm_push 12 (.int 64), dm_no, dm_ic_gt 15 27, dm_no, dm_no, dm_ald 16 0] := dr_c (dg_aload_n (k := 0) rfl dX11_add_0) <| dr_c (dg_iconst (by decide) dX11_add_1) <| dr_c (dg_putf (T := TX11) (C := RX11) (N := 68) dX11_add_2 rfl (by decide) iw_X11 tyX11_ok nmX11 wd_988 rfl rfl) <| dr_c (dg_no) <| dr_c (dg_no) <| dr_c (dg_iload_n (k := 3) rfl dX11_add_5) <| dr_c (dg_if_lt (by decide) dX11_add_6) <| dr_c (dg_no) <| dr_c (dg_no) <| dr_c (dg_iload_n (k := 3) rfl dX11_add_9) <| dr_c (dg_bipush (by decide) dX11_add_10) <| dr_c (dg_no) <| dr_c (dg_ic_gt (by decide) dX11_add_12) <| dr_c (dg_no) <| dr_c (dg_no) <| dr_c (dg_aload_n (k := 0) rfl dX11_add_15) <| dr_n
theorem tr_195_1 : dm_AllR (dm_Good dm_tb RX11 cX11_add 5 (some .int) false none) 16 [dm_getf 19 8 36, dm_no, dm_no, dm_ild 20 3, dm_ii 21 (fun x y => x + y), dm_push 24 (.int 600), dm_no, dm_no, dm_ic_le 27 29, dm_no, dm_no, dm_push 28 (.int (-1)), dm_ret .int, dm_ild 30 3, dm_push 31 (.int 1), dm_ii 32 (fun x y => x - y)] := dr_c (dg_getf (T := TX11) (C := RX11) (N := 68) dX11_add_16 rfl (by decide) iw_X11 wd_984) <| dr_c (dg_no) <| dr_c (dg_no) <| dr_c (dg_iload_n (k := 3) rfl dX11_add_19) <| dr_c (dg_iadd dX11_add_20) <| dr_c (dg_sipush (by decide) dX11_add_21) <| dr_c (dg_no) <| dr_c (dg_no) <| dr_c (dg_ic_le (by decide) dX11_add_24) <| dr_c (dg_no) <| dr_c (dg_no) <| dr_c (dg_iconst (by decide) dX11_add_27) <| dr_c (dg_ret dX11_add_28) <| dr_c (dg_iload_n (k := 3) rfl dX11_add_29) <| dr_c (dg_iconst (by decide) dX11_add_30) <| dr_c (dg_isub dX11_add_31) <| dr_n
theorem tr_195_2 : dm_AllR (dm_Good dm_tb RX11 cX11_add 5 (some .int) false none) 32 [dm_ist 34 4, dm_no, dm_ild 36 4, dm_no, dm_if_lt 39 80, dm_no, dm_no, dm_ald 40 0, dm_getf 43 8 35, dm_no, dm_no, dm_ald 44 0, dm_getf 47 8 36, dm_no, dm_no, dm_lld 48 1] := dr_c (dg_istore (by decide) dX11_add_32) <| dr_c (dg_no) <| dr_c (dg_iload dX11_add_34) <| dr_c (dg_no) <| dr_c (dg_if_lt (by decide) dX11_add_36) <| dr_c (dg_no) <| dr_c (dg_no) <| dr_c (dg_aload_n (k := 0) rfl dX11_add_39) <| dr_c (dg_getf (T := TX11) (C := RX11) (N := 68) dX11_add_40 rfl (by decide) iw_X11 wd_983) <| dr_c (dg_no) <| dr_c (dg_no) <| dr_c (dg_aload_n (k := 0) rfl dX11_add_43) <| dr_c (dg_getf (T := TX11) (C := RX11) (N := 68) dX11_add_44 rfl (by decide) iw_X11 wd_984) <| dr_c (dg_no) <| dr_c (dg_no) <| dr_c (dg_lload_n (k := 1) rfl dX11_add_47) <| dr_n
theorem tr_195_3 : dm_AllR (dm_Good dm_tb RX11 cX11_add 5 (some .int) false none) 48 [dm_ild 50 4, dm_no, dm_li 51 (fun x y => x >>> (y.toInt64 &&& 63)), dm_push 52 (.long 1), dm_ll 53 (fun x y => x &&& y), dm_push 54 (.long 1), dm_lc 55, dm_if_ne 58 62, dm_no, dm_no, dm_push 59 (.int 1), dm_goto 63, dm_no, dm_no, dm_push 63 (.int 0), dm_bast 64] := dr_c (dg_iload dX11_add_48) <| dr_c (dg_no) <| dr_c (dg_lshr dX11_add_50) <| dr_c (dg_lconst (by decide) dX11_add_51) <| dr_c (dg_land dX11_add_52) <| dr_c (dg_lconst (by decide) dX11_add_53) <| dr_c (dg_lcmp dX11_add_54) <| dr_c (dg_if_ne (by decide) dX11_add_55) <| dr_c (dg_no) <| dr_c (dg_no) <| dr_c (dg_iconst (by decide) dX11_add_58) <| dr_c (dg_goto (by decide) dX11_add_59) <| dr_c (dg_no) <| dr_c (dg_no) <| dr_c (dg_iconst (by decide) dX11_add_62) <| dr_c (dg_bast dX11_add_63) <| dr_n
theorem tr_195_4 : dm_AllR (dm_Good dm_tb RX11 cX11_add 5 (some .int) false none) 64 [dm_ald 65 0, dm_dup 66, dm_getf 69 8 36, dm_no, dm_no, dm_push 70 (.int 1), dm_ii 71 (fun x y => x + y), dm_putf 74 8 36 .int, dm_no, dm_no, dm_iinc 77 4 (-1), dm_no, dm_no, dm_goto 34, dm_no, dm_no] := dr_c (dg_aload_n (k := 0) rfl dX11_add_64) <| dr_c (dg_dup dX11_add_65) <| dr_c (dg_getf (T := TX11) (C := RX11) (N := 68) dX11_add_66 rfl (by decide) iw_X11 wd_984) <| dr_c (dg_no) <| dr_c (dg_no) <| dr_c (dg_iconst (by decide) dX11_add_69) <| dr_c (dg_iadd dX11_add_70) <| dr_c (dg_putf (T := TX11) (C := RX11) (N := 68) dX11_add_71 rfl (by decide) iw_X11 tyX11_ok nmX11 wd_984 rfl rfl) <| dr_c (dg_no) <| dr_c (dg_no) <| dr_c (dg_iinc (by decide) (by decide) dX11_add_74) <| dr_c (dg_no) <| dr_c (dg_no) <| dr_c (dg_goto (by decide) dX11_add_77) <| dr_c (dg_no) <| dr_c (dg_no) <| dr_n
theorem tr_195_5 : dm_AllR (dm_Good dm_tb RX11 cX11_add 5 (some .int) false none) 80 [dm_ald 81 0, dm_getf 84 8 36, dm_no, dm_no, dm_ret .int] := dr_c (dg_aload_n (k := 0) rfl dX11_add_80) <| dr_c (dg_getf (T := TX11) (C := RX11) (N := 68) dX11_add_81 rfl (by decide) iw_X11 wd_984) <| dr_c (dg_no) <| dr_c (dg_no) <| dr_c (dg_ret dX11_add_84) <| dr_n
theorem tk_195 : dm_AllC (dm_Good dm_tb RX11 cX11_add 5 (some .int) false none) 0 cd_195 := dc_c (by decide) tr_195_0 <| dc_c (by decide) tr_195_1 <| dc_c (by decide) tr_195_2 <| dc_c (by decide) tr_195_3 <| dc_c (by decide) tr_195_4 <| dc_c (by decide) tr_195_5 <| dc_n
theorem dX11_end_0 : decode cX11_end 0 = .ok (.aload_n 0, 1) := by decide +kernel
theorem dX11_end_1 : decode cX11_end 1 = .ok (.iconst 0, 1) := by decide +kernel
theorem dX11_end_2 : decode cX11_end 2 = .ok (.putfield 165, 3) := by decide +kernel
theorem dX11_end_5 : decode cX11_end 5 = .ok (.iload_n 1, 1) := by decide +kernel
theorem dX11_end_6 : decode cX11_end 6 = .ok (.ifCond .lt 11, 3) := by decide +kernel
theorem dX11_end_9 : decode cX11_end 9 = .ok (.iload_n 1, 1) := by decide +kernel
theorem dX11_end_10 : decode cX11_end 10 = .ok (.aload_n 0, 1) := by decide +kernel
theorem dX11_end_11 : decode cX11_end 11 = .ok (.getfield 352, 3) := by decide +kernel
theorem dX11_end_14 : decode cX11_end 14 = .ok (.if_icmp .le 5, 3) := by decide +kernel
theorem dX11_end_17 : decode cX11_end 17 = .ok (.iconst 0, 1) := by decide +kernel
theorem dX11_end_18 : decode cX11_end 18 = .ok (.ireturn, 1) := by decide +kernel
theorem dX11_end_19 : decode cX11_end 19 = .ok (.aload_n 0, 1) := by decide +kernel
theorem dX11_end_20 : decode cX11_end 20 = .ok (.iload_n 1, 1) := by decide +kernel
theorem dX11_end_21 : decode cX11_end 21 = .ok (.putfield 352, 3) := by decide +kernel
theorem dX11_end_24 : decode cX11_end 24 = .ok (.iconst 1, 1) := by decide +kernel
theorem dX11_end_25 : decode cX11_end 25 = .ok (.ireturn, 1) := by decide +kernel
def cd_196 : dm_Code := [[dm_ald 1 0, dm_push 2 (.int 0), dm_putf 5 8 40 .int, dm_no, dm_no, dm_ild 6 1, dm_if_lt 9 17, dm_no, dm_no, dm_ild 10 1, dm_ald 11 0, dm_getf 14 8 36, dm_no, dm_no, dm_ic_le 17 19, dm_no],
  [dm_no, dm_push 18 (.int 0), dm_ret .boolean, dm_ald 20 0, dm_ild 21 1, dm_putf 24 8 36 .int, dm_no, dm_no, dm_push 25 (.int 1), dm_ret .boolean]]
theorem tr_196_0 : dm_AllR (dm_Good dm_tb RX11 cX11_end 2 (some .boolean) false none) 0 [dm_ald 1 0, dm_push 2 (.int 0), dm_putf 5 8 40 .int, dm_no, dm_no, dm_ild 6 1, dm_if_lt 9 17, dm_no, dm_no, dm_ild 10 1, dm_ald 11 0, dm_getf 14 8 36, dm_no, dm_no, dm_ic_le 17 19, dm_no] := dr_c (dg_aload_n (k := 0) rfl dX11_end_0) <| dr_c (dg_iconst (by decide) dX11_end_1) <| dr_c (dg_putf (T := TX11) (C := RX11) (N := 68) dX11_end_2 rfl (by decide) iw_X11 tyX11_ok nmX11 wd_988 rfl rfl) <| dr_c (dg_no) <| dr_c (dg_no) <| dr_c (dg_iload_n (k := 1) rfl dX11_end_5) <| dr_c (dg_if_lt (by decide) dX11_end_6) <| dr_c (dg_no) <| dr_c (dg_no) <| dr_c (dg_iload_n (k := 1) rfl dX11_end_9) <| dr_c (dg_aload_n (k := 0) rfl dX11_end_10) <| dr_c (dg_getf (T := TX11) (C := RX11) (N := 68) dX11_end_11 rfl (by decide) iw_X11 wd_984) <| dr_c (dg_no) <| dr_c (dg_no) <| dr_c (dg_ic_le (by decide) dX11_end_14) <| dr_c (dg_no) <| dr_n
theorem tr_196_1 : dm_AllR (dm_Good dm_tb RX11 cX11_end 2 (some .boolean) false none) 16 [dm_no, dm_push 18 (.int 0), dm_ret .boolean, dm_ald 20 0, dm_ild 21 1, dm_putf 24 8 36 .int, dm_no, dm_no, dm_push 25 (.int 1), dm_ret .boolean] := dr_c (dg_no) <| dr_c (dg_iconst (by decide) dX11_end_17) <| dr_c (dg_ret dX11_end_18) <| dr_c (dg_aload_n (k := 0) rfl dX11_end_19) <| dr_c (dg_iload_n (k := 1) rfl dX11_end_20) <| dr_c (dg_putf (T := TX11) (C := RX11) (N := 68) dX11_end_21 rfl (by decide) iw_X11 tyX11_ok nmX11 wd_984 rfl rfl) <| dr_c (dg_no) <| dr_c (dg_no) <| dr_c (dg_iconst (by decide) dX11_end_24) <| dr_c (dg_ret dX11_end_25) <| dr_n
theorem tk_196 : dm_AllC (dm_Good dm_tb RX11 cX11_end 2 (some .boolean) false none) 0 cd_196 := dc_c (by decide) tr_196_0 <| dc_c (by decide) tr_196_1 <| dc_n
theorem dX11_fails_0 : decode cX11_fails 0 = .ok (.aload_n 0, 1) := by decide +kernel
theorem dX11_fails_1 : decode cX11_fails 1 = .ok (.getfield 355, 3) := by decide +kernel
theorem dX11_fails_4 : decode cX11_fails 4 = .ok (.iconst (-1), 1) := by decide +kernel
theorem dX11_fails_5 : decode cX11_fails 5 = .ok (.if_icmp .ne 8, 3) := by decide +kernel
theorem dX11_fails_8 : decode cX11_fails 8 = .ok (.aload_n 0, 1) := by decide +kernel
theorem dX11_fails_9 : decode cX11_fails 9 = .ok (.iload_n 1, 1) := by decide +kernel
theorem dX11_fails_10 : decode cX11_fails 10 = .ok (.putfield 355, 3) := by decide +kernel
theorem dX11_fails_13 : decode cX11_fails 13 = .ok (.return_, 1) := by decide +kernel
def cd_197 : dm_Code := [[dm_ald 1 0, dm_getf 4 8 66, dm_no, dm_no, dm_push 5 (.int (-1)), dm_ic_ne 8 13, dm_no, dm_no, dm_ald 9 0, dm_ild 10 1, dm_putf 13 8 66 .int, dm_no, dm_no, dm_vret]]
theorem tr_197_0 : dm_AllR (dm_Good dm_tb RX11 cX11_fails 2 none false none) 0 [dm_ald 1 0, dm_getf 4 8 66, dm_no, dm_no, dm_push 5 (.int (-1)), dm_ic_ne 8 13, dm_no, dm_no, dm_ald 9 0, dm_ild 10 1, dm_putf 13 8 66 .int, dm_no, dm_no, dm_vret] := dr_c (dg_aload_n (k := 0) rfl dX11_fails_0) <| dr_c (dg_getf (T := TX11) (C := RX11) (N := 68) dX11_fails_1 rfl (by decide) iw_X11 wd_1014) <| dr_c (dg_no) <| dr_c (dg_no) <| dr_c (dg_iconst (by decide) dX11_fails_4) <| dr_c (dg_ic_ne (by decide) dX11_fails_5) <| dr_c (dg_no) <| dr_c (dg_no) <| dr_c (dg_aload_n (k := 0) rfl dX11_fails_8) <| dr_c (dg_iload_n (k := 1) rfl dX11_fails_9) <| dr_c (dg_putf (T := TX11) (C := RX11) (N := 68) dX11_fails_10 rfl (by decide) iw_X11 tyX11_ok nmX11 wd_1014 rfl rfl) <| dr_c (dg_no) <| dr_c (dg_no) <| dr_c (dg_vret dX11_fails_13) <| dr_n
theorem tk_197 : dm_AllC (dm_Good dm_tb RX11 cX11_fails 2 none false none) 0 cd_197 := dc_c (by decide) tr_197_0 <| dc_n
theorem dX11_next_0 : decode cX11_next 0 = .ok (.aload_n 0, 1) := by decide +kernel
theorem dX11_next_1 : decode cX11_next 1 = .ok (.getfield 355, 3) := by decide +kernel
theorem dX11_next_4 : decode cX11_next 4 = .ok (.iconst (-1), 1) := by decide +kernel
theorem dX11_next_5 : decode cX11_next 5 = .ok (.if_icmp .eq 5, 3) := by decide +kernel
theorem dX11_next_8 : decode cX11_next 8 = .ok (.iconst 0, 1) := by decide +kernel
theorem dX11_next_9 : decode cX11_next 9 = .ok (.ireturn, 1) := by decide +kernel
theorem dX11_next_10 : decode cX11_next 10 = .ok (.aload_n 0, 1) := by decide +kernel
theorem dX11_next_11 : decode cX11_next 11 = .ok (.getfield 336, 3) := by decide +kernel
theorem dX11_next_14 : decode cX11_next 14 = .ok (.aload_n 0, 1) := by decide +kernel
theorem dX11_next_15 : decode cX11_next 15 = .ok (.getfield 352, 3) := by decide +kernel
theorem dX11_next_18 : decode cX11_next 18 = .ok (.if_icmp .ne 13, 3) := by decide +kernel
theorem dX11_next_21 : decode cX11_next 21 = .ok (.aload_n 0, 1) := by decide +kernel
theorem dX11_next_22 : decode cX11_next 22 = .ok (.aload_n 0, 1) := by decide +kernel
theorem dX11_next_23 : decode cX11_next 23 = .ok (.getfield 352, 3) := by decide +kernel
theorem dX11_next_26 : decode cX11_next 26 = .ok (.invokevirtual 358, 3) := by decide +kernel
theorem dX11_next_29 : decode cX11_next 29 = .ok (.iconst 0, 1) := by decide +kernel
theorem dX11_next_30 : decode cX11_next 30 = .ok (.ireturn, 1) := by decide +kernel
theorem dX11_next_31 : decode cX11_next 31 = .ok (.aload_n 0, 1) := by decide +kernel
theorem dX11_next_32 : decode cX11_next 32 = .ok (.dup, 1) := by decide +kernel
theorem dX11_next_33 : decode cX11_next 33 = .ok (.getfield 336, 3) := by decide +kernel
theorem dX11_next_36 : decode cX11_next 36 = .ok (.iconst 1, 1) := by decide +kernel
theorem dX11_next_37 : decode cX11_next 37 = .ok (.iadd, 1) := by decide +kernel
theorem dX11_next_38 : decode cX11_next 38 = .ok (.putfield 336, 3) := by decide +kernel
theorem dX11_next_41 : decode cX11_next 41 = .ok (.aload_n 0, 1) := by decide +kernel
theorem dX11_next_42 : decode cX11_next 42 = .ok (.getfield 101, 3) := by decide +kernel
theorem dX11_next_45 : decode cX11_next 45 = .ok (.aload_n 0, 1) := by decide +kernel
theorem dX11_next_46 : decode cX11_next 46 = .ok (.getfield 336, 3) := by decide +kernel
theorem dX11_next_49 : decode cX11_next 49 = .ok (.iconst 1, 1) := by decide +kernel
theorem dX11_next_50 : decode cX11_next 50 = .ok (.isub, 1) := by decide +kernel
theorem dX11_next_51 : decode cX11_next 51 = .ok (.baload, 1) := by decide +kernel
theorem dX11_next_52 : decode cX11_next 52 = .ok (.ifCond .eq 7, 3) := by decide +kernel
theorem dX11_next_55 : decode cX11_next 55 = .ok (.iconst 1, 1) := by decide +kernel
theorem dX11_next_56 : decode cX11_next 56 = .ok (.goto 4, 3) := by decide +kernel
theorem dX11_next_59 : decode cX11_next 59 = .ok (.iconst 0, 1) := by decide +kernel
theorem dX11_next_60 : decode cX11_next 60 = .ok (.ireturn, 1) := by decide +kernel
def cd_198 : dm_Code := [[dm_ald 1 0, dm_getf 4 8 66, dm_no, dm_no, dm_push 5 (.int (-1)), dm_ic_eq 8 10, dm_no, dm_no, dm_push 9 (.int 0), dm_ret .int, dm_ald 11 0, dm_getf 14 8 65, dm_no, dm_no, dm_ald 15 0, dm_getf 18 8 36],
  [dm_no, dm_no, dm_ic_ne 21 31, dm_no, dm_no, dm_ald 22 0, dm_ald 23 0, dm_getf 26 8 36, dm_no, dm_no, dm_inv 29 197 1 8, dm_no, dm_no, dm_push 30 (.int 0), dm_ret .int, dm_ald 32 0],
  [dm_dup 33, dm_getf 36 8 65, dm_no, dm_no, dm_push 37 (.int 1), dm_ii 38 (fun x y => x + y), dm_putf 41 8 65 .int, dm_no, dm_no, dm_ald 42 0, dm_getf 45 8 35, dm_no, dm_no, dm_ald 46 0, dm_getf 49 8 65, dm_no],
  [dm_no, dm_push 50 (.int 1), dm_ii 51 (fun x y => x - y), dm_bald 52, dm_if_eq 55 59, dm_no, dm_no, dm_push 56 (.int 1), dm_goto 60, dm_no, dm_no, dm_push 60 (.int 0), dm_ret .int]]
theorem tr_198_0 : dm_AllR (dm_Good dm_tb RX11 cX11_next 1 (some .int) false none) 0 [dm_ald 1 0, dm_getf 4 8 66, dm_no, dm_no, dm_push 5 (.int (-1)), dm_ic_eq 8 10, dm_no, dm_no, dm_push 9 (.int 0), dm_ret .int, dm_ald 11 0, dm_getf 14 8 65, dm_no, dm_no, dm_ald 15 0, dm_getf 18 8 36] := dr_c (dg_aload_n (k := 0) rfl dX11_next_0) <| dr_c (dg_getf (T := TX11) (C := RX11) (N := 68) dX11_next_1 rfl (by decide) iw_X11 wd_1014) <| dr_c (dg_no) <| dr_c (dg_no) <| dr_c (dg_iconst (by decide) dX11_next_4) <| dr_c (dg_ic_eq (by decide) dX11_next_5) <| dr_c (dg_no) <| dr_c (dg_no) <| dr_c (dg_iconst (by decide) dX11_next_8) <| dr_c (dg_ret dX11_next_9) <| dr_c (dg_aload_n (k := 0) rfl dX11_next_10) <| dr_c (dg_getf (T := TX11) (C := RX11) (N := 68) dX11_next_11 rfl (by decide) iw_X11 wd_1013) <| dr_c (dg_no) <| dr_c (dg_no) <| dr_c (dg_aload_n (k := 0) rfl dX11_next_14) <| dr_c (dg_getf (T := TX11) (C := RX11) (N := 68) dX11_next_15 rfl (by decide) iw_X11 wd_984) <| dr_n
theorem tr_198_1 : dm_AllR (dm_Good dm_tb RX11 cX11_next 1 (some .int) false none) 16 [dm_no, dm_no, dm_ic_ne 21 31, dm_no, dm_no, dm_ald 22 0, dm_ald 23 0, dm_getf 26 8 36, dm_no, dm_no, dm_inv 29 197 1 8, dm_no, dm_no, dm_push 30 (.int 0), dm_ret .int, dm_ald 32 0] := dr_c (dg_no) <| dr_c (dg_no) <| dr_c (dg_ic_ne (by decide) dX11_next_18) <| dr_c (dg_no) <| dr_c (dg_no) <| dr_c (dg_aload_n (k := 0) rfl dX11_next_21) <| dr_c (dg_aload_n (k := 0) rfl dX11_next_22) <| dr_c (dg_getf (T := TX11) (C := RX11) (N := 68) dX11_next_23 rfl (by decide) iw_X11 wd_984) <| dr_c (dg_no) <| dr_c (dg_no) <| dr_c (dg_inv dX11_next_26 mo_197 rfl rfl wd_1389 wd_1391 wd_54 pd_197) <| dr_c (dg_no) <| dr_c (dg_no) <| dr_c (dg_iconst (by decide) dX11_next_29) <| dr_c (dg_ret dX11_next_30) <| dr_c (dg_aload_n (k := 0) rfl dX11_next_31) <| dr_n
theorem tr_198_2 : dm_AllR (dm_Good dm_tb RX11 cX11_next 1 (some .int) false none) 32 [dm_dup 33, dm_getf 36 8 65, dm_no, dm_no, dm_push 37 (.int 1), dm_ii 38 (fun x y => x + y), dm_putf 41 8 65 .int, dm_no, dm_no, dm_ald 42 0, dm_getf 45 8 35, dm_no, dm_no, dm_ald 46 0, dm_getf 49 8 65, dm_no] := dr_c (dg_dup dX11_next_32) <| dr_c (dg_getf (T := TX11) (C := RX11) (N := 68) dX11_next_33 rfl (by decide) iw_X11 wd_1013) <| dr_c (dg_no) <| dr_c (dg_no) <| dr_c (dg_iconst (by decide) dX11_next_36) <| dr_c (dg_iadd dX11_next_37) <| dr_c (dg_putf (T := TX11) (C := RX11) (N := 68) dX11_next_38 rfl (by decide) iw_X11 tyX11_ok nmX11 wd_1013 rfl rfl) <| dr_c (dg_no) <| dr_c (dg_no) <| dr_c (dg_aload_n (k := 0) rfl dX11_next_41) <| dr_c (dg_getf (T := TX11) (C := RX11) (N := 68) dX11_next_42 rfl (by decide) iw_X11 wd_983) <| dr_c (dg_no) <| dr_c (dg_no) <| dr_c (dg_aload_n (k := 0) rfl dX11_next_45) <| dr_c (dg_getf (T := TX11) (C := RX11) (N := 68) dX11_next_46 rfl (by decide) iw_X11 wd_1013) <| dr_c (dg_no) <| dr_n
theorem tr_198_3 : dm_AllR (dm_Good dm_tb RX11 cX11_next 1 (some .int) false none) 48 [dm_no, dm_push 50 (.int 1), dm_ii 51 (fun x y => x - y), dm_bald 52, dm_if_eq 55 59, dm_no, dm_no, dm_push 56 (.int 1), dm_goto 60, dm_no, dm_no, dm_push 60 (.int 0), dm_ret .int] := dr_c (dg_no) <| dr_c (dg_iconst (by decide) dX11_next_49) <| dr_c (dg_isub dX11_next_50) <| dr_c (dg_bald dX11_next_51) <| dr_c (dg_if_eq (by decide) dX11_next_52) <| dr_c (dg_no) <| dr_c (dg_no) <| dr_c (dg_iconst (by decide) dX11_next_55) <| dr_c (dg_goto (by decide) dX11_next_56) <| dr_c (dg_no) <| dr_c (dg_no) <| dr_c (dg_iconst (by decide) dX11_next_59) <| dr_c (dg_ret dX11_next_60) <| dr_n
theorem tk_198 : dm_AllC (dm_Good dm_tb RX11 cX11_next 1 (some .int) false none) 0 cd_198 := dc_c (by decide) tr_198_0 <| dc_c (by decide) tr_198_1 <| dc_c (by decide) tr_198_2 <| dc_c (by decide) tr_198_3 <| dc_n
theorem dX11_readNumber_0 : decode cX11_readNumber 0 = .ok (.iconst 2, 1) := by decide +kernel
theorem dX11_readNumber_1 : decode cX11_readNumber 1 = .ok (.istore_n 1, 1) := by decide +kernel
theorem dX11_readNumber_2 : decode cX11_readNumber 2 = .ok (.iconst 0, 1) := by decide +kernel
theorem dX11_readNumber_3 : decode cX11_readNumber 3 = .ok (.istore_n 2, 1) := by decide +kernel
theorem dX11_readNumber_4 : decode cX11_readNumber 4 = .ok (.aload_n 0, 1) := by decide +kernel
theorem dX11_readNumber_5 : decode cX11_readNumber 5 = .ok (.getfield 355, 3) := by decide +kernel
theorem dX11_readNumber_8 : decode cX11_readNumber 8 = .ok (.iconst (-1), 1) := by decide +kernel
theorem dX11_readNumber_9 : decode cX11_readNumber 9 = .ok (.if_icmp .ne 39, 3) := by decide +kernel
theorem dX11_readNumber_12 : decode cX11_readNumber 12 = .ok (.aload_n 0, 1) := by decide +kernel
theorem dX11_readNumber_13 : decode cX11_readNumber 13 = .ok (.invokevirtual 361, 3) := by decide +kernel
theorem dX11_readNumber_16 : decode cX11_readNumber 16 = .ok (.iconst 1, 1) := by decide +kernel
theorem dX11_readNumber_17 : decode cX11_readNumber 17 = .ok (.if_icmp .ne 31, 3) := by decide +kernel
theorem dX11_readNumber_20 : decode cX11_readNumber 20 = .ok (.iload_n 1, 1) := by decide +kernel
theorem dX11_readNumber_21 : decode cX11_readNumber 21 = .ok (.bipush 20, 2) := by decide +kernel
theorem dX11_readNumber_23 : decode cX11_readNumber 23 = .ok (.if_icmp .ne 13, 3) := by decide +kernel
theorem dX11_readNumber_26 : decode cX11_readNumber 26 = .ok (.aload_n 0, 1) := by decide +kernel
theorem dX11_readNumber_27 : decode cX11_readNumber 27 = .ok (.aload_n 0, 1) := by decide +kernel
theorem dX11_readNumber_28 : decode cX11_readNumber 28 = .ok (.getfield 336, 3) := by decide +kernel
theorem dX11_readNumber_31 : decode cX11_readNumber 31 = .ok (.iconst 1, 1) := by decide +kernel
theorem dX11_readNumber_32 : decode cX11_readNumber 32 = .ok (.isub, 1) := by decide +kernel
theorem dX11_readNumber_33 : decode cX11_readNumber 33 = .ok (.invokevirtual 358, 3) := by decide +kernel
theorem dX11_readNumber_36 : decode cX11_readNumber 36 = .ok (.iload_n 2, 1) := by decide +kernel
theorem dX11_readNumber_37 : decode cX11_readNumber 37 = .ok (.iconst 1, 1) := by decide +kernel
theorem dX11_readNumber_38 : decode cX11_readNumber 38 = .ok (.iload_n 1, 1) := by decide +kernel
theorem dX11_readNumber_39 : decode cX11_readNumber 39 = .ok (.ishl, 1) := by decide +kernel
theorem dX11_readNumber_40 : decode cX11_readNumber 40 = .ok (.iadd, 1) := by decide +kernel
theorem dX11_readNumber_41 : decode cX11_readNumber 41 = .ok (.istore_n 2, 1) := by decide +kernel
theorem dX11_readNumber_42 : decode cX11_readNumber 42 = .ok (.iinc 1 1, 3) := by decide +kernel
theorem dX11_readNumber_45 : decode cX11_readNumber 45 = .ok (.goto (-41), 3) := by decide +kernel
theorem dX11_readNumber_48 : decode cX11_readNumber 48 = .ok (.iconst 0, 1) := by decide +kernel
theorem dX11_readNumber_49 : decode cX11_readNumber 49 = .ok (.istore_n 3, 1) := by decide +kernel
theorem dX11_readNumber_50 : decode cX11_readNumber 50 = .ok (.iconst 0, 1) := by decide +kernel
theorem dX11_readNumber_51 : decode cX11_readNumber 51 = .ok (.istore 4, 2) := by decide +kernel
theorem dX11_readNumber_53 : decode cX11_readNumber 53 = .ok (.iload 4, 2) := by decide +kernel
theorem dX11_readNumber_55 : decode cX11_readNumber 55 = .ok (.iload_n 1, 1) := by decide +kernel
theorem dX11_readNumber_56 : decode cX11_readNumber 56 = .ok (.if_icmp .ge 26, 3) := by decide +kernel
theorem dX11_readNumber_59 : decode cX11_readNumber 59 = .ok (.aload_n 0, 1) := by decide +kernel
theorem dX11_readNumber_60 : decode cX11_readNumber 60 = .ok (.getfield 355, 3) := by decide +kernel
theorem dX11_readNumber_63 : decode cX11_readNumber 63 = .ok (.iconst (-1), 1) := by decide +kernel
theorem dX11_readNumber_64 : decode cX11_readNumber 64 = .ok (.if_icmp .ne 18, 3) := by decide +kernel
theorem dX11_readNumber_67 : decode cX11_readNumber 67 = .ok (.iconst 2, 1) := by decide +kernel
theorem dX11_readNumber_68 : decode cX11_readNumber 68 = .ok (.iload_n 3, 1) := by decide +kernel
theorem dX11_readNumber_69 : decode cX11_readNumber 69 = .ok (.imul, 1) := by decide +kernel
theorem dX11_readNumber_70 : decode cX11_readNumber 70 = .ok (.aload_n 0, 1) := by decide +kernel
theorem dX11_readNumber_71 : decode cX11_readNumber 71 = .ok (.invokevirtual 361, 3) := by decide +kernel
theorem dX11_readNumber_74 : decode cX11_readNumber 74 = .ok (.iadd, 1) := by decide +kernel
theorem dX11_readNumber_75 : decode cX11_readNumber 75 = .ok (.istore_n 3, 1) := by decide +kernel
theorem dX11_readNumber_76 : decode cX11_readNumber 76 = .ok (.iinc 4 1, 3) := by decide +kernel
theorem dX11_readNumber_79 : decode cX11_readNumber 79 = .ok (.goto (-26), 3) := by decide +kernel
theorem dX11_readNumber_82 : decode cX11_readNumber 82 = .ok (.iload_n 2, 1) := by decide +kernel
theorem dX11_readNumber_83 : decode cX11_readNumber 83 = .ok (.iload_n 3, 1) := by decide +kernel
theorem dX11_readNumber_84 : decode cX11_readNumber 84 = .ok (.iadd, 1) := by decide +kernel
theorem dX11_readNumber_85 : decode cX11_readNumber 85 = .ok (.ireturn, 1) := by decide +kernel
def cd_199 : dm_Code := [[dm_push 1 (.int 2), dm_ist 2 1, dm_push 3 (.int 0), dm_ist 4 2, dm_ald 5 0, dm_getf 8 8 66, dm_no, dm_no, dm_push 9 (.int (-1)), dm_ic_ne 12 48, dm_no, dm_no, dm_ald 13 0, dm_inv 16 198 0 8, dm_no, dm_no],
  [dm_push 17 (.int 1), dm_ic_ne 20 48, dm_no, dm_no, dm_ild 21 1, dm_push 23 (.int 20), dm_no, dm_ic_ne 26 36, dm_no, dm_no, dm_ald 27 0, dm_ald 28 0, dm_getf 31 8 65, dm_no, dm_no, dm_push 32 (.int 1)],
  [dm_ii 33 (fun x y => x - y), dm_inv 36 197 1 8, dm_no, dm_no, dm_ild 37 2, dm_push 38 (.int 1), dm_ild 39 1, dm_ii 40 (fun x y => x <<< (y &&& 31)), dm_ii 41 (fun x y => x + y), dm_ist 42 2, dm_iinc 45 1 1, dm_no, dm_no, dm_goto 4, dm_no, dm_no],
  [dm_push 49 (.int 0), dm_ist 50 3, dm_push 51 (.int 0), dm_ist 53 4, dm_no, dm_ild 55 4, dm_no, dm_ild 56 1, dm_ic_ge 59 82, dm_no, dm_no, dm_ald 60 0, dm_getf 63 8 66, dm_no, dm_no, dm_push 64 (.int (-1))],
  [dm_ic_ne 67 82, dm_no, dm_no, dm_push 68 (.int 2), dm_ild 69 3, dm_ii 70 (fun x y => x * y), dm_ald 71 0, dm_inv 74 198 0 8, dm_no, dm_no, dm_ii 75 (fun x y => x + y), dm_ist 76 3, dm_iinc 79 4 1, dm_no, dm_no, dm_goto 53],
  [dm_no, dm_no, dm_ild 83 2, dm_ild 84 3, dm_ii 85 (fun x y => x + y), dm_ret .int]]
theorem tr_199_0 : dm_AllR (dm_Good dm_tb RX11 cX11_readNumber 5 (some .int) false none) 0 [dm_push 1 (.int 2), dm_ist 2 1, dm_push 3 (.int 0), dm_ist 4 2, dm_ald 5 0, dm_getf 8 8 66, dm_no, dm_no, dm_push 9 (.int (-1)), dm_ic_ne 12 48, dm_no, dm_no, dm_ald 13 0, dm_inv 16 198 0 8, dm_no, dm_no] := dr_c (dg_iconst (by decide) dX11_readNumber_0) <| dr_c (dg_istore_n (k := 1) rfl (by decide) dX11_readNumber_1) <| dr_c (dg_iconst (by decide) dX11_readNumber_2) <| dr_c (dg_istore_n (k := 2) rfl (by decide) dX11_readNumber_3) <| dr_c (dg_aload_n (k := 0) rfl dX11_readNumber_4) <| dr_c (dg_getf (T := TX11) (C := RX11) (N := 68) dX11_readNumber_5 rfl (by decide) iw_X11 wd_1014) <| dr_c (dg_no) <| dr_c (dg_no) <| dr_c (dg_iconst (by decide) dX11_readNumber_8) <| dr_c (dg_ic_ne (by decide) dX11_readNumber_9) <| dr_c (dg_no) <| dr_c (dg_no) <| dr_c (dg_aload_n (k := 0) rfl dX11_readNumber_12) <| dr_c (dg_inv dX11_readNumber_13 mo_198 rfl rfl wd_1393 wd_1395 wd_55 pd_198) <| dr_c (dg_no) <| dr_c (dg_no) <| dr_n
theorem tr_199_1 : dm_AllR (dm_Good dm_tb RX11 cX11_readNumber 5 (some .int) false none) 16 [dm_push 17 (.int 1), dm_ic_ne 20 48, dm_no, dm_no, dm_ild 21 1, dm_push 23 (.int 20), dm_no, dm_ic_ne 26 36, dm_no, dm_no, dm_ald 27 0, dm_ald 28 0, dm_getf 31 8 65, dm_no, dm_no, dm_push 32 (.int 1)] := dr_c (dg_iconst (by decide) dX11_readNumber_16) <| dr_c (dg_ic_ne (by decide) dX11_readNumber_17) <| dr_c (dg_no) <| dr_c (dg_no) <| dr_c (dg_iload_n (k := 1) rfl dX11_readNumber_20) <| dr_c (dg_bipush (by decide) dX11_readNumber_21) <| dr_c (dg_no) <| dr_c (dg_ic_ne (by decide) dX11_readNumber_23) <| dr_c (dg_no) <| dr_c (dg_no) <| dr_c (dg_aload_n (k := 0) rfl dX11_readNumber_26) <| dr_c (dg_aload_n (k := 0) rfl dX11_readNumber_27) <| dr_c (dg_getf (T := TX11) (C := RX11) (N := 68) dX11_readNumber_28 rfl (by decide) iw_X11 wd_1013) <| dr_c (dg_no) <| dr_c (dg_no) <| dr_c (dg_iconst (by decide) dX11_readNumber_31) <| dr_n
theorem tr_199_2 : dm_AllR (dm_Good dm_tb RX11 cX11_readNumber 5 (some .int) false none) 32 [dm_ii 33 (fun x y => x - y), dm_inv 36 197 1 8, dm_no, dm_no, dm_ild 37 2, dm_push 38 (.int 1), dm_ild 39 1, dm_ii 40 (fun x y => x <<< (y &&& 31)), dm_ii 41 (fun x y => x + y), dm_ist 42 2, dm_iinc 45 1 1, dm_no, dm_no, dm_goto 4, dm_no, dm_no] := dr_c (dg_isub dX11_readNumber_32) <| dr_c (dg_inv dX11_readNumber_33 mo_197 rfl rfl wd_1389 wd_1391 wd_54 pd_197) <| dr_c (dg_no) <| dr_c (dg_no) <| dr_c (dg_iload_n (k := 2) rfl dX11_readNumber_36) <| dr_c (dg_iconst (by decide) dX11_readNumber_37) <| dr_c (dg_iload_n (k := 1) rfl dX11_readNumber_38) <| dr_c (dg_ishl dX11_readNumber_39) <| dr_c (dg_iadd dX11_readNumber_40) <| dr_c (dg_istore_n (k := 2) rfl (by decide) dX11_readNumber_41) <| dr_c (dg_iinc (by decide) (by decide) dX11_readNumber_42) <| dr_c (dg_no) <| dr_c (dg_no) <| dr_c (dg_goto (by decide) dX11_readNumber_45) <| dr_c (dg_no) <| dr_c (dg_no) <| dr_n
theorem tr_199_3 : dm_AllR (dm_Good dm_tb RX11 cX11_readNumber 5 (some .int) false none) 48 [dm_push 49 (.int 0), dm_ist 50 3, dm_push 51 (.int 0), dm_ist 53 4, dm_no, dm_ild 55 4, dm_no, dm_ild 56 1, dm_ic_ge 59 82, dm_no, dm_no, dm_ald 60 0, dm_getf 63 8 66, dm_no, dm_no, dm_push 64 (.int (-1))] := dr_c (dg_iconst (by decide) dX11_readNumber_48) <| dr_c (dg_istore_n (k := 3) rfl (by decide) dX11_readNumber_49) <| dr_c (dg_iconst (by decide) dX11_readNumber_50) <| dr_c (dg_istore (by decide) dX11_readNumber_51) <| dr_c (dg_no) <| dr_c (dg_iload dX11_readNumber_53) <| dr_c (dg_no) <| dr_c (dg_iload_n (k := 1) rfl dX11_readNumber_55) <| dr_c (dg_ic_ge (by decide) dX11_readNumber_56) <| dr_c (dg_no) <| dr_c (dg_no) <| dr_c (dg_aload_n (k := 0) rfl dX11_readNumber_59) <| dr_c (dg_getf (T := TX11) (C := RX11) (N := 68) dX11_readNumber_60 rfl (by decide) iw_X11 wd_1014) <| dr_c (dg_no) <| dr_c (dg_no) <| dr_c (dg_iconst (by decide) dX11_readNumber_63) <| dr_n
theorem tr_199_4 : dm_AllR (dm_Good dm_tb RX11 cX11_readNumber 5 (some .int) false none) 64 [dm_ic_ne 67 82, dm_no, dm_no, dm_push 68 (.int 2), dm_ild 69 3, dm_ii 70 (fun x y => x * y), dm_ald 71 0, dm_inv 74 198 0 8, dm_no, dm_no, dm_ii 75 (fun x y => x + y), dm_ist 76 3, dm_iinc 79 4 1, dm_no, dm_no, dm_goto 53] := dr_c (dg_ic_ne (by decide) dX11_readNumber_64) <| dr_c (dg_no) <| dr_c (dg_no) <| dr_c (dg_iconst (by decide) dX11_readNumber_67) <| dr_c (dg_iload_n (k := 3) rfl dX11_readNumber_68) <| dr_c (dg_imul dX11_readNumber_69) <| dr_c (dg_aload_n (k := 0) rfl dX11_readNumber_70) <| dr_c (dg_inv dX11_readNumber_71 mo_198 rfl rfl wd_1393 wd_1395 wd_55 pd_198) <| dr_c (dg_no) <| dr_c (dg_no) <| dr_c (dg_iadd dX11_readNumber_74) <| dr_c (dg_istore_n (k := 3) rfl (by decide) dX11_readNumber_75) <| dr_c (dg_iinc (by decide) (by decide) dX11_readNumber_76) <| dr_c (dg_no) <| dr_c (dg_no) <| dr_c (dg_goto (by decide) dX11_readNumber_79) <| dr_n
theorem tr_199_5 : dm_AllR (dm_Good dm_tb RX11 cX11_readNumber 5 (some .int) false none) 80 [dm_no, dm_no, dm_ild 83 2, dm_ild 84 3, dm_ii 85 (fun x y => x + y), dm_ret .int] := dr_c (dg_no) <| dr_c (dg_no) <| dr_c (dg_iload_n (k := 2) rfl dX11_readNumber_82) <| dr_c (dg_iload_n (k := 3) rfl dX11_readNumber_83) <| dr_c (dg_iadd dX11_readNumber_84) <| dr_c (dg_ret dX11_readNumber_85) <| dr_n
theorem tk_199 : dm_AllC (dm_Good dm_tb RX11 cX11_readNumber 5 (some .int) false none) 0 cd_199 := dc_c (by decide) tr_199_0 <| dc_c (by decide) tr_199_1 <| dc_c (by decide) tr_199_2 <| dc_c (by decide) tr_199_3 <| dc_c (by decide) tr_199_4 <| dc_c (by decide) tr_199_5 <| dc_n
