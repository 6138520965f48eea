theorem dX0_init_0 : decode cX0_init 0 = .ok (.aload_n 0, 1) := by decide +kernel
theorem dX0_init_1 : decode cX0_init 1 = .ok (.invokespecial 3, 3) := by decide +kernel
theorem dX0_init_4 : decode cX0_init 4 = .ok (.aload_n 0, 1) := by decide +kernel
theorem dX0_init_5 : decode cX0_init 5 = .ok (.new 9, 3) := by decide +kernel
theorem dX0_init_8 : decode cX0_init 8 = .ok (.dup, 1) := by decide +kernel
theorem dX0_init_9 : decode cX0_init 9 = .ok (.sipush 2000, 3) := by decide +kernel
theorem dX0_init_12 : decode cX0_init 12 = .ok (.invokespecial 13, 3) := by decide +kernel
theorem dX0_init_15 : decode cX0_init 15 = .ok (.putfield 16, 3) := by decide +kernel
theorem dX0_init_18 : decode cX0_init 18 = .ok (.aload_n 0, 1) := by decide +kernel
theorem dX0_init_19 : decode cX0_init 19 = .ok (.new 9, 3) := by decide +kernel
theorem dX0_init_22 : decode cX0_init 22 = .ok (.dup, 1) := by decide +kernel
theorem dX0_init_23 : decode cX0_init 23 = .ok (.sipush 2000, 3) := by decide +kernel
theorem dX0_init_26 : decode cX0_init 26 = .ok (.invokespecial 13, 3) := by decide +kernel
theorem dX0_init_29 : decode cX0_init 29 = .ok (.putfield 20, 3) := by decide +kernel
theorem dX0_init_32 : decode cX0_init 32 = .ok (.aload_n 0, 1) := by decide +kernel
theorem dX0_init_33 : decode cX0_init 33 = .ok (.new 9, 3) := by decide +kernel
theorem dX0_init_36 : decode cX0_init 36 = .ok (.dup, 1) := by decide +kernel
theorem dX0_init_37 : decode cX0_init 37 = .ok (.sipush 2000, 3) := by decide +kernel
theorem dX0_init_40 : decode cX0_init 40 = .ok (.invokespecial 13, 3) := by decide +kernel
theorem dX0_init_43 : decode cX0_init 43 = .ok (.putfield 23, 3) := by decide +kernel
theorem dX0_init_46 : decode cX0_init 46 = .ok (.aload_n 0, 1) := by decide +kernel
theorem dX0_init_47 : decode cX0_init 47 = .ok (.new 9, 3) := by decide +kernel
theorem dX0_init_50 : decode cX0_init 50 = .ok (.dup, 1) := by decide +kernel
theorem dX0_init_51 : decode cX0_init 51 = .ok (.sipush 2000, 3) := by decide +kernel
theorem dX0_init_54 : decode cX0_init 54 = .ok (.invokespecial 13, 3) := by decide +kernel
theorem dX0_init_57 : decode cX0_init 57 = .ok (.putfield 26, 3) := by decide +kernel
theorem dX0_init_60 : decode cX0_init 60 = .ok (.aload_n 0, 1) := by decide +kernel
theorem dX0_init_61 : decode cX0_init 61 = .ok (.new 9, 3) := by decide +kernel
theorem dX0_init_64 : decode cX0_init 64 = .ok (.dup, 1) := by decide +kernel
theorem dX0_init_65 : decode cX0_init 65 = .ok (.sipush 2000, 3) := by decide +kernel
theorem dX0_init_68 : decode cX0_init 68 = .ok (.invokespecial 13, 3) := by decide +kernel
theorem dX0_init_71 : decode cX0_init 71 = .ok (.putfield 29, 3) := by decide +kernel
theorem dX0_init_74 : decode cX0_init 74 = .ok (.return_, 1) := by decide +kernel
def cd_0 : dm_Code := [[dm_ald 1 0, dm_oin 4, dm_no, dm_no, dm_ald 5 0, dm_new 8 3 nf_X4, dm_no, dm_no, dm_dup 9, dm_push 12 (.int 2000), dm_no, dm_no, dm_ini 15 44 1, dm_no, dm_no, dm_putf 18 0 0 (.object "SplitClocks$Numbers")],
  [dm_no, dm_no, dm_ald 19 0, dm_new 22 3 nf_X4, dm_no, dm_no, dm_dup 23, dm_push 26 (.int 2000), dm_no, dm_no, dm_ini 29 44 1, dm_no, dm_no, dm_putf 32 0 1 (.object "SplitClocks$Numbers"), dm_no, dm_no],
  [dm_ald 33 0, dm_new 36 3 nf_X4, dm_no, dm_no, dm_dup 37, dm_push 40 (.int 2000), dm_no, dm_no, dm_ini 43 44 1, dm_no, dm_no, dm_putf 46 0 2 (.object "SplitClocks$Numbers"), dm_no, dm_no, dm_ald 47 0, dm_new 50 3 nf_X4],
  [dm_no, dm_no, dm_dup 51, dm_push 54 (.int 2000), dm_no, dm_no, dm_ini 57 44 1, dm_no, dm_no, dm_putf 60 0 3 (.object "SplitClocks$Numbers"), dm_no, dm_no, dm_ald 61 0, dm_new 64 3 nf_X4, dm_no, dm_no],
  [dm_dup 65, dm_push 68 (.int 2000), dm_no, dm_no, dm_ini 71 44 1, dm_no, dm_no, dm_putf 74 0 4 (.object "SplitClocks$Numbers"), dm_no, dm_no, dm_vret]]
theorem tr_0_0 : dm_AllR (dm_Good dm_tb RX0 cX0_init 1 none true none) 0 [dm_ald 1 0, dm_oin 4, dm_no, dm_no, dm_ald 5 0, dm_new 8 3 nf_X4, dm_no, dm_no, dm_dup 9, dm_push 12 (.int 2000), dm_no, dm_no, dm_ini 15 44 1, dm_no, dm_no, dm_putf 18 0 0 (.object "SplitClocks$Numbers")] := dr_c (dg_aload_n (k := 0) rfl dX0_init_0) <| dr_c (dg_oin dX0_init_1 wd_167 wd_86 wd_87) <| dr_c (dg_no) <| dr_c (dg_no) <| dr_c (dg_aload_n (k := 0) rfl dX0_init_4) <| dr_c (dg_new (T := TX4) (C := RX4) (N := 2) (ty := tyX4) dX0_init_5 rfl iw_X4 tyX4_ok wd_168 wd_101 wd_63 rfl nv_X4 nz_X4) <| dr_c (dg_no) <| dr_c (dg_no) <| dr_c (dg_dup dX0_init_8) <| dr_c (dg_sipush (by decide) dX0_init_9) <| dr_c (dg_no) <| dr_c (dg_no) <| dr_c (dg_ini dX0_init_12 mo_44 rfl rfl wd_169 wd_104 pd_44) <| dr_c (dg_no) <| dr_c (dg_no) <| dr_c (dg_putF (T := TX0) (C := RX0) (N := 6) dX0_init_15 rfl (by decide) iw_X0 tyX0_ok nmX0 wd_170 rfl rfl rfl) <| dr_n
theorem tr_0_1 : dm_AllR (dm_Good dm_tb RX0 cX0_init 1 none true none) 16 [dm_no, dm_no, dm_ald 19 0, dm_new 22 3 nf_X4, dm_no, dm_no, dm_dup 23, dm_push 26 (.int 2000), dm_no, dm_no, dm_ini 29 44 1, dm_no, dm_no, dm_putf 32 0 1 (.object "SplitClocks$Numbers"), dm_no, dm_no] := dr_c (dg_no) <| dr_c (dg_no) <| dr_c (dg_aload_n (k := 0) rfl dX0_init_18) <| dr_c (dg_new (T := TX4) (C := RX4) (N := 2) (ty := tyX4) dX0_init_19 rfl iw_X4 tyX4_ok wd_168 wd_101 wd_63 rfl nv_X4 nz_X4) <| dr_c (dg_no) <| dr_c (dg_no) <| dr_c (dg_dup dX0_init_22) <| dr_c (dg_sipush (by decide) dX0_init_23) <| dr_c (dg_no) <| dr_c (dg_no) <| dr_c (dg_ini dX0_init_26 mo_44 rfl rfl wd_169 wd_104 pd_44) <| dr_c (dg_no) <| dr_c (dg_no) <| dr_c (dg_putF (T := TX0) (C := RX0) (N := 6) dX0_init_29 rfl (by decide) iw_X0 tyX0_ok nmX0 wd_171 rfl rfl rfl) <| dr_c (dg_no) <| dr_c (dg_no) <| dr_n
theorem tr_0_2 : dm_AllR (dm_Good dm_tb RX0 cX0_init 1 none true none) 32 [dm_ald 33 0, dm_new 36 3 nf_X4, dm_no, dm_no, dm_dup 37, dm_push 40 (.int 2000), dm_no, dm_no, dm_ini 43 44 1, dm_no, dm_no, dm_putf 46 0 2 (.object "SplitClocks$Numbers"), dm_no, dm_no, dm_ald 47 0, dm_new 50 3 nf_X4] := dr_c (dg_aload_n (k := 0) rfl dX0_init_32) <| dr_c (dg_new (T := TX4) (C := RX4) (N := 2) (ty := tyX4) dX0_init_33 rfl iw_X4 tyX4_ok wd_168 wd_101 wd_63 rfl nv_X4 nz_X4) <| dr_c (dg_no) <| dr_c (dg_no) <| dr_c (dg_dup dX0_init_36) <| dr_c (dg_sipush (by decide) dX0_init_37) <| dr_c (dg_no) <| dr_c (dg_no) <| dr_c (dg_ini dX0_init_40 mo_44 rfl rfl wd_169 wd_104 pd_44) <| dr_c (dg_no) <| dr_c (dg_no) <| dr_c (dg_putF (T := TX0) (C := RX0) (N := 6) dX0_init_43 rfl (by decide) iw_X0 tyX0_ok nmX0 wd_172 rfl rfl rfl) <| dr_c (dg_no) <| dr_c (dg_no) <| dr_c (dg_aload_n (k := 0) rfl dX0_init_46) <| dr_c (dg_new (T := TX4) (C := RX4) (N := 2) (ty := tyX4) dX0_init_47 rfl iw_X4 tyX4_ok wd_168 wd_101 wd_63 rfl nv_X4 nz_X4) <| dr_n
theorem tr_0_3 : dm_AllR (dm_Good dm_tb RX0 cX0_init 1 none true none) 48 [dm_no, dm_no, dm_dup 51, dm_push 54 (.int 2000), dm_no, dm_no, dm_ini 57 44 1, dm_no, dm_no, dm_putf 60 0 3 (.object "SplitClocks$Numbers"), dm_no, dm_no, dm_ald 61 0, dm_new 64 3 nf_X4, dm_no, dm_no] := dr_c (dg_no) <| dr_c (dg_no) <| dr_c (dg_dup dX0_init_50) <| dr_c (dg_sipush (by decide) dX0_init_51) <| dr_c (dg_no) <| dr_c (dg_no) <| dr_c (dg_ini dX0_init_54 mo_44 rfl rfl wd_169 wd_104 pd_44) <| dr_c (dg_no) <| dr_c (dg_no) <| dr_c (dg_putF (T := TX0) (C := RX0) (N := 6) dX0_init_57 rfl (by decide) iw_X0 tyX0_ok nmX0 wd_173 rfl rfl rfl) <| dr_c (dg_no) <| dr_c (dg_no) <| dr_c (dg_aload_n (k := 0) rfl dX0_init_60) <| dr_c (dg_new (T := TX4) (C := RX4) (N := 2) (ty := tyX4) dX0_init_61 rfl iw_X4 tyX4_ok wd_168 wd_101 wd_63 rfl nv_X4 nz_X4) <| dr_c (dg_no) <| dr_c (dg_no) <| dr_n
theorem tr_0_4 : dm_AllR (dm_Good dm_tb RX0 cX0_init 1 none true none) 64 [dm_dup 65, dm_push 68 (.int 2000), dm_no, dm_no, dm_ini 71 44 1, dm_no, dm_no, dm_putf 74 0 4 (.object "SplitClocks$Numbers"), dm_no, dm_no, dm_vret] := dr_c (dg_dup dX0_init_64) <| dr_c (dg_sipush (by decide) dX0_init_65) <| dr_c (dg_no) <| dr_c (dg_no) <| dr_c (dg_ini dX0_init_68 mo_44 rfl rfl wd_169 wd_104 pd_44) <| dr_c (dg_no) <| dr_c (dg_no) <| dr_c (dg_putF (T := TX0) (C := RX0) (N := 6) dX0_init_71 rfl (by decide) iw_X0 tyX0_ok nmX0 wd_174 rfl rfl rfl) <| dr_c (dg_no) <| dr_c (dg_no) <| dr_c (dg_vret dX0_init_74) <| dr_n
theorem tk_0 : dm_AllC (dm_Good dm_tb RX0 cX0_init 1 none true none) 0 cd_0 := dc_c (by decide) tr_0_0 <| dc_c (by decide) tr_0_1 <| dc_c (by decide) tr_0_2 <| dc_c (by decide) tr_0_3 <| dc_c (by decide) tr_0_4 <| dc_n
theorem dX0_clear_0 : decode cX0_clear 0 = .ok (.aload_n 0, 1) := by decide +kernel
theorem dX0_clear_1 : decode cX0_clear 1 = .ok (.iconst 0, 1) := by decide +kernel
theorem dX0_clear_2 : decode cX0_clear 2 = .ok (.putfield 32, 3) := by decide +kernel
theorem dX0_clear_5 : decode cX0_clear 5 = .ok (.return_, 1) := by decide +kernel
def cd_1 : dm_Code := [[dm_ald 1 0, dm_push 2 (.int 0), dm_putf 5 0 5 .int, dm_no, dm_no, dm_vret]]
theorem tr_1_0 : dm_AllR (dm_Good dm_tb RX0 cX0_clear 1 none false none) 0 [dm_ald 1 0, dm_push 2 (.int 0), dm_putf 5 0 5 .int, dm_no, dm_no, dm_vret] := dr_c (dg_aload_n (k := 0) rfl dX0_clear_0) <| dr_c (dg_iconst (by decide) dX0_clear_1) <| dr_c (dg_putf (T := TX0) (C := RX0) (N := 6) dX0_clear_2 rfl (by decide) iw_X0 tyX0_ok nmX0 wd_175 rfl rfl) <| dr_c (dg_no) <| dr_c (dg_no) <| dr_c (dg_vret dX0_clear_5) <| dr_n
theorem tk_1 : dm_AllC (dm_Good dm_tb RX0 cX0_clear 1 none false none) 0 cd_1 := dc_c (by decide) tr_1_0 <| dc_n
theorem dX0_size_0 : decode cX0_size 0 = .ok (.aload_n 0, 1) := by decide +kernel
theorem dX0_size_1 : decode cX0_size 1 = .ok (.getfield 32, 3) := by decide +kernel
theorem dX0_size_4 : decode cX0_size 4 = .ok (.ireturn, 1) := by decide +kernel
def cd_2 : dm_Code := [[dm_ald 1 0, dm_getf 4 0 5, dm_no, dm_no, dm_ret .int]]
theorem tr_2_0 : dm_AllR (dm_Good dm_tb RX0 cX0_size 1 (some .int) false none) 0 [dm_ald 1 0, dm_getf 4 0 5, dm_no, dm_no, dm_ret .int] := dr_c (dg_aload_n (k := 0) rfl dX0_size_0) <| dr_c (dg_getf (T := TX0) (C := RX0) (N := 6) dX0_size_1 rfl (by decide) iw_X0 wd_175) <| dr_c (dg_no) <| dr_c (dg_no) <| dr_c (dg_ret dX0_size_4) <| dr_n
theorem tk_2 : dm_AllC (dm_Good dm_tb RX0 cX0_size 1 (some .int) false none) 0 cd_2 := dc_c (by decide) tr_2_0 <| dc_n
theorem dX0_note_0 : decode cX0_note 0 = .ok (.aload_n 0, 1) := by decide +kernel
theorem dX0_note_1 : decode cX0_note 1 = .ok (.getfield 16, 3) := by decide +kernel
theorem dX0_note_4 : decode cX0_note 4 = .ok (.aload_n 0, 1) := by decide +kernel
theorem dX0_note_5 : decode cX0_note 5 = .ok (.getfield 32, 3) := by decide +kernel
theorem dX0_note_8 : decode cX0_note 8 = .ok (.iload_n 2, 1) := by decide +kernel
theorem dX0_note_9 : decode cX0_note 9 = .ok (.invokevirtual 36, 3) := by decide +kernel
theorem dX0_note_12 : decode cX0_note 12 = .ok (.aload_n 0, 1) := by decide +kernel
theorem dX0_note_13 : decode cX0_note 13 = .ok (.getfield 20, 3) := by decide +kernel
theorem dX0_note_16 : decode cX0_note 16 = .ok (.aload_n 0, 1) := by decide +kernel
theorem dX0_note_17 : decode cX0_note 17 = .ok (.getfield 32, 3) := by decide +kernel
theorem dX0_note_20 : decode cX0_note 20 = .ok (.iload_n 3, 1) := by decide +kernel
theorem dX0_note_21 : decode cX0_note 21 = .ok (.invokevirtual 36, 3) := by decide +kernel
theorem dX0_note_24 : decode cX0_note 24 = .ok (.aload_n 0, 1) := by decide +kernel
theorem dX0_note_25 : decode cX0_note 25 = .ok (.getfield 23, 3) := by decide +kernel
theorem dX0_note_28 : decode cX0_note 28 = .ok (.aload_n 0, 1) := by decide +kernel
theorem dX0_note_29 : decode cX0_note 29 = .ok (.getfield 32, 3) := by decide +kernel
theorem dX0_note_32 : decode cX0_note 32 = .ok (.aload_n 1, 1) := by decide +kernel
theorem dX0_note_33 : decode cX0_note 33 = .ok (.iload_n 3, 1) := by decide +kernel
theorem dX0_note_34 : decode cX0_note 34 = .ok (.invokevirtual 40, 3) := by decide +kernel
theorem dX0_note_37 : decode cX0_note 37 = .ok (.invokevirtual 36, 3) := by decide +kernel
theorem dX0_note_40 : decode cX0_note 40 = .ok (.aload_n 0, 1) := by decide +kernel
theorem dX0_note_41 : decode cX0_note 41 = .ok (.getfield 26, 3) := by decide +kernel
theorem dX0_note_44 : decode cX0_note 44 = .ok (.aload_n 0, 1) := by decide +kernel
theorem dX0_note_45 : decode cX0_note 45 = .ok (.getfield 32, 3) := by decide +kernel
theorem dX0_note_48 : decode cX0_note 48 = .ok (.iload 4, 2) := by decide +kernel
theorem dX0_note_50 : decode cX0_note 50 = .ok (.invokevirtual 36, 3) := by decide +kernel
theorem dX0_note_53 : decode cX0_note 53 = .ok (.aload_n 0, 1) := by decide +kernel
theorem dX0_note_54 : decode cX0_note 54 = .ok (.getfield 29, 3) := by decide +kernel
theorem dX0_note_57 : decode cX0_note 57 = .ok (.aload_n 0, 1) := by decide +kernel
theorem dX0_note_58 : decode cX0_note 58 = .ok (.getfield 32, 3) := by decide +kernel
theorem dX0_note_61 : decode cX0_note 61 = .ok (.aload_n 1, 1) := by decide +kernel
theorem dX0_note_62 : decode cX0_note 62 = .ok (.iload 4, 2) := by decide +kernel
theorem dX0_note_64 : decode cX0_note 64 = .ok (.invokevirtual 40, 3) := by decide +kernel
theorem dX0_note_67 : decode cX0_note 67 = .ok (.invokevirtual 36, 3) := by decide +kernel
theorem dX0_note_70 : decode cX0_note 70 = .ok (.aload_n 0, 1) := by decide +kernel
theorem dX0_note_71 : decode cX0_note 71 = .ok (.dup, 1) := by decide +kernel
theorem dX0_note_72 : decode cX0_note 72 = .ok (.getfield 32, 3) := by decide +kernel
theorem dX0_note_75 : decode cX0_note 75 = .ok (.iconst 1, 1) := by decide +kernel
theorem dX0_note_76 : decode cX0_note 76 = .ok (.iadd, 1) := by decide +kernel
theorem dX0_note_77 : decode cX0_note 77 = .ok (.putfield 32, 3) := by decide +kernel
theorem dX0_note_80 : decode cX0_note 80 = .ok (.return_, 1) := by decide +kernel
def cd_3 : dm_Code := [[dm_ald 1 0, dm_getf 4 0 0, dm_no, dm_no, dm_ald 5 0, dm_getf 8 0 5, dm_no, dm_no, dm_ild 9 2, dm_inv 12 46 2 3, dm_no, dm_no, dm_ald 13 0, dm_getf 16 0 1, dm_no, dm_no],
  [dm_ald 17 0, dm_getf 20 0 5, dm_no, dm_no, dm_ild 21 3, dm_inv 24 46 2 3, dm_no, dm_no, dm_ald 25 0, dm_getf 28 0 2, dm_no, dm_no, dm_ald 29 0, dm_getf 32 0 5, dm_no, dm_no],
  [dm_ald 33 1, dm_ild 34 3, dm_inv 37 23 1 2, dm_no, dm_no, dm_inv 40 46 2 3, dm_no, dm_no, dm_ald 41 0, dm_getf 44 0 3, dm_no, dm_no, dm_ald 45 0, dm_getf 48 0 5, dm_no, dm_no],
  [dm_ild 50 4, dm_no, dm_inv 53 46 2 3, dm_no, dm_no, dm_ald 54 0, dm_getf 57 0 4, dm_no, dm_no, dm_ald 58 0, dm_getf 61 0 5, dm_no, dm_no, dm_ald 62 1, dm_ild 64 4, dm_no],
  [dm_inv 67 23 1 2, dm_no, dm_no, dm_inv 70 46 2 3, dm_no, dm_no, dm_ald 71 0, dm_dup 72, dm_getf 75 0 5, dm_no, dm_no, dm_push 76 (.int 1), dm_ii 77 (fun x y => x + y), dm_putf 80 0 5 .int, dm_no, dm_no],
  [dm_vret]]
theorem tr_3_0 : dm_AllR (dm_Good dm_tb RX0 cX0_note 5 none false none) 0 [dm_ald 1 0, dm_getf 4 0 0, dm_no, dm_no, dm_ald 5 0, dm_getf 8 0 5, dm_no, dm_no, dm_ild 9 2, dm_inv 12 46 2 3, dm_no, dm_no, dm_ald 13 0, dm_getf 16 0 1, dm_no, dm_no] := dr_c (dg_aload_n (k := 0) rfl dX0_note_0) <| dr_c (dg_getf (T := TX0) (C := RX0) (N := 6) dX0_note_1 rfl (by decide) iw_X0 wd_170) <| dr_c (dg_no) <| dr_c (dg_no) <| dr_c (dg_aload_n (k := 0) rfl dX0_note_4) <| dr_c (dg_getf (T := TX0) (C := RX0) (N := 6) dX0_note_5 rfl (by decide) iw_X0 wd_175) <| dr_c (dg_no) <| dr_c (dg_no) <| dr_c (dg_iload_n (k := 2) rfl dX0_note_8) <| dr_c (dg_inv dX0_note_9 mo_46 rfl rfl wd_443 wd_252 wd_253 pd_46) <| dr_c (dg_no) <| dr_c (dg_no) <| dr_c (dg_aload_n (k := 0) rfl dX0_note_12) <| dr_c (dg_getf (T := TX0) (C := RX0) (N := 6) dX0_note_13 rfl (by decide) iw_X0 wd_171) <| dr_c (dg_no) <| dr_c (dg_no) <| dr_n
theorem tr_3_1 : dm_AllR (dm_Good dm_tb RX0 cX0_note 5 none false none) 16 [dm_ald 17 0, dm_getf 20 0 5, dm_no, dm_no, dm_ild 21 3, dm_inv 24 46 2 3, dm_no, dm_no, dm_ald 25 0, dm_getf 28 0 2, dm_no, dm_no, dm_ald 29 0, dm_getf 32 0 5, dm_no, dm_no] := dr_c (dg_aload_n (k := 0) rfl dX0_note_16) <| dr_c (dg_getf (T := TX0) (C := RX0) (N := 6) dX0_note_17 rfl (by decide) iw_X0 wd_175) <| dr_c (dg_no) <| dr_c (dg_no) <| dr_c (dg_iload_n (k := 3) rfl dX0_note_20) <| dr_c (dg_inv dX0_note_21 mo_46 rfl rfl wd_443 wd_252 wd_253 pd_46) <| dr_c (dg_no) <| dr_c (dg_no) <| dr_c (dg_aload_n (k := 0) rfl dX0_note_24) <| dr_c (dg_getf (T := TX0) (C := RX0) (N := 6) dX0_note_25 rfl (by decide) iw_X0 wd_172) <| dr_c (dg_no) <| dr_c (dg_no) <| dr_c (dg_aload_n (k := 0) rfl dX0_note_28) <| dr_c (dg_getf (T := TX0) (C := RX0) (N := 6) dX0_note_29 rfl (by decide) iw_X0 wd_175) <| dr_c (dg_no) <| dr_c (dg_no) <| dr_n
theorem tr_3_2 : dm_AllR (dm_Good dm_tb RX0 cX0_note 5 none false none) 32 [dm_ald 33 1, dm_ild 34 3, dm_inv 37 23 1 2, dm_no, dm_no, dm_inv 40 46 2 3, dm_no, dm_no, dm_ald 41 0, dm_getf 44 0 3, dm_no, dm_no, dm_ald 45 0, dm_getf 48 0 5, dm_no, dm_no] := dr_c (dg_aload_n (k := 1) rfl dX0_note_32) <| dr_c (dg_iload_n (k := 3) rfl dX0_note_33) <| dr_c (dg_inv dX0_note_34 mo_23 rfl rfl wd_444 wd_365 wd_366 pd_23) <| dr_c (dg_no) <| dr_c (dg_no) <| dr_c (dg_inv dX0_note_37 mo_46 rfl rfl wd_443 wd_252 wd_253 pd_46) <| dr_c (dg_no) <| dr_c (dg_no) <| dr_c (dg_aload_n (k := 0) rfl dX0_note_40) <| dr_c (dg_getf (T := TX0) (C := RX0) (N := 6) dX0_note_41 rfl (by decide) iw_X0 wd_173) <| dr_c (dg_no) <| dr_c (dg_no) <| dr_c (dg_aload_n (k := 0) rfl dX0_note_44) <| dr_c (dg_getf (T := TX0) (C := RX0) (N := 6) dX0_note_45 rfl (by decide) iw_X0 wd_175) <| dr_c (dg_no) <| dr_c (dg_no) <| dr_n
theorem tr_3_3 : dm_AllR (dm_Good dm_tb RX0 cX0_note 5 none false none) 48 [dm_ild 50 4, dm_no, dm_inv 53 46 2 3, dm_no, dm_no, dm_ald 54 0, dm_getf 57 0 4, dm_no, dm_no, dm_ald 58 0, dm_getf 61 0 5, dm_no, dm_no, dm_ald 62 1, dm_ild 64 4, dm_no] := dr_c (dg_iload dX0_note_48) <| dr_c (dg_no) <| dr_c (dg_inv dX0_note_50 mo_46 rfl rfl wd_443 wd_252 wd_253 pd_46) <| dr_c (dg_no) <| dr_c (dg_no) <| dr_c (dg_aload_n (k := 0) rfl dX0_note_53) <| dr_c (dg_getf (T := TX0) (C := RX0) (N := 6) dX0_note_54 rfl (by decide) iw_X0 wd_174) <| dr_c (dg_no) <| dr_c (dg_no) <| dr_c (dg_aload_n (k := 0) rfl dX0_note_57) <| dr_c (dg_getf (T := TX0) (C := RX0) (N := 6) dX0_note_58 rfl (by decide) iw_X0 wd_175) <| dr_c (dg_no) <| dr_c (dg_no) <| dr_c (dg_aload_n (k := 1) rfl dX0_note_61) <| dr_c (dg_iload dX0_note_62) <| dr_c (dg_no) <| dr_n
theorem tr_3_4 : dm_AllR (dm_Good dm_tb RX0 cX0_note 5 none false none) 64 [dm_inv 67 23 1 2, dm_no, dm_no, dm_inv 70 46 2 3, dm_no, dm_no, dm_ald 71 0, dm_dup 72, dm_getf 75 0 5, dm_no, dm_no, dm_push 76 (.int 1), dm_ii 77 (fun x y => x + y), dm_putf 80 0 5 .int, dm_no, dm_no] := dr_c (dg_inv dX0_note_64 mo_23 rfl rfl wd_444 wd_365 wd_366 pd_23) <| dr_c (dg_no) <| dr_c (dg_no) <| dr_c (dg_inv dX0_note_67 mo_46 rfl rfl wd_443 wd_252 wd_253 pd_46) <| dr_c (dg_no) <| dr_c (dg_no) <| dr_c (dg_aload_n (k := 0) rfl dX0_note_70) <| dr_c (dg_dup dX0_note_71) <| dr_c (dg_getf (T := TX0) (C := RX0) (N := 6) dX0_note_72 rfl (by decide) iw_X0 wd_175) <| dr_c (dg_no) <| dr_c (dg_no) <| dr_c (dg_iconst (by decide) dX0_note_75) <| dr_c (dg_iadd dX0_note_76) <| dr_c (dg_putf (T := TX0) (C := RX0) (N := 6) dX0_note_77 rfl (by decide) iw_X0 tyX0_ok nmX0 wd_175 rfl rfl) <| dr_c (dg_no) <| dr_c (dg_no) <| dr_n
theorem tr_3_5 : dm_AllR (dm_Good dm_tb RX0 cX0_note 5 none false none) 80 [dm_vret] := dr_c (dg_vret dX0_note_80) <| dr_n
theorem tk_3 : dm_AllC (dm_Good dm_tb RX0 cX0_note 5 none false none) 0 cd_3 := dc_c (by decide) tr_3_0 <| dc_c (by decide) tr_3_1 <| dc_c (by decide) tr_3_2 <| dc_c (by decide) tr_3_3 <| dc_c (by decide) tr_3_4 <| dc_c (by decide) tr_3_5 <| dc_n
theorem dX0_takeBack_0 : decode cX0_takeBack 0 = .ok (.aload_n 0, 1) := by decide +kernel
theorem dX0_takeBack_1 : decode cX0_takeBack 1 = .ok (.getfield 32, 3) := by decide +kernel
theorem dX0_takeBack_4 : decode cX0_takeBack 4 = .ok (.ifCond .ne 5, 3) := by decide +kernel
theorem dX0_takeBack_7 : decode cX0_takeBack 7 = .ok (.iconst 0, 1) := by decide +kernel
theorem dX0_takeBack_8 : decode cX0_takeBack 8 = .ok (.ireturn, 1) := by decide +kernel
theorem dX0_takeBack_9 : decode cX0_takeBack 9 = .ok (.aload_n 0, 1) := by decide +kernel
theorem dX0_takeBack_10 : decode cX0_takeBack 10 = .ok (.dup, 1) := by decide +kernel
theorem dX0_takeBack_11 : decode cX0_takeBack 11 = .ok (.getfield 32, 3) := by decide +kernel
theorem dX0_takeBack_14 : decode cX0_takeBack 14 = .ok (.iconst 1, 1) := by decide +kernel
theorem dX0_takeBack_15 : decode cX0_takeBack 15 = .ok (.isub, 1) := by decide +kernel
theorem dX0_takeBack_16 : decode cX0_takeBack 16 = .ok (.putfield 32, 3) := by decide +kernel
theorem dX0_takeBack_19 : decode cX0_takeBack 19 = .ok (.aload_n 1, 1) := by decide +kernel
theorem dX0_takeBack_20 : decode cX0_takeBack 20 = .ok (.aload_n 0, 1) := by decide +kernel
theorem dX0_takeBack_21 : decode cX0_takeBack 21 = .ok (.getfield 16, 3) := by decide +kernel
theorem dX0_takeBack_24 : decode cX0_takeBack 24 = .ok (.aload_n 0, 1) := by decide +kernel
theorem dX0_takeBack_25 : decode cX0_takeBack 25 = .ok (.getfield 32, 3) := by decide +kernel
theorem dX0_takeBack_28 : decode cX0_takeBack 28 = .ok (.invokevirtual 46, 3) := by decide +kernel
theorem dX0_takeBack_31 : decode cX0_takeBack 31 = .ok (.invokevirtual 49, 3) := by decide +kernel
theorem dX0_takeBack_34 : decode cX0_takeBack 34 = .ok (.aload_n 1, 1) := by decide +kernel
theorem dX0_takeBack_35 : decode cX0_takeBack 35 = .ok (.aload_n 0, 1) := by decide +kernel
theorem dX0_takeBack_36 : decode cX0_takeBack 36 = .ok (.getfield 20, 3) := by decide +kernel
theorem dX0_takeBack_39 : decode cX0_takeBack 39 = .ok (.aload_n 0, 1) := by decide +kernel
theorem dX0_takeBack_40 : decode cX0_takeBack 40 = .ok (.getfield 32, 3) := by decide +kernel
theorem dX0_takeBack_43 : decode cX0_takeBack 43 = .ok (.invokevirtual 46, 3) := by decide +kernel
theorem dX0_takeBack_46 : decode cX0_takeBack 46 = .ok (.aload_n 0, 1) := by decide +kernel
theorem dX0_takeBack_47 : decode cX0_takeBack 47 = .ok (.getfield 23, 3) := by decide +kernel
theorem dX0_takeBack_50 : decode cX0_takeBack 50 = .ok (.aload_n 0, 1) := by decide +kernel
theorem dX0_takeBack_51 : decode cX0_takeBack 51 = .ok (.getfield 32, 3) := by decide +kernel
theorem dX0_takeBack_54 : decode cX0_takeBack 54 = .ok (.invokevirtual 46, 3) := by decide +kernel
theorem dX0_takeBack_57 : decode cX0_takeBack 57 = .ok (.invokevirtual 52, 3) := by decide +kernel
theorem dX0_takeBack_60 : decode cX0_takeBack 60 = .ok (.aload_n 1, 1) := by decide +kernel
theorem dX0_takeBack_61 : decode cX0_takeBack 61 = .ok (.aload_n 0, 1) := by decide +kernel
theorem dX0_takeBack_62 : decode cX0_takeBack 62 = .ok (.getfield 26, 3) := by decide +kernel
theorem dX0_takeBack_65 : decode cX0_takeBack 65 = .ok (.aload_n 0, 1) := by decide +kernel
theorem dX0_takeBack_66 : decode cX0_takeBack 66 = .ok (.getfield 32, 3) := by decide +kernel
theorem dX0_takeBack_69 : decode cX0_takeBack 69 = .ok (.invokevirtual 46, 3) := by decide +kernel
theorem dX0_takeBack_72 : decode cX0_takeBack 72 = .ok (.aload_n 0, 1) := by decide +kernel
theorem dX0_takeBack_73 : decode cX0_takeBack 73 = .ok (.getfield 29, 3) := by decide +kernel
theorem dX0_takeBack_76 : decode cX0_takeBack 76 = .ok (.aload_n 0, 1) := by decide +kernel
theorem dX0_takeBack_77 : decode cX0_takeBack 77 = .ok (.getfield 32, 3) := by decide +kernel
theorem dX0_takeBack_80 : decode cX0_takeBack 80 = .ok (.invokevirtual 46, 3) := by decide +kernel
theorem dX0_takeBack_83 : decode cX0_takeBack 83 = .ok (.invokevirtual 52, 3) := by decide +kernel
theorem dX0_takeBack_86 : decode cX0_takeBack 86 = .ok (.iconst 1, 1) := by decide +kernel
theorem dX0_takeBack_87 : decode cX0_takeBack 87 = .ok (.ireturn, 1) := by decide +kernel
def cd_4 : dm_Code := [[dm_ald 1 0, dm_getf 4 0 5, dm_no, dm_no, dm_if_ne 7 9, dm_no, dm_no, dm_push 8 (.int 0), dm_ret .boolean, dm_ald 10 0, dm_dup 11, dm_getf 14 0 5, dm_no, dm_no, dm_push 15 (.int 1), dm_ii 16 (fun x y => x - y)],
  [dm_putf 19 0 5 .int, dm_no, dm_no, dm_ald 20 1, dm_ald 21 0, dm_getf 24 0 0, dm_no, dm_no, dm_ald 25 0, dm_getf 28 0 5, dm_no, dm_no, dm_inv 31 45 1 3, dm_no, dm_no, dm_inv 34 16 1 2],
  [dm_no, dm_no, dm_ald 35 1, dm_ald 36 0, dm_getf 39 0 1, dm_no, dm_no, dm_ald 40 0, dm_getf 43 0 5, dm_no, dm_no, dm_inv 46 45 1 3, dm_no, dm_no, dm_ald 47 0, dm_getf 50 0 2],
  [dm_no, dm_no, dm_ald 51 0, dm_getf 54 0 5, dm_no, dm_no, dm_inv 57 45 1 3, dm_no, dm_no, dm_inv 60 24 2 2, dm_no, dm_no, dm_ald 61 1, dm_ald 62 0, dm_getf 65 0 3, dm_no],
  [dm_no, dm_ald 66 0, dm_getf 69 0 5, dm_no, dm_no, dm_inv 72 45 1 3, dm_no, dm_no, dm_ald 73 0, dm_getf 76 0 4, dm_no, dm_no, dm_ald 77 0, dm_getf 80 0 5, dm_no, dm_no],
  [dm_inv 83 45 1 3, dm_no, dm_no, dm_inv 86 24 2 2, dm_no, dm_no, dm_push 87 (.int 1), dm_ret .boolean]]
theorem tr_4_0 : dm_AllR (dm_Good dm_tb RX0 cX0_takeBack 2 (some .boolean) false none) 0 [dm_ald 1 0, dm_getf 4 0 5, dm_no, dm_no, dm_if_ne 7 9, dm_no, dm_no, dm_push 8 (.int 0), dm_ret .boolean, dm_ald 10 0, dm_dup 11, dm_getf 14 0 5, dm_no, dm_no, dm_push 15 (.int 1), dm_ii 16 (fun x y => x - y)] := dr_c (dg_aload_n (k := 0) rfl dX0_takeBack_0) <| dr_c (dg_getf (T := TX0) (C := RX0) (N := 6) dX0_takeBack_1 rfl (by decide) iw_X0 wd_175) <| dr_c (dg_no) <| dr_c (dg_no) <| dr_c (dg_if_ne (by decide) dX0_takeBack_4) <| dr_c (dg_no) <| dr_c (dg_no) <| dr_c (dg_iconst (by decide) dX0_takeBack_7) <| dr_c (dg_ret dX0_takeBack_8) <| dr_c (dg_aload_n (k := 0) rfl dX0_takeBack_9) <| dr_c (dg_dup dX0_takeBack_10) <| dr_c (dg_getf (T := TX0) (C := RX0) (N := 6) dX0_takeBack_11 rfl (by decide) iw_X0 wd_175) <| dr_c (dg_no) <| dr_c (dg_no) <| dr_c (dg_iconst (by decide) dX0_takeBack_14) <| dr_c (dg_isub dX0_takeBack_15) <| dr_n
theorem tr_4_1 : dm_AllR (dm_Good dm_tb RX0 cX0_takeBack 2 (some .boolean) false none) 16 [dm_putf 19 0 5 .int, dm_no, dm_no, dm_ald 20 1, dm_ald 21 0, dm_getf 24 0 0, dm_no, dm_no, dm_ald 25 0, dm_getf 28 0 5, dm_no, dm_no, dm_inv 31 45 1 3, dm_no, dm_no, dm_inv 34 16 1 2] := dr_c (dg_putf (T := TX0) (C := RX0) (N := 6) dX0_takeBack_16 rfl (by decide) iw_X0 tyX0_ok nmX0 wd_175 rfl rfl) <| dr_c (dg_no) <| dr_c (dg_no) <| dr_c (dg_aload_n (k := 1) rfl dX0_takeBack_19) <| dr_c (dg_aload_n (k := 0) rfl dX0_takeBack_20) <| dr_c (dg_getf (T := TX0) (C := RX0) (N := 6) dX0_takeBack_21 rfl (by decide) iw_X0 wd_170) <| dr_c (dg_no) <| dr_c (dg_no) <| dr_c (dg_aload_n (k := 0) rfl dX0_takeBack_24) <| dr_c (dg_getf (T := TX0) (C := RX0) (N := 6) dX0_takeBack_25 rfl (by decide) iw_X0 wd_175) <| dr_c (dg_no) <| dr_c (dg_no) <| dr_c (dg_inv dX0_takeBack_28 mo_45 rfl rfl wd_572 wd_285 wd_286 pd_45) <| dr_c (dg_no) <| dr_c (dg_no) <| dr_c (dg_inv dX0_takeBack_31 mo_16 rfl rfl wd_573 wd_432 wd_433 pd_16) <| dr_n
theorem tr_4_2 : dm_AllR (dm_Good dm_tb RX0 cX0_takeBack 2 (some .boolean) false none) 32 [dm_no, dm_no, dm_ald 35 1, dm_ald 36 0, dm_getf 39 0 1, dm_no, dm_no, dm_ald 40 0, dm_getf 43 0 5, dm_no, dm_no, dm_inv 46 45 1 3, dm_no, dm_no, dm_ald 47 0, dm_getf 50 0 2] := dr_c (dg_no) <| dr_c (dg_no) <| dr_c (dg_aload_n (k := 1) rfl dX0_takeBack_34) <| dr_c (dg_aload_n (k := 0) rfl dX0_takeBack_35) <| dr_c (dg_getf (T := TX0) (C := RX0) (N := 6) dX0_takeBack_36 rfl (by decide) iw_X0 wd_171) <| dr_c (dg_no) <| dr_c (dg_no) <| dr_c (dg_aload_n (k := 0) rfl dX0_takeBack_39) <| dr_c (dg_getf (T := TX0) (C := RX0) (N := 6) dX0_takeBack_40 rfl (by decide) iw_X0 wd_175) <| dr_c (dg_no) <| dr_c (dg_no) <| dr_c (dg_inv dX0_takeBack_43 mo_45 rfl rfl wd_572 wd_285 wd_286 pd_45) <| dr_c (dg_no) <| dr_c (dg_no) <| dr_c (dg_aload_n (k := 0) rfl dX0_takeBack_46) <| dr_c (dg_getf (T := TX0) (C := RX0) (N := 6) dX0_takeBack_47 rfl (by decide) iw_X0 wd_172) <| dr_n
theorem tr_4_3 : dm_AllR (dm_Good dm_tb RX0 cX0_takeBack 2 (some .boolean) false none) 48 [dm_no, dm_no, dm_ald 51 0, dm_getf 54 0 5, dm_no, dm_no, dm_inv 57 45 1 3, dm_no, dm_no, dm_inv 60 24 2 2, dm_no, dm_no, dm_ald 61 1, dm_ald 62 0, dm_getf 65 0 3, dm_no] := dr_c (dg_no) <| dr_c (dg_no) <| dr_c (dg_aload_n (k := 0) rfl dX0_takeBack_50) <| dr_c (dg_getf (T := TX0) (C := RX0) (N := 6) dX0_takeBack_51 rfl (by decide) iw_X0 wd_175) <| dr_c (dg_no) <| dr_c (dg_no) <| dr_c (dg_inv dX0_takeBack_54 mo_45 rfl rfl wd_572 wd_285 wd_286 pd_45) <| dr_c (dg_no) <| dr_c (dg_no) <| dr_c (dg_inv dX0_takeBack_57 mo_24 rfl rfl wd_574 wd_450 wd_451 pd_24) <| dr_c (dg_no) <| dr_c (dg_no) <| dr_c (dg_aload_n (k := 1) rfl dX0_takeBack_60) <| dr_c (dg_aload_n (k := 0) rfl dX0_takeBack_61) <| dr_c (dg_getf (T := TX0) (C := RX0) (N := 6) dX0_takeBack_62 rfl (by decide) iw_X0 wd_173) <| dr_c (dg_no) <| dr_n
theorem tr_4_4 : dm_AllR (dm_Good dm_tb RX0 cX0_takeBack 2 (some .boolean) false none) 64 [dm_no, dm_ald 66 0, dm_getf 69 0 5, dm_no, dm_no, dm_inv 72 45 1 3, dm_no, dm_no, dm_ald 73 0, dm_getf 76 0 4, dm_no, dm_no, dm_ald 77 0, dm_getf 80 0 5, dm_no, dm_no] := dr_c (dg_no) <| dr_c (dg_aload_n (k := 0) rfl dX0_takeBack_65) <| dr_c (dg_getf (T := TX0) (C := RX0) (N := 6) dX0_takeBack_66 rfl (by decide) iw_X0 wd_175) <| dr_c (dg_no) <| dr_c (dg_no) <| dr_c (dg_inv dX0_takeBack_69 mo_45 rfl rfl wd_572 wd_285 wd_286 pd_45) <| dr_c (dg_no) <| dr_c (dg_no) <| dr_c (dg_aload_n (k := 0) rfl dX0_takeBack_72) <| dr_c (dg_getf (T := TX0) (C := RX0) (N := 6) dX0_takeBack_73 rfl (by decide) iw_X0 wd_174) <| dr_c (dg_no) <| dr_c (dg_no) <| dr_c (dg_aload_n (k := 0) rfl dX0_takeBack_76) <| dr_c (dg_getf (T := TX0) (C := RX0) (N := 6) dX0_takeBack_77 rfl (by decide) iw_X0 wd_175) <| dr_c (dg_no) <| dr_c (dg_no) <| dr_n
theorem tr_4_5 : dm_AllR (dm_Good dm_tb RX0 cX0_takeBack 2 (some .boolean) false none) 80 [dm_inv 83 45 1 3, dm_no, dm_no, dm_inv 86 24 2 2, dm_no, dm_no, dm_push 87 (.int 1), dm_ret .boolean] := dr_c (dg_inv dX0_takeBack_80 mo_45 rfl rfl wd_572 wd_285 wd_286 pd_45) <| dr_c (dg_no) <| dr_c (dg_no) <| dr_c (dg_inv dX0_takeBack_83 mo_24 rfl rfl wd_574 wd_450 wd_451 pd_24) <| dr_c (dg_no) <| dr_c (dg_no) <| dr_c (dg_iconst (by decide) dX0_takeBack_86) <| dr_c (dg_ret dX0_takeBack_87) <| dr_n
theorem tk_4 : dm_AllC (dm_Good dm_tb RX0 cX0_takeBack 2 (some .boolean) false none) 0 cd_4 := dc_c (by decide) tr_4_0 <| dc_c (by decide) tr_4_1 <| dc_c (by decide) tr_4_2 <| dc_c (by decide) tr_4_3 <| dc_c (by decide) tr_4_4 <| dc_c (by decide) tr_4_5 <| dc_n
theorem dX1_init_0 : decode cX1_init 0 = .ok (.aload_n 0, 1) := by decide +kernel
theorem dX1_init_1 : decode cX1_init 1 = .ok (.invokespecial 3, 3) := by decide +kernel
theorem dX1_init_4 : decode cX1_init 4 = .ok (.aload_n 0, 1) := by decide +kernel
theorem dX1_init_5 : decode cX1_init 5 = .ok (.new 9, 3) := by decide +kernel
theorem dX1_init_8 : decode cX1_init 8 = .ok (.dup, 1) := by decide +kernel
theorem dX1_init_9 : decode cX1_init 9 = .ok (.sipush 600, 3) := by decide +kernel
theorem dX1_init_12 : decode cX1_init 12 = .ok (.invokespecial 11, 3) := by decide +kernel
theorem dX1_init_15 : decode cX1_init 15 = .ok (.putfield 14, 3) := by decide +kernel
theorem dX1_init_18 : decode cX1_init 18 = .ok (.return_, 1) := by decide +kernel
def cd_5 : dm_Code := [[dm_ald 1 0, dm_oin 4, dm_no, dm_no, dm_ald 5 0, dm_new 8 3 nf_X4, dm_no, dm_no, dm_dup 9, dm_push 12 (.int 600), dm_no, dm_no, dm_ini 15 44 1, dm_no, dm_no, dm_putf 18 1 0 (.object "SplitClocks$Numbers")],
  [dm_no, dm_no, dm_vret]]
theorem tr_5_0 : dm_AllR (dm_Good dm_tb RX1 cX1_init 1 none true none) 0 [dm_ald 1 0, dm_oin 4, dm_no, dm_no, dm_ald 5 0, dm_new 8 3 nf_X4, dm_no, dm_no, dm_dup 9, dm_push 12 (.int 600), dm_no, dm_no, dm_ini 15 44 1, dm_no, dm_no, dm_putf 18 1 0 (.object "SplitClocks$Numbers")] := dr_c (dg_aload_n (k := 0) rfl dX1_init_0) <| dr_c (dg_oin dX1_init_1 wd_209 wd_86 wd_87) <| dr_c (dg_no) <| dr_c (dg_no) <| dr_c (dg_aload_n (k := 0) rfl dX1_init_4) <| dr_c (dg_new (T := TX4) (C := RX4) (N := 2) (ty := tyX4) dX1_init_5 rfl iw_X4 tyX4_ok wd_210 wd_101 wd_63 rfl nv_X4 nz_X4) <| dr_c (dg_no) <| dr_c (dg_no) <| dr_c (dg_dup dX1_init_8) <| dr_c (dg_sipush (by decide) dX1_init_9) <| dr_c (dg_no) <| dr_c (dg_no) <| dr_c (dg_ini dX1_init_12 mo_44 rfl rfl wd_211 wd_104 pd_44) <| dr_c (dg_no) <| dr_c (dg_no) <| dr_c (dg_putF (T := TX1) (C := RX1) (N := 2) dX1_init_15 rfl (by decide) iw_X1 tyX1_ok nmX1 wd_212 rfl rfl rfl) <| dr_n
theorem tr_5_1 : dm_AllR (dm_Good dm_tb RX1 cX1_init 1 none true none) 16 [dm_no, dm_no, dm_vret] := dr_c (dg_no) <| dr_c (dg_no) <| dr_c (dg_vret dX1_init_18) <| dr_n
theorem tk_5 : dm_AllC (dm_Good dm_tb RX1 cX1_init 1 none true none) 0 cd_5 := dc_c (by decide) tr_5_0 <| dc_c (by decide) tr_5_1 <| dc_n
theorem dX1_size_0 : decode cX1_size 0 = .ok (.aload_n 0, 1) := by decide +kernel
theorem dX1_size_1 : decode cX1_size 1 = .ok (.getfield 20, 3) := by decide +kernel
theorem dX1_size_4 : decode cX1_size 4 = .ok (.ireturn, 1) := by decide +kernel
def cd_6 : dm_Code := [[dm_ald 1 0, dm_getf 4 1 1, dm_no, dm_no, dm_ret .int]]
theorem tr_6_0 : dm_AllR (dm_Good dm_tb RX1 cX1_size 1 (some .int) false none) 0 [dm_ald 1 0, dm_getf 4 1 1, dm_no, dm_no, dm_ret .int] := dr_c (dg_aload_n (k := 0) rfl dX1_size_0) <| dr_c (dg_getf (T := TX1) (C := RX1) (N := 2) dX1_size_1 rfl (by decide) iw_X1 wd_213) <| dr_c (dg_no) <| dr_c (dg_no) <| dr_c (dg_ret dX1_size_4) <| dr_n
theorem tk_6 : dm_AllC (dm_Good dm_tb RX1 cX1_size 1 (some .int) false none) 0 cd_6 := dc_c (by decide) tr_6_0 <| dc_n
theorem dX1_bitAt_0 : decode cX1_bitAt 0 = .ok (.iload_n 1, 1) := by decide +kernel
theorem dX1_bitAt_1 : decode cX1_bitAt 1 = .ok (.ifCond .lt 22, 3) := by decide +kernel
theorem dX1_bitAt_4 : decode cX1_bitAt 4 = .ok (.iload_n 1, 1) := by decide +kernel
theorem dX1_bitAt_5 : decode cX1_bitAt 5 = .ok (.aload_n 0, 1) := by decide +kernel
theorem dX1_bitAt_6 : decode cX1_bitAt 6 = .ok (.getfield 20, 3) := by decide +kernel
theorem dX1_bitAt_9 : decode cX1_bitAt 9 = .ok (.if_icmp .ge 14, 3) := by decide +kernel
theorem dX1_bitAt_12 : decode cX1_bitAt 12 = .ok (.aload_n 0, 1) := by decide +kernel
theorem dX1_bitAt_13 : decode cX1_bitAt 13 = .ok (.getfield 14, 3) := by decide +kernel
theorem dX1_bitAt_16 : decode cX1_bitAt 16 = .ok (.iload_n 1, 1) := by decide +kernel
theorem dX1_bitAt_17 : decode cX1_bitAt 17 = .ok (.invokevirtual 24, 3) := by decide +kernel
theorem dX1_bitAt_20 : decode cX1_bitAt 20 = .ok (.goto 4, 3) := by decide +kernel
theorem dX1_bitAt_23 : decode cX1_bitAt 23 = .ok (.iconst (-1), 1) := by decide +kernel
theorem dX1_bitAt_24 : decode cX1_bitAt 24 = .ok (.ireturn, 1) := by decide +kernel
def cd_7 : dm_Code := [[dm_ild 1 1, dm_if_lt 4 23, dm_no, dm_no, dm_ild 5 1, dm_ald 6 0, dm_getf 9 1 1, dm_no, dm_no, dm_ic_ge 12 23, dm_no, dm_no, dm_ald 13 0, dm_getf 16 1 0, dm_no, dm_no],
  [dm_ild 17 1, dm_inv 20 45 1 3, dm_no, dm_no, dm_goto 24, dm_no, dm_no, dm_push 24 (.int (-1)), dm_ret .int]]
theorem tr_7_0 : dm_AllR (dm_Good dm_tb RX1 cX1_bitAt 2 (some .int) false none) 0 [dm_ild 1 1, dm_if_lt 4 23, dm_no, dm_no, dm_ild 5 1, dm_ald 6 0, dm_getf 9 1 1, dm_no, dm_no, dm_ic_ge 12 23, dm_no, dm_no, dm_ald 13 0, dm_getf 16 1 0, dm_no, dm_no] := dr_c (dg_iload_n (k := 1) rfl dX1_bitAt_0) <| dr_c (dg_if_lt (by decide) dX1_bitAt_1) <| dr_c (dg_no) <| dr_c (dg_no) <| dr_c (dg_iload_n (k := 1) rfl dX1_bitAt_4) <| dr_c (dg_aload_n (k := 0) rfl dX1_bitAt_5) <| dr_c (dg_getf (T := TX1) (C := RX1) (N := 2) dX1_bitAt_6 rfl (by decide) iw_X1 wd_213) <| dr_c (dg_no) <| dr_c (dg_no) <| dr_c (dg_ic_ge (by decide) dX1_bitAt_9) <| dr_c (dg_no) <| dr_c (dg_no) <| dr_c (dg_aload_n (k := 0) rfl dX1_bitAt_12) <| dr_c (dg_getf (T := TX1) (C := RX1) (N := 2) dX1_bitAt_13 rfl (by decide) iw_X1 wd_212) <| dr_c (dg_no) <| dr_c (dg_no) <| dr_n
theorem tr_7_1 : dm_AllR (dm_Good dm_tb RX1 cX1_bitAt 2 (some .int) false none) 16 [dm_ild 17 1, dm_inv 20 45 1 3, dm_no, dm_no, dm_goto 24, dm_no, dm_no, dm_push 24 (.int (-1)), dm_ret .int] := dr_c (dg_iload_n (k := 1) rfl dX1_bitAt_16) <| dr_c (dg_inv dX1_bitAt_17 mo_45 rfl rfl wd_720 wd_285 wd_286 pd_45) <| dr_c (dg_no) <| dr_c (dg_no) <| dr_c (dg_goto (by decide) dX1_bitAt_20) <| dr_c (dg_no) <| dr_c (dg_no) <| dr_c (dg_iconst (by decide) dX1_bitAt_23) <| dr_c (dg_ret dX1_bitAt_24) <| dr_n
theorem tk_7 : dm_AllC (dm_Good dm_tb RX1 cX1_bitAt 2 (some .int) false none) 0 cd_7 := dc_c (by decide) tr_7_0 <| dc_c (by decide) tr_7_1 <| dc_n
theorem dX1_push_0 : decode cX1_push 0 = .ok (.iload_n 3, 1) := by decide +kernel
theorem dX1_push_1 : decode cX1_push 1 = .ok (.iconst 1, 1) := by decide +kernel
theorem dX1_push_2 : decode cX1_push 2 = .ok (.isub, 1) := by decide +kernel
theorem dX1_push_3 : decode cX1_push 3 = .ok (.istore 4, 2) := by decide +kernel
theorem dX1_push_5 : decode cX1_push 5 = .ok (.iload 4, 2) := by decide +kernel
theorem dX1_push_7 : decode cX1_push 7 = .ok (.ifCond .lt 37, 3) := by decide +kernel
theorem dX1_push_10 : decode cX1_push 10 = .ok (.aload_n 0, 1) := by decide +kernel
theorem dX1_push_11 : decode cX1_push 11 = .ok (.getfield 14, 3) := by decide +kernel
theorem dX1_push_14 : decode cX1_push 14 = .ok (.aload_n 0, 1) := by decide +kernel
theorem dX1_push_15 : decode cX1_push 15 = .ok (.getfield 20, 3) := by decide +kernel
theorem dX1_push_18 : decode cX1_push 18 = .ok (.lload_n 1, 1) := by decide +kernel
theorem dX1_push_19 : decode cX1_push 19 = .ok (.iload 4, 2) := by decide +kernel
theorem dX1_push_21 : decode cX1_push 21 = .ok (.lushr, 1) := by decide +kernel
theorem dX1_push_22 : decode cX1_push 22 = .ok (.lconst 1, 1) := by decide +kernel
theorem dX1_push_23 : decode cX1_push 23 = .ok (.land, 1) := by decide +kernel
theorem dX1_push_24 : decode cX1_push 24 = .ok (.l2i, 1) := by decide +kernel
theorem dX1_push_25 : decode cX1_push 25 = .ok (.invokevirtual 28, 3) := by decide +kernel
theorem dX1_push_28 : decode cX1_push 28 = .ok (.aload_n 0, 1) := by decide +kernel
theorem dX1_push_29 : decode cX1_push 29 = .ok (.dup, 1) := by decide +kernel
theorem dX1_push_30 : decode cX1_push 30 = .ok (.getfield 20, 3) := by decide +kernel
theorem dX1_push_33 : decode cX1_push 33 = .ok (.iconst 1, 1) := by decide +kernel
theorem dX1_push_34 : decode cX1_push 34 = .ok (.iadd, 1) := by decide +kernel
theorem dX1_push_35 : decode cX1_push 35 = .ok (.putfield 20, 3) := by decide +kernel
theorem dX1_push_38 : decode cX1_push 38 = .ok (.iinc 4 (-1), 3) := by decide +kernel
theorem dX1_push_41 : decode cX1_push 41 = .ok (.goto (-36), 3) := by decide +kernel
theorem dX1_push_44 : decode cX1_push 44 = .ok (.return_, 1) := by decide +kernel
def cd_8 : dm_Code := [[dm_ild 1 3, dm_push 2 (.int 1), dm_ii 3 (fun x y => x - y), dm_ist 5 4, dm_no, dm_ild 7 4, dm_no, dm_if_lt 10 44, dm_no, dm_no, dm_ald 11 0, dm_getf 14 1 0, dm_no, dm_no, dm_ald 15 0, dm_getf 18 1 1],
  [dm_no, dm_no, dm_lld 19 1, dm_ild 21 4, dm_no, dm_li 22 (fun x y => (x.toUInt64 >>> (y.toInt64.toUInt64 &&& Int64.toUInt64 63)).toInt64), dm_push 23 (.long 1), dm_ll 24 (fun x y => x &&& y), dm_l1 25 (fun x => .int x.toInt32), dm_inv 28 46 2 3, dm_no, dm_no, dm_ald 29 0, dm_dup 30, dm_getf 33 1 1, dm_no],
  [dm_no, dm_push 34 (.int 1), dm_ii 35 (fun x y => x + y), dm_putf 38 1 1 .int, dm_no, dm_no, dm_iinc 41 4 (-1), dm_no, dm_no, dm_goto 5, dm_no, dm_no, dm_vret]]
theorem tr_8_0 : dm_AllR (dm_Good dm_tb RX1 cX1_push 5 none false none) 0 [dm_ild 1 3, dm_push 2 (.int 1), dm_ii 3 (fun x y => x - y), dm_ist 5 4, dm_no, dm_ild 7 4, dm_no, dm_if_lt 10 44, dm_no, dm_no, dm_ald 11 0, dm_getf 14 1 0, dm_no, dm_no, dm_ald 15 0, dm_getf 18 1 1] := dr_c (dg_iload_n (k := 3) rfl dX1_push_0) <| dr_c (dg_iconst (by decide) dX1_push_1) <| dr_c (dg_isub dX1_push_2) <| dr_c (dg_istore (by decide) dX1_push_3) <| dr_c (dg_no) <| dr_c (dg_iload dX1_push_5) <| dr_c (dg_no) <| dr_c (dg_if_lt (by decide) dX1_push_7) <| dr_c (dg_no) <| dr_c (dg_no) <| dr_c (dg_aload_n (k := 0) rfl dX1_push_10) <| dr_c (dg_getf (T := TX1) (C := RX1) (N := 2) dX1_push_11 rfl (by decide) iw_X1 wd_212) <| dr_c (dg_no) <| dr_c (dg_no) <| dr_c (dg_aload_n (k := 0) rfl dX1_push_14) <| dr_c (dg_getf (T := TX1) (C := RX1) (N := 2) dX1_push_15 rfl (by decide) iw_X1 wd_213) <| dr_n
theorem tr_8_1 : dm_AllR (dm_Good dm_tb RX1 cX1_push 5 none false none) 16 [dm_no, dm_no, dm_lld 19 1, dm_ild 21 4, dm_no, dm_li 22 (fun x y => (x.toUInt64 >>> (y.toInt64.toUInt64 &&& Int64.toUInt64 63)).toInt64), dm_push 23 (.long 1), dm_ll 24 (fun x y => x &&& y), dm_l1 25 (fun x => .int x.toInt32), dm_inv 28 46 2 3, dm_no, dm_no, dm_ald 29 0, dm_dup 30, dm_getf 33 1 1, dm_no] := dr_c (dg_no) <| dr_c (dg_no) <| dr_c (dg_lload_n (k := 1) rfl dX1_push_18) <| dr_c (dg_iload dX1_push_19) <| dr_c (dg_no) <| dr_c (dg_lushr dX1_push_21) <| dr_c (dg_lconst (by decide) dX1_push_22) <| dr_c (dg_land dX1_push_23) <| dr_c (dg_l2i dX1_push_24) <| dr_c (dg_inv dX1_push_25 mo_46 rfl rfl wd_641 wd_252 wd_253 pd_46) <| dr_c (dg_no) <| dr_c (dg_no) <| dr_c (dg_aload_n (k := 0) rfl dX1_push_28) <| dr_c (dg_dup dX1_push_29) <| dr_c (dg_getf (T := TX1) (C := RX1) (N := 2) dX1_push_30 rfl (by decide) iw_X1 wd_213) <| dr_c (dg_no) <| dr_n
theorem tr_8_2 : dm_AllR (dm_Good dm_tb RX1 cX1_push 5 none false none) 32 [dm_no, dm_push 34 (.int 1), dm_ii 35 (fun x y => x + y), dm_putf 38 1 1 .int, dm_no, dm_no, dm_iinc 41 4 (-1), dm_no, dm_no, dm_goto 5, dm_no, dm_no, dm_vret] := dr_c (dg_no) <| dr_c (dg_iconst (by decide) dX1_push_33) <| dr_c (dg_iadd dX1_push_34) <| dr_c (dg_putf (T := TX1) (C := RX1) (N := 2) dX1_push_35 rfl (by decide) iw_X1 tyX1_ok nmX1 wd_213 rfl rfl) <| dr_c (dg_no) <| dr_c (dg_no) <| dr_c (dg_iinc (by decide) (by decide) dX1_push_38) <| dr_c (dg_no) <| dr_c (dg_no) <| dr_c (dg_goto (by decide) dX1_push_41) <| dr_c (dg_no) <| dr_c (dg_no) <| dr_c (dg_vret dX1_push_44) <| dr_n
theorem tk_8 : dm_AllC (dm_Good dm_tb RX1 cX1_push 5 none false none) 0 cd_8 := dc_c (by decide) tr_8_0 <| dc_c (by decide) tr_8_1 <| dc_c (by decide) tr_8_2 <| dc_n
theorem dX1_cut_0 : decode cX1_cut 0 = .ok (.iload_n 1, 1) := by decide +kernel
theorem dX1_cut_1 : decode cX1_cut 1 = .ok (.ifCond .lt 11, 3) := by decide +kernel
theorem dX1_cut_4 : decode cX1_cut 4 = .ok (.iload_n 1, 1) := by decide +kernel
theorem dX1_cut_5 : decode cX1_cut 5 = .ok (.aload_n 0, 1) := by decide +kernel
theorem dX1_cut_6 : decode cX1_cut 6 = .ok (.getfield 20, 3) := by decide +kernel
theorem dX1_cut_9 : decode cX1_cut 9 = .ok (.if_icmp .le 5, 3) := by decide +kernel
theorem dX1_cut_12 : decode cX1_cut 12 = .ok (.iconst 0, 1) := by decide +kernel
theorem dX1_cut_13 : decode cX1_cut 13 = .ok (.ireturn, 1) := by decide +kernel
theorem dX1_cut_14 : decode cX1_cut 14 = .ok (.aload_n 0, 1) := by decide +kernel
theorem dX1_cut_15 : decode cX1_cut 15 = .ok (.iload_n 1, 1) := by decide +kernel
theorem dX1_cut_16 : decode cX1_cut 16 = .ok (.putfield 20, 3) := by decide +kernel
theorem dX1_cut_19 : decode cX1_cut 19 = .ok (.iconst 1, 1) := by decide +kernel
theorem dX1_cut_20 : decode cX1_cut 20 = .ok (.ireturn, 1) := by decide +kernel
def cd_9 : dm_Code := [[dm_ild 1 1, dm_if_lt 4 12, dm_no, dm_no, dm_ild 5 1, dm_ald 6 0, dm_getf 9 1 1, dm_no, dm_no, dm_ic_le 12 14, dm_no, dm_no, dm_push 13 (.int 0), dm_ret .boolean, dm_ald 15 0, dm_ild 16 1],
  [dm_putf 19 1 1 .int, dm_no, dm_no, dm_push 20 (.int 1), dm_ret .boolean]]
theorem tr_9_0 : dm_AllR (dm_Good dm_tb RX1 cX1_cut 2 (some .boolean) false none) 0 [dm_ild 1 1, dm_if_lt 4 12, dm_no, dm_no, dm_ild 5 1, dm_ald 6 0, dm_getf 9 1 1, dm_no, dm_no, dm_ic_le 12 14, dm_no, dm_no, dm_push 13 (.int 0), dm_ret .boolean, dm_ald 15 0, dm_ild 16 1] := dr_c (dg_iload_n (k := 1) rfl dX1_cut_0) <| dr_c (dg_if_lt (by decide) dX1_cut_1) <| dr_c (dg_no) <| dr_c (dg_no) <| dr_c (dg_iload_n (k := 1) rfl dX1_cut_4) <| dr_c (dg_aload_n (k := 0) rfl dX1_cut_5) <| dr_c (dg_getf (T := TX1) (C := RX1) (N := 2) dX1_cut_6 rfl (by decide) iw_X1 wd_213) <| dr_c (dg_no) <| dr_c (dg_no) <| dr_c (dg_ic_le (by decide) dX1_cut_9) <| dr_c (dg_no) <| dr_c (dg_no) <| dr_c (dg_iconst (by decide) dX1_cut_12) <| dr_c (dg_ret dX1_cut_13) <| dr_c (dg_aload_n (k := 0) rfl dX1_cut_14) <| dr_c (dg_iload_n (k := 1) rfl dX1_cut_15) <| dr_n
theorem tr_9_1 : dm_AllR (dm_Good dm_tb RX1 cX1_cut 2 (some .boolean) false none) 16 [dm_putf 19 1 1 .int, dm_no, dm_no, dm_push 20 (.int 1), dm_ret .boolean] := dr_c (dg_putf (T := TX1) (C := RX1) (N := 2) dX1_cut_16 rfl (by decide) iw_X1 tyX1_ok nmX1 wd_213 rfl rfl) <| dr_c (dg_no) <| dr_c (dg_no) <| dr_c (dg_iconst (by decide) dX1_cut_19) <| dr_c (dg_ret dX1_cut_20) <| dr_n
theorem tk_9 : dm_AllC (dm_Good dm_tb RX1 cX1_cut 2 (some .boolean) false none) 0 cd_9 := dc_c (by decide) tr_9_0 <| dc_c (by decide) tr_9_1 <| dc_n
theorem dX1_copyFrom_0 : decode cX1_copyFrom 0 = .ok (.aload_n 0, 1) := by decide +kernel
theorem dX1_copyFrom_1 : decode cX1_copyFrom 1 = .ok (.aload_n 1, 1) := by decide +kernel
theorem dX1_copyFrom_2 : decode cX1_copyFrom 2 = .ok (.getfield 20, 3) := by decide +kernel
theorem dX1_copyFrom_5 : decode cX1_copyFrom 5 = .ok (.putfield 20, 3) := by decide +kernel
theorem dX1_copyFrom_8 : decode cX1_copyFrom 8 = .ok (.aload_n 0, 1) := by decide +kernel
theorem dX1_copyFrom_9 : decode cX1_copyFrom 9 = .ok (.getfield 14, 3) := by decide +kernel
theorem dX1_copyFrom_12 : decode cX1_copyFrom 12 = .ok (.aload_n 1, 1) := by decide +kernel
theorem dX1_copyFrom_13 : decode cX1_copyFrom 13 = .ok (.getfield 14, 3) := by decide +kernel
theorem dX1_copyFrom_16 : decode cX1_copyFrom 16 = .ok (.aload_n 0, 1) := by decide +kernel
theorem dX1_copyFrom_17 : decode cX1_copyFrom 17 = .ok (.getfield 20, 3) := by decide +kernel
theorem dX1_copyFrom_20 : decode cX1_copyFrom 20 = .ok (.invokevirtual 32, 3) := by decide +kernel
theorem dX1_copyFrom_23 : decode cX1_copyFrom 23 = .ok (.return_, 1) := by decide +kernel
def cd_10 : dm_Code := [[dm_ald 1 0, dm_ald 2 1, dm_getf 5 1 1, dm_no, dm_no, dm_putf 8 1 1 .int, dm_no, dm_no, dm_ald 9 0, dm_getf 12 1 0, dm_no, dm_no, dm_ald 13 1, dm_getf 16 1 0, dm_no, dm_no],
  [dm_ald 17 0, dm_getf 20 1 1, dm_no, dm_no, dm_inv 23 47 2 3, dm_no, dm_no, dm_vret]]
theorem tr_10_0 : dm_AllR (dm_Good dm_tb RX1 cX1_copyFrom 2 none false none) 0 [dm_ald 1 0, dm_ald 2 1, dm_getf 5 1 1, dm_no, dm_no, dm_putf 8 1 1 .int, dm_no, dm_no, dm_ald 9 0, dm_getf 12 1 0, dm_no, dm_no, dm_ald 13 1, dm_getf 16 1 0, dm_no, dm_no] := dr_c (dg_aload_n (k := 0) rfl dX1_copyFrom_0) <| dr_c (dg_aload_n (k := 1) rfl dX1_copyFrom_1) <| dr_c (dg_getf (T := TX1) (C := RX1) (N := 2) dX1_copyFrom_2 rfl (by decide) iw_X1 wd_213) <| dr_c (dg_no) <| dr_c (dg_no) <| dr_c (dg_putf (T := TX1) (C := RX1) (N := 2) dX1_copyFrom_5 rfl (by decide) iw_X1 tyX1_ok nmX1 wd_213 rfl rfl) <| dr_c (dg_no) <| dr_c (dg_no) <| dr_c (dg_aload_n (k := 0) rfl dX1_copyFrom_8) <| dr_c (dg_getf (T := TX1) (C := RX1) (N := 2) dX1_copyFrom_9 rfl (by decide) iw_X1 wd_212) <| dr_c (dg_no) <| dr_c (dg_no) <| dr_c (dg_aload_n (k := 1) rfl dX1_copyFrom_12) <| dr_c (dg_getf (T := TX1) (C := RX1) (N := 2) dX1_copyFrom_13 rfl (by decide) iw_X1 wd_212) <| dr_c (dg_no) <| dr_c (dg_no) <| dr_n
theorem tr_10_1 : dm_AllR (dm_Good dm_tb RX1 cX1_copyFrom 2 none false none) 16 [dm_ald 17 0, dm_getf 20 1 1, dm_no, dm_no, dm_inv 23 47 2 3, dm_no, dm_no, dm_vret] := dr_c (dg_aload_n (k := 0) rfl dX1_copyFrom_16) <| dr_c (dg_getf (T := TX1) (C := RX1) (N := 2) dX1_copyFrom_17 rfl (by decide) iw_X1 wd_213) <| dr_c (dg_no) <| dr_c (dg_no) <| dr_c (dg_inv dX1_copyFrom_20 mo_47 rfl rfl wd_707 wd_708 wd_709 pd_47) <| dr_c (dg_no) <| dr_c (dg_no) <| dr_c (dg_vret dX1_copyFrom_23) <| dr_n
theorem tk_10 : dm_AllC (dm_Good dm_tb RX1 cX1_copyFrom 2 none false none) 0 cd_10 := dc_c (by decide) tr_10_0 <| dc_c (by decide) tr_10_1 <| dc_n
theorem dX2_init_0 : decode cX2_init 0 = .ok (.aload_n 0, 1) := by decide +kernel
theorem dX2_init_1 : decode cX2_init 1 = .ok (.invokespecial 3, 3) := by decide +kernel
theorem dX2_init_4 : decode cX2_init 4 = .ok (.aload_n 0, 1) := by decide +kernel
theorem dX2_init_5 : decode cX2_init 5 = .ok (.new 9, 3) := by decide +kernel
theorem dX2_init_8 : decode cX2_init 8 = .ok (.dup, 1) := by decide +kernel
theorem dX2_init_9 : decode cX2_init 9 = .ok (.invokespecial 11, 3) := by decide +kernel
theorem dX2_init_12 : decode cX2_init 12 = .ok (.putfield 12, 3) := by decide +kernel
theorem dX2_init_15 : decode cX2_init 15 = .ok (.aload_n 0, 1) := by decide +kernel
theorem dX2_init_16 : decode cX2_init 16 = .ok (.new 18, 3) := by decide +kernel
theorem dX2_init_19 : decode cX2_init 19 = .ok (.dup, 1) := by decide +kernel
theorem dX2_init_20 : decode cX2_init 20 = .ok (.sipush 1000, 3) := by decide +kernel
theorem dX2_init_23 : decode cX2_init 23 = .ok (.invokespecial 20, 3) := by decide +kernel
theorem dX2_init_26 : decode cX2_init 26 = .ok (.putfield 23, 3) := by decide +kernel
theorem dX2_init_29 : decode cX2_init 29 = .ok (.aload_n 0, 1) := by decide +kernel
theorem dX2_init_30 : decode cX2_init 30 = .ok (.new 18, 3) := by decide +kernel
theorem dX2_init_33 : decode cX2_init 33 = .ok (.dup, 1) := by decide +kernel
theorem dX2_init_34 : decode cX2_init 34 = .ok (.sipush 1000, 3) := by decide +kernel
theorem dX2_init_37 : decode cX2_init 37 = .ok (.invokespecial 20, 3) := by decide +kernel
theorem dX2_init_40 : decode cX2_init 40 = .ok (.putfield 27, 3) := by decide +kernel
theorem dX2_init_43 : decode cX2_init 43 = .ok (.aload_n 0, 1) := by decide +kernel
theorem dX2_init_44 : decode cX2_init 44 = .ok (.new 18, 3) := by decide +kernel
theorem dX2_init_47 : decode cX2_init 47 = .ok (.dup, 1) := by decide +kernel
theorem dX2_init_48 : decode cX2_init 48 = .ok (.sipush 1000, 3) := by decide +kernel
theorem dX2_init_51 : decode cX2_init 51 = .ok (.invokespecial 20, 3) := by decide +kernel
theorem dX2_init_54 : decode cX2_init 54 = .ok (.putfield 30, 3) := by decide +kernel
theorem dX2_init_57 : decode cX2_init 57 = .ok (.aload_n 0, 1) := by decide +kernel
theorem dX2_init_58 : decode cX2_init 58 = .ok (.new 18, 3) := by decide +kernel
theorem dX2_init_61 : decode cX2_init 61 = .ok (.dup, 1) := by decide +kernel
theorem dX2_init_62 : decode cX2_init 62 = .ok (.sipush 1000, 3) := by decide +kernel
theorem dX2_init_65 : decode cX2_init 65 = .ok (.invokespecial 20, 3) := by decide +kernel
theorem dX2_init_68 : decode cX2_init 68 = .ok (.putfield 33, 3) := by decide +kernel
theorem dX2_init_71 : decode cX2_init 71 = .ok (.aload_n 0, 1) := by decide +kernel
theorem dX2_init_72 : decode cX2_init 72 = .ok (.new 18, 3) := by decide +kernel
theorem dX2_init_75 : decode cX2_init 75 = .ok (.dup, 1) := by decide +kernel
theorem dX2_init_76 : decode cX2_init 76 = .ok (.sipush 1000, 3) := by decide +kernel
theorem dX2_init_79 : decode cX2_init 79 = .ok (.invokespecial 20, 3) := by decide +kernel
theorem dX2_init_82 : decode cX2_init 82 = .ok (.putfield 36, 3) := by decide +kernel
theorem dX2_init_85 : decode cX2_init 85 = .ok (.aload_n 0, 1) := by decide +kernel
theorem dX2_init_86 : decode cX2_init 86 = .ok (.new 18, 3) := by decide +kernel
theorem dX2_init_89 : decode cX2_init 89 = .ok (.dup, 1) := by decide +kernel
theorem dX2_init_90 : decode cX2_init 90 = .ok (.sipush 1000, 3) := by decide +kernel
theorem dX2_init_93 : decode cX2_init 93 = .ok (.invokespecial 20, 3) := by decide +kernel
theorem dX2_init_96 : decode cX2_init 96 = .ok (.putfield 39, 3) := by decide +kernel
theorem dX2_init_99 : decode cX2_init 99 = .ok (.aload_n 0, 1) := by decide +kernel
theorem dX2_init_100 : decode cX2_init 100 = .ok (.new 18, 3) := by decide +kernel
theorem dX2_init_103 : decode cX2_init 103 = .ok (.dup, 1) := by decide +kernel
theorem dX2_init_104 : decode cX2_init 104 = .ok (.sipush 1000, 3) := by decide +kernel
theorem dX2_init_107 : decode cX2_init 107 = .ok (.invokespecial 20, 3) := by decide +kernel
theorem dX2_init_110 : decode cX2_init 110 = .ok (.putfield 42, 3) := by decide +kernel
theorem dX2_init_113 : decode cX2_init 113 = .ok (.aload_n 0, 1) := by decide +kernel
theorem dX2_init_114 : decode cX2_init 114 = .ok (.new 18, 3) := by decide +kernel
theorem dX2_init_117 : decode cX2_init 117 = .ok (.dup, 1) := by decide +kernel
theorem dX2_init_118 : decode cX2_init 118 = .ok (.sipush 1000, 3) := by decide +kernel
theorem dX2_init_121 : decode cX2_init 121 = .ok (.invokespecial 20, 3) := by decide +kernel
theorem dX2_init_124 : decode cX2_init 124 = .ok (.putfield 45, 3) := by decide +kernel
theorem dX2_init_127 : decode cX2_init 127 = .ok (.return_, 1) := by decide +kernel
def cd_11 : dm_Code := [[dm_ald 1 0, dm_oin 4, dm_no, dm_no, dm_ald 5 0, dm_new 8 6 nf_X8, dm_no, dm_no, dm_dup 9, dm_ini 12 71 0, dm_no, dm_no, dm_putf 15 2 0 (.object "SplitClocks$Trees"), dm_no, dm_no, dm_ald 16 0],
  [dm_new 19 3 nf_X4, dm_no, dm_no, dm_dup 20, dm_push 23 (.int 1000), dm_no, dm_no, dm_ini 26 44 1, dm_no, dm_no, dm_putf 29 2 1 (.object "SplitClocks$Numbers"), dm_no, dm_no, dm_ald 30 0, dm_new 33 3 nf_X4, dm_no],
  [dm_no, dm_dup 34, dm_push 37 (.int 1000), dm_no, dm_no, dm_ini 40 44 1, dm_no, dm_no, dm_putf 43 2 2 (.object "SplitClocks$Numbers"), dm_no, dm_no, dm_ald 44 0, dm_new 47 3 nf_X4, dm_no, dm_no, dm_dup 48],
  [dm_push 51 (.int 1000), dm_no, dm_no, dm_ini 54 44 1, dm_no, dm_no, dm_putf 57 2 3 (.object "SplitClocks$Numbers"), dm_no, dm_no, dm_ald 58 0, dm_new 61 3 nf_X4, dm_no, dm_no, dm_dup 62, dm_push 65 (.int 1000), dm_no],
  [dm_no, dm_ini 68 44 1, dm_no, dm_no, dm_putf 71 2 4 (.object "SplitClocks$Numbers"), dm_no, dm_no, dm_ald 72 0, dm_new 75 3 nf_X4, dm_no, dm_no, dm_dup 76, dm_push 79 (.int 1000), dm_no, dm_no, dm_ini 82 44 1],
  [dm_no, dm_no, dm_putf 85 2 5 (.object "SplitClocks$Numbers"), dm_no, dm_no, dm_ald 86 0, dm_new 89 3 nf_X4, dm_no, dm_no, dm_dup 90, dm_push 93 (.int 1000), dm_no, dm_no, dm_ini 96 44 1, dm_no, dm_no],
  [dm_putf 99 2 6 (.object "SplitClocks$Numbers"), dm_no, dm_no, dm_ald 100 0, dm_new 103 3 nf_X4, dm_no, dm_no, dm_dup 104, dm_push 107 (.int 1000), dm_no, dm_no, dm_ini 110 44 1, dm_no, dm_no, dm_putf 113 2 7 (.object "SplitClocks$Numbers"), dm_no],
  [dm_no, dm_ald 114 0, dm_new 117 3 nf_X4, dm_no, dm_no, dm_dup 118, dm_push 121 (.int 1000), dm_no, dm_no, dm_ini 124 44 1, dm_no, dm_no, dm_putf 127 2 8 (.object "SplitClocks$Numbers"), dm_no, dm_no, dm_vret]]
theorem tr_11_0 : dm_AllR (dm_Good dm_tb RX2 cX2_init 1 none true none) 0 [dm_ald 1 0, dm_oin 4, dm_no, dm_no, dm_ald 5 0, dm_new 8 6 nf_X8, dm_no, dm_no, dm_dup 9, dm_ini 12 71 0, dm_no, dm_no, dm_putf 15 2 0 (.object "SplitClocks$Trees"), dm_no, dm_no, dm_ald 16 0] := dr_c (dg_aload_n (k := 0) rfl dX2_init_0) <| dr_c (dg_oin dX2_init_1 wd_93 wd_86 wd_87) <| dr_c (dg_no) <| dr_c (dg_no) <| dr_c (dg_aload_n (k := 0) rfl dX2_init_4) <| dr_c (dg_new (T := TX8) (C := RX8) (N := 3) (ty := tyX8) dX2_init_5 rfl iw_X8 tyX8_ok wd_94 wd_95 wd_62 rfl nv_X8 nz_X8) <| dr_c (dg_no) <| dr_c (dg_no) <| dr_c (dg_dup dX2_init_8) <| dr_c (dg_iniN (host := RX10) dX2_init_9 mo_71 rfl rfl (by decide +kernel) wd_97 pd_71) <| dr_c (dg_no) <| dr_c (dg_no) <| dr_c (dg_putF (T := TX2) (C := RX2) (N := 10) dX2_init_12 rfl (by decide) iw_X2 tyX2_ok nmX2 wd_130 rfl rfl rfl) <| dr_c (dg_no) <| dr_c (dg_no) <| dr_c (dg_aload_n (k := 0) rfl dX2_init_15) <| dr_n
theorem tr_11_1 : dm_AllR (dm_Good dm_tb RX2 cX2_init 1 none true none) 16 [dm_new 19 3 nf_X4, dm_no, dm_no, dm_dup 20, dm_push 23 (.int 1000), dm_no, dm_no, dm_ini 26 44 1, dm_no, dm_no, dm_putf 29 2 1 (.object "SplitClocks$Numbers"), dm_no, dm_no, dm_ald 30 0, dm_new 33 3 nf_X4, dm_no] := dr_c (dg_new (T := TX4) (C := RX4) (N := 2) (ty := tyX4) dX2_init_16 rfl iw_X4 tyX4_ok wd_128 wd_101 wd_63 rfl nv_X4 nz_X4) <| dr_c (dg_no) <| dr_c (dg_no) <| dr_c (dg_dup dX2_init_19) <| dr_c (dg_sipush (by decide) dX2_init_20) <| dr_c (dg_no) <| dr_c (dg_no) <| dr_c (dg_ini dX2_init_23 mo_44 rfl rfl wd_129 wd_104 pd_44) <| dr_c (dg_no) <| dr_c (dg_no) <| dr_c (dg_putF (T := TX2) (C := RX2) (N := 10) dX2_init_26 rfl (by decide) iw_X2 tyX2_ok nmX2 wd_132 rfl rfl rfl) <| dr_c (dg_no) <| dr_c (dg_no) <| dr_c (dg_aload_n (k := 0) rfl dX2_init_29) <| dr_c (dg_new (T := TX4) (C := RX4) (N := 2) (ty := tyX4) dX2_init_30 rfl iw_X4 tyX4_ok wd_128 wd_101 wd_63 rfl nv_X4 nz_X4) <| dr_c (dg_no) <| dr_n
theorem tr_11_2 : dm_AllR (dm_Good dm_tb RX2 cX2_init 1 none true none) 32 [dm_no, dm_dup 34, dm_push 37 (.int 1000), dm_no, dm_no, dm_ini 40 44 1, dm_no, dm_no, dm_putf 43 2 2 (.object "SplitClocks$Numbers"), dm_no, dm_no, dm_ald 44 0, dm_new 47 3 nf_X4, dm_no, dm_no, dm_dup 48] := dr_c (dg_no) <| dr_c (dg_dup dX2_init_33) <| dr_c (dg_sipush (by decide) dX2_init_34) <| dr_c (dg_no) <| dr_c (dg_no) <| dr_c (dg_ini dX2_init_37 mo_44 rfl rfl wd_129 wd_104 pd_44) <| dr_c (dg_no) <| dr_c (dg_no) <| dr_c (dg_putF (T := TX2) (C := RX2) (N := 10) dX2_init_40 rfl (by decide) iw_X2 tyX2_ok nmX2 wd_133 rfl rfl rfl) <| dr_c (dg_no) <| dr_c (dg_no) <| dr_c (dg_aload_n (k := 0) rfl dX2_init_43) <| dr_c (dg_new (T := TX4) (C := RX4) (N := 2) (ty := tyX4) dX2_init_44 rfl iw_X4 tyX4_ok wd_128 wd_101 wd_63 rfl nv_X4 nz_X4) <| dr_c (dg_no) <| dr_c (dg_no) <| dr_c (dg_dup dX2_init_47) <| dr_n
theorem tr_11_3 : dm_AllR (dm_Good dm_tb RX2 cX2_init 1 none true none) 48 [dm_push 51 (.int 1000), dm_no, dm_no, dm_ini 54 44 1, dm_no, dm_no, dm_putf 57 2 3 (.object "SplitClocks$Numbers"), dm_no, dm_no, dm_ald 58 0, dm_new 61 3 nf_X4, dm_no, dm_no, dm_dup 62, dm_push 65 (.int 1000), dm_no] := dr_c (dg_sipush (by decide) dX2_init_48) <| dr_c (dg_no) <| dr_c (dg_no) <| dr_c (dg_ini dX2_init_51 mo_44 rfl rfl wd_129 wd_104 pd_44) <| dr_c (dg_no) <| dr_c (dg_no) <| dr_c (dg_putF (T := TX2) (C := RX2) (N := 10) dX2_init_54 rfl (by decide) iw_X2 tyX2_ok nmX2 wd_134 rfl rfl rfl) <| dr_c (dg_no) <| dr_c (dg_no) <| dr_c (dg_aload_n (k := 0) rfl dX2_init_57) <| dr_c (dg_new (T := TX4) (C := RX4) (N := 2) (ty := tyX4) dX2_init_58 rfl iw_X4 tyX4_ok wd_128 wd_101 wd_63 rfl nv_X4 nz_X4) <| dr_c (dg_no) <| dr_c (dg_no) <| dr_c (dg_dup dX2_init_61) <| dr_c (dg_sipush (by decide) dX2_init_62) <| dr_c (dg_no) <| dr_n
theorem tr_11_4 : dm_AllR (dm_Good dm_tb RX2 cX2_init 1 none true none) 64 [dm_no, dm_ini 68 44 1, dm_no, dm_no, dm_putf 71 2 4 (.object "SplitClocks$Numbers"), dm_no, dm_no, dm_ald 72 0, dm_new 75 3 nf_X4, dm_no, dm_no, dm_dup 76, dm_push 79 (.int 1000), dm_no, dm_no, dm_ini 82 44 1] := dr_c (dg_no) <| dr_c (dg_ini dX2_init_65 mo_44 rfl rfl wd_129 wd_104 pd_44) <| dr_c (dg_no) <| dr_c (dg_no) <| dr_c (dg_putF (T := TX2) (C := RX2) (N := 10) dX2_init_68 rfl (by decide) iw_X2 tyX2_ok nmX2 wd_135 rfl rfl rfl) <| dr_c (dg_no) <| dr_c (dg_no) <| dr_c (dg_aload_n (k := 0) rfl dX2_init_71) <| dr_c (dg_new (T := TX4) (C := RX4) (N := 2) (ty := tyX4) dX2_init_72 rfl iw_X4 tyX4_ok wd_128 wd_101 wd_63 rfl nv_X4 nz_X4) <| dr_c (dg_no) <| dr_c (dg_no) <| dr_c (dg_dup dX2_init_75) <| dr_c (dg_sipush (by decide) dX2_init_76) <| dr_c (dg_no) <| dr_c (dg_no) <| dr_c (dg_ini dX2_init_79 mo_44 rfl rfl wd_129 wd_104 pd_44) <| dr_n
theorem tr_11_5 : dm_AllR (dm_Good dm_tb RX2 cX2_init 1 none true none) 80 [dm_no, dm_no, dm_putf 85 2 5 (.object "SplitClocks$Numbers"), dm_no, dm_no, dm_ald 86 0, dm_new 89 3 nf_X4, dm_no, dm_no, dm_dup 90, dm_push 93 (.int 1000), dm_no, dm_no, dm_ini 96 44 1, dm_no, dm_no] := dr_c (dg_no) <| dr_c (dg_no) <| dr_c (dg_putF (T := TX2) (C := RX2) (N := 10) dX2_init_82 rfl (by decide) iw_X2 tyX2_ok nmX2 wd_136 rfl rfl rfl) <| dr_c (dg_no) <| dr_c (dg_no) <| dr_c (dg_aload_n (k := 0) rfl dX2_init_85) <| dr_c (dg_new (T := TX4) (C := RX4) (N := 2) (ty := tyX4) dX2_init_86 rfl iw_X4 tyX4_ok wd_128 wd_101 wd_63 rfl nv_X4 nz_X4) <| dr_c (dg_no) <| dr_c (dg_no) <| dr_c (dg_dup dX2_init_89) <| dr_c (dg_sipush (by decide) dX2_init_90) <| dr_c (dg_no) <| dr_c (dg_no) <| dr_c (dg_ini dX2_init_93 mo_44 rfl rfl wd_129 wd_104 pd_44) <| dr_c (dg_no) <| dr_c (dg_no) <| dr_n
theorem tr_11_6 : dm_AllR (dm_Good dm_tb RX2 cX2_init 1 none true none) 96 [dm_putf 99 2 6 (.object "SplitClocks$Numbers"), dm_no, dm_no, dm_ald 100 0, dm_new 103 3 nf_X4, dm_no, dm_no, dm_dup 104, dm_push 107 (.int 1000), dm_no, dm_no, dm_ini 110 44 1, dm_no, dm_no, dm_putf 113 2 7 (.object "SplitClocks$Numbers"), dm_no] := dr_c (dg_putF (T := TX2) (C := RX2) (N := 10) dX2_init_96 rfl (by decide) iw_X2 tyX2_ok nmX2 wd_137 rfl rfl rfl) <| dr_c (dg_no) <| dr_c (dg_no) <| dr_c (dg_aload_n (k := 0) rfl dX2_init_99) <| dr_c (dg_new (T := TX4) (C := RX4) (N := 2) (ty := tyX4) dX2_init_100 rfl iw_X4 tyX4_ok wd_128 wd_101 wd_63 rfl nv_X4 nz_X4) <| dr_c (dg_no) <| dr_c (dg_no) <| dr_c (dg_dup dX2_init_103) <| dr_c (dg_sipush (by decide) dX2_init_104) <| dr_c (dg_no) <| dr_c (dg_no) <| dr_c (dg_ini dX2_init_107 mo_44 rfl rfl wd_129 wd_104 pd_44) <| dr_c (dg_no) <| dr_c (dg_no) <| dr_c (dg_putF (T := TX2) (C := RX2) (N := 10) dX2_init_110 rfl (by decide) iw_X2 tyX2_ok nmX2 wd_138 rfl rfl rfl) <| dr_c (dg_no) <| dr_n
theorem tr_11_7 : dm_AllR (dm_Good dm_tb RX2 cX2_init 1 none true none) 112 [dm_no, dm_ald 114 0, dm_new 117 3 nf_X4, dm_no, dm_no, dm_dup 118, dm_push 121 (.int 1000), dm_no, dm_no, dm_ini 124 44 1, dm_no, dm_no, dm_putf 127 2 8 (.object "SplitClocks$Numbers"), dm_no, dm_no, dm_vret] := dr_c (dg_no) <| dr_c (dg_aload_n (k := 0) rfl dX2_init_113) <| dr_c (dg_new (T := TX4) (C := RX4) (N := 2) (ty := tyX4) dX2_init_114 rfl iw_X4 tyX4_ok wd_128 wd_101 wd_63 rfl nv_X4 nz_X4) <| dr_c (dg_no) <| dr_c (dg_no) <| dr_c (dg_dup dX2_init_117) <| dr_c (dg_sipush (by decide) dX2_init_118) <| dr_c (dg_no) <| dr_c (dg_no) <| dr_c (dg_ini dX2_init_121 mo_44 rfl rfl wd_129 wd_104 pd_44) <| dr_c (dg_no) <| dr_c (dg_no) <| dr_c (dg_putF (T := TX2) (C := RX2) (N := 10) dX2_init_124 rfl (by decide) iw_X2 tyX2_ok nmX2 wd_139 rfl rfl rfl) <| dr_c (dg_no) <| dr_c (dg_no) <| dr_c (dg_vret dX2_init_127) <| dr_n
theorem tk_11 : dm_AllC (dm_Good dm_tb RX2 cX2_init 1 none true none) 0 cd_11 := dc_c (by decide) tr_11_0 <| dc_c (by decide) tr_11_1 <| dc_c (by decide) tr_11_2 <| dc_c (by decide) tr_11_3 <| dc_c (by decide) tr_11_4 <| dc_c (by decide) tr_11_5 <| dc_c (by decide) tr_11_6 <| dc_c (by decide) tr_11_7 <| dc_n
theorem dX2_clear_0 : decode cX2_clear 0 = .ok (.aload_n 0, 1) := by decide +kernel
theorem dX2_clear_1 : decode cX2_clear 1 = .ok (.iconst 0, 1) := by decide +kernel
theorem dX2_clear_2 : decode cX2_clear 2 = .ok (.putfield 48, 3) := by decide +kernel
theorem dX2_clear_5 : decode cX2_clear 5 = .ok (.aload_n 0, 1) := by decide +kernel
theorem dX2_clear_6 : decode cX2_clear 6 = .ok (.getfield 12, 3) := by decide +kernel
theorem dX2_clear_9 : decode cX2_clear 9 = .ok (.invokevirtual 52, 3) := by decide +kernel
theorem dX2_clear_12 : decode cX2_clear 12 = .ok (.aload_n 0, 1) := by decide +kernel
theorem dX2_clear_13 : decode cX2_clear 13 = .ok (.iconst 1, 1) := by decide +kernel
theorem dX2_clear_14 : decode cX2_clear 14 = .ok (.iconst 0, 1) := by decide +kernel
theorem dX2_clear_15 : decode cX2_clear 15 = .ok (.iconst 0, 1) := by decide +kernel
theorem dX2_clear_16 : decode cX2_clear 16 = .ok (.iconst (-1), 1) := by decide +kernel
theorem dX2_clear_17 : decode cX2_clear 17 = .ok (.iconst (-1), 1) := by decide +kernel
theorem dX2_clear_18 : decode cX2_clear 18 = .ok (.invokevirtual 55, 3) := by decide +kernel
theorem dX2_clear_21 : decode cX2_clear 21 = .ok (.pop, 1) := by decide +kernel
theorem dX2_clear_22 : decode cX2_clear 22 = .ok (.return_, 1) := by decide +kernel
def cd_12 : dm_Code := [[dm_ald 1 0, dm_push 2 (.int 0), dm_putf 5 2 9 .int, dm_no, dm_no, dm_ald 6 0, dm_getf 9 2 0, dm_no, dm_no, dm_inv 12 72 0 6, dm_no, dm_no, dm_ald 13 0, dm_push 14 (.int 1), dm_push 15 (.int 0), dm_push 16 (.int 0)],
  [dm_push 17 (.int (-1)), dm_push 18 (.int (-1)), dm_inv 21 15 5 2, dm_no, dm_no, dm_pop 22, dm_vret]]
theorem tr_12_0 : dm_AllR (dm_Good dm_tb RX2 cX2_clear 1 none false none) 0 [dm_ald 1 0, dm_push 2 (.int 0), dm_putf 5 2 9 .int, dm_no, dm_no, dm_ald 6 0, dm_getf 9 2 0, dm_no, dm_no, dm_inv 12 72 0 6, dm_no, dm_no, dm_ald 13 0, dm_push 14 (.int 1), dm_push 15 (.int 0), dm_push 16 (.int 0)] := dr_c (dg_aload_n (k := 0) rfl dX2_clear_0) <| dr_c (dg_iconst (by decide) dX2_clear_1) <| dr_c (dg_putf (T := TX2) (C := RX2) (N := 10) dX2_clear_2 rfl (by decide) iw_X2 tyX2_ok nmX2 wd_140 rfl rfl) <| dr_c (dg_no) <| dr_c (dg_no) <| dr_c (dg_aload_n (k := 0) rfl dX2_clear_5) <| dr_c (dg_getf (T := TX2) (C := RX2) (N := 10) dX2_clear_6 rfl (by decide) iw_X2 wd_130) <| dr_c (dg_no) <| dr_c (dg_no) <| dr_c (dg_inv dX2_clear_9 mo_72 rfl rfl wd_243 wd_244 wd_245 pd_72) <| dr_c (dg_no) <| dr_c (dg_no) <| dr_c (dg_aload_n (k := 0) rfl dX2_clear_12) <| dr_c (dg_iconst (by decide) dX2_clear_13) <| dr_c (dg_iconst (by decide) dX2_clear_14) <| dr_c (dg_iconst (by decide) dX2_clear_15) <| dr_n
theorem tr_12_1 : dm_AllR (dm_Good dm_tb RX2 cX2_clear 1 none false none) 16 [dm_push 17 (.int (-1)), dm_push 18 (.int (-1)), dm_inv 21 15 5 2, dm_no, dm_no, dm_pop 22, dm_vret] := dr_c (dg_iconst (by decide) dX2_clear_16) <| dr_c (dg_iconst (by decide) dX2_clear_17) <| dr_c (dg_inv dX2_clear_18 mo_15 rfl rfl wd_276 wd_277 wd_278 pd_15) <| dr_c (dg_no) <| dr_c (dg_no) <| dr_c (dg_pop dX2_clear_21) <| dr_c (dg_vret dX2_clear_22) <| dr_n
theorem tk_12 : dm_AllC (dm_Good dm_tb RX2 cX2_clear 1 none false none) 0 cd_12 := dc_c (by decide) tr_12_0 <| dc_c (by decide) tr_12_1 <| dc_n
theorem dX2_size_0 : decode cX2_size 0 = .ok (.aload_n 0, 1) := by decide +kernel
theorem dX2_size_1 : decode cX2_size 1 = .ok (.getfield 48, 3) := by decide +kernel
theorem dX2_size_4 : decode cX2_size 4 = .ok (.ireturn, 1) := by decide +kernel
def cd_13 : dm_Code := [[dm_ald 1 0, dm_getf 4 2 9, dm_no, dm_no, dm_ret .int]]
theorem tr_13_0 : dm_AllR (dm_Good dm_tb RX2 cX2_size 1 (some .int) false none) 0 [dm_ald 1 0, dm_getf 4 2 9, dm_no, dm_no, dm_ret .int] := dr_c (dg_aload_n (k := 0) rfl dX2_size_0) <| dr_c (dg_getf (T := TX2) (C := RX2) (N := 10) dX2_size_1 rfl (by decide) iw_X2 wd_140) <| dr_c (dg_no) <| dr_c (dg_no) <| dr_c (dg_ret dX2_size_4) <| dr_n
theorem tk_13 : dm_AllC (dm_Good dm_tb RX2 cX2_size 1 (some .int) false none) 0 cd_13 := dc_c (by decide) tr_13_0 <| dc_n
theorem dX2_nodes_0 : decode cX2_nodes 0 = .ok (.aload_n 0, 1) := by decide +kernel
theorem dX2_nodes_1 : decode cX2_nodes 1 = .ok (.getfield 42, 3) := by decide +kernel
theorem dX2_nodes_4 : decode cX2_nodes 4 = .ok (.aload_n 0, 1) := by decide +kernel
theorem dX2_nodes_5 : decode cX2_nodes 5 = .ok (.getfield 48, 3) := by decide +kernel
theorem dX2_nodes_8 : decode cX2_nodes 8 = .ok (.iconst 1, 1) := by decide +kernel
theorem dX2_nodes_9 : decode cX2_nodes 9 = .ok (.isub, 1) := by decide +kernel
theorem dX2_nodes_10 : decode cX2_nodes 10 = .ok (.invokevirtual 59, 3) := by decide +kernel
theorem dX2_nodes_13 : decode cX2_nodes 13 = .ok (.ireturn, 1) := by decide +kernel
def cd_14 : dm_Code := [[dm_ald 1 0, dm_getf 4 2 7, dm_no, dm_no, dm_ald 5 0, dm_getf 8 2 9, dm_no, dm_no, dm_push 9 (.int 1), dm_ii 10 (fun x y => x - y), dm_inv 13 45 1 3, dm_no, dm_no, dm_ret .int]]
theorem tr_14_0 : dm_AllR (dm_Good dm_tb RX2 cX2_nodes 1 (some .int) false none) 0 [dm_ald 1 0, dm_getf 4 2 7, dm_no, dm_no, dm_ald 5 0, dm_getf 8 2 9, dm_no, dm_no, dm_push 9 (.int 1), dm_ii 10 (fun x y => x - y), dm_inv 13 45 1 3, dm_no, dm_no, dm_ret .int] := dr_c (dg_aload_n (k := 0) rfl dX2_nodes_0) <| dr_c (dg_getf (T := TX2) (C := RX2) (N := 10) dX2_nodes_1 rfl (by decide) iw_X2 wd_138) <| dr_c (dg_no) <| dr_c (dg_no) <| dr_c (dg_aload_n (k := 0) rfl dX2_nodes_4) <| dr_c (dg_getf (T := TX2) (C := RX2) (N := 10) dX2_nodes_5 rfl (by decide) iw_X2 wd_140) <| dr_c (dg_no) <| dr_c (dg_no) <| dr_c (dg_iconst (by decide) dX2_nodes_8) <| dr_c (dg_isub dX2_nodes_9) <| dr_c (dg_inv dX2_nodes_10 mo_45 rfl rfl wd_284 wd_285 wd_286 pd_45) <| dr_c (dg_no) <| dr_c (dg_no) <| dr_c (dg_ret dX2_nodes_13) <| dr_n
theorem tk_14 : dm_AllC (dm_Good dm_tb RX2 cX2_nodes 1 (some .int) false none) 0 cd_14 := dc_c (by decide) tr_14_0 <| dc_n
theorem dX2_make_0 : decode cX2_make 0 = .ok (.aload_n 0, 1) := by decide +kernel
theorem dX2_make_1 : decode cX2_make 1 = .ok (.invokevirtual 63, 3) := by decide +kernel
theorem dX2_make_4 : decode cX2_make 4 = .ok (.aload_n 0, 1) := by decide +kernel
theorem dX2_make_5 : decode cX2_make 5 = .ok (.getfield 12, 3) := by decide +kernel
theorem dX2_make_8 : decode cX2_make 8 = .ok (.iload_n 1, 1) := by decide +kernel
theorem dX2_make_9 : decode cX2_make 9 = .ok (.invokevirtual 67, 3) := by decide +kernel
theorem dX2_make_12 : decode cX2_make 12 = .ok (.iadd, 1) := by decide +kernel
theorem dX2_make_13 : decode cX2_make 13 = .ok (.aload_n 0, 1) := by decide +kernel
theorem dX2_make_14 : decode cX2_make 14 = .ok (.getfield 12, 3) := by decide +kernel
theorem dX2_make_17 : decode cX2_make 17 = .ok (.iload_n 2, 1) := by decide +kernel
theorem dX2_make_18 : decode cX2_make 18 = .ok (.invokevirtual 67, 3) := by decide +kernel
theorem dX2_make_21 : decode cX2_make 21 = .ok (.iadd, 1) := by decide +kernel
theorem dX2_make_22 : decode cX2_make 22 = .ok (.istore 6, 2) := by decide +kernel
theorem dX2_make_24 : decode cX2_make 24 = .ok (.aload_n 0, 1) := by decide +kernel
theorem dX2_make_25 : decode cX2_make 25 = .ok (.getfield 48, 3) := by decide +kernel
theorem dX2_make_28 : decode cX2_make 28 = .ok (.sipush 1000, 3) := by decide +kernel
theorem dX2_make_31 : decode cX2_make 31 = .ok (.if_icmp .ge 11, 3) := by decide +kernel
theorem dX2_make_34 : decode cX2_make 34 = .ok (.iload 6, 2) := by decide +kernel
theorem dX2_make_36 : decode cX2_make 36 = .ok (.sipush 20000, 3) := by decide +kernel
theorem dX2_make_39 : decode cX2_make 39 = .ok (.if_icmp .le 5, 3) := by decide +kernel
theorem dX2_make_42 : decode cX2_make 42 = .ok (.iconst (-1), 1) := by decide +kernel
theorem dX2_make_43 : decode cX2_make 43 = .ok (.ireturn, 1) := by decide +kernel
theorem dX2_make_44 : decode cX2_make 44 = .ok (.aload_n 0, 1) := by decide +kernel
theorem dX2_make_45 : decode cX2_make 45 = .ok (.getfield 23, 3) := by decide +kernel
theorem dX2_make_48 : decode cX2_make 48 = .ok (.aload_n 0, 1) := by decide +kernel
theorem dX2_make_49 : decode cX2_make 49 = .ok (.getfield 48, 3) := by decide +kernel
theorem dX2_make_52 : decode cX2_make 52 = .ok (.iload_n 1, 1) := by decide +kernel
theorem dX2_make_53 : decode cX2_make 53 = .ok (.invokevirtual 70, 3) := by decide +kernel
theorem dX2_make_56 : decode cX2_make 56 = .ok (.aload_n 0, 1) := by decide +kernel
theorem dX2_make_57 : decode cX2_make 57 = .ok (.getfield 27, 3) := by decide +kernel
theorem dX2_make_60 : decode cX2_make 60 = .ok (.aload_n 0, 1) := by decide +kernel
theorem dX2_make_61 : decode cX2_make 61 = .ok (.getfield 48, 3) := by decide +kernel
theorem dX2_make_64 : decode cX2_make 64 = .ok (.iload_n 2, 1) := by decide +kernel
theorem dX2_make_65 : decode cX2_make 65 = .ok (.invokevirtual 70, 3) := by decide +kernel
theorem dX2_make_68 : decode cX2_make 68 = .ok (.aload_n 0, 1) := by decide +kernel
theorem dX2_make_69 : decode cX2_make 69 = .ok (.getfield 30, 3) := by decide +kernel
theorem dX2_make_72 : decode cX2_make 72 = .ok (.aload_n 0, 1) := by decide +kernel
theorem dX2_make_73 : decode cX2_make 73 = .ok (.getfield 48, 3) := by decide +kernel
theorem dX2_make_76 : decode cX2_make 76 = .ok (.iload_n 3, 1) := by decide +kernel
theorem dX2_make_77 : decode cX2_make 77 = .ok (.invokevirtual 70, 3) := by decide +kernel
theorem dX2_make_80 : decode cX2_make 80 = .ok (.aload_n 0, 1) := by decide +kernel
theorem dX2_make_81 : decode cX2_make 81 = .ok (.getfield 33, 3) := by decide +kernel
theorem dX2_make_84 : decode cX2_make 84 = .ok (.aload_n 0, 1) := by decide +kernel
theorem dX2_make_85 : decode cX2_make 85 = .ok (.getfield 48, 3) := by decide +kernel
theorem dX2_make_88 : decode cX2_make 88 = .ok (.iload 4, 2) := by decide +kernel
theorem dX2_make_90 : decode cX2_make 90 = .ok (.invokevirtual 70, 3) := by decide +kernel
theorem dX2_make_93 : decode cX2_make 93 = .ok (.aload_n 0, 1) := by decide +kernel
theorem dX2_make_94 : decode cX2_make 94 = .ok (.getfield 36, 3) := by decide +kernel
theorem dX2_make_97 : decode cX2_make 97 = .ok (.aload_n 0, 1) := by decide +kernel
theorem dX2_make_98 : decode cX2_make 98 = .ok (.getfield 48, 3) := by decide +kernel
theorem dX2_make_101 : decode cX2_make 101 = .ok (.iload 5, 2) := by decide +kernel
theorem dX2_make_103 : decode cX2_make 103 = .ok (.invokevirtual 70, 3) := by decide +kernel
theorem dX2_make_106 : decode cX2_make 106 = .ok (.aload_n 0, 1) := by decide +kernel
theorem dX2_make_107 : decode cX2_make 107 = .ok (.getfield 39, 3) := by decide +kernel
theorem dX2_make_110 : decode cX2_make 110 = .ok (.aload_n 0, 1) := by decide +kernel
theorem dX2_make_111 : decode cX2_make 111 = .ok (.getfield 48, 3) := by decide +kernel
theorem dX2_make_114 : decode cX2_make 114 = .ok (.iconst 1, 1) := by decide +kernel
theorem dX2_make_115 : decode cX2_make 115 = .ok (.invokevirtual 70, 3) := by decide +kernel
theorem dX2_make_118 : decode cX2_make 118 = .ok (.aload_n 0, 1) := by decide +kernel
theorem dX2_make_119 : decode cX2_make 119 = .ok (.getfield 42, 3) := by decide +kernel
theorem dX2_make_122 : decode cX2_make 122 = .ok (.aload_n 0, 1) := by decide +kernel
theorem dX2_make_123 : decode cX2_make 123 = .ok (.getfield 48, 3) := by decide +kernel
theorem dX2_make_126 : decode cX2_make 126 = .ok (.iload 6, 2) := by decide +kernel
theorem dX2_make_128 : decode cX2_make 128 = .ok (.invokevirtual 70, 3) := by decide +kernel
theorem dX2_make_131 : decode cX2_make 131 = .ok (.aload_n 0, 1) := by decide +kernel
theorem dX2_make_132 : decode cX2_make 132 = .ok (.getfield 45, 3) := by decide +kernel
theorem dX2_make_135 : decode cX2_make 135 = .ok (.aload_n 0, 1) := by decide +kernel
theorem dX2_make_136 : decode cX2_make 136 = .ok (.getfield 48, 3) := by decide +kernel
theorem dX2_make_139 : decode cX2_make 139 = .ok (.aload_n 0, 1) := by decide +kernel
theorem dX2_make_140 : decode cX2_make 140 = .ok (.getfield 12, 3) := by decide +kernel
theorem dX2_make_143 : decode cX2_make 143 = .ok (.invokevirtual 74, 3) := by decide +kernel
theorem dX2_make_146 : decode cX2_make 146 = .ok (.invokevirtual 70, 3) := by decide +kernel
theorem dX2_make_149 : decode cX2_make 149 = .ok (.aload_n 0, 1) := by decide +kernel
theorem dX2_make_150 : decode cX2_make 150 = .ok (.dup, 1) := by decide +kernel
theorem dX2_make_151 : decode cX2_make 151 = .ok (.getfield 48, 3) := by decide +kernel
theorem dX2_make_154 : decode cX2_make 154 = .ok (.iconst 1, 1) := by decide +kernel
theorem dX2_make_155 : decode cX2_make 155 = .ok (.iadd, 1) := by decide +kernel
theorem dX2_make_156 : decode cX2_make 156 = .ok (.putfield 48, 3) := by decide +kernel
theorem dX2_make_159 : decode cX2_make 159 = .ok (.aload_n 0, 1) := by decide +kernel
theorem dX2_make_160 : decode cX2_make 160 = .ok (.getfield 48, 3) := by decide +kernel
theorem dX2_make_163 : decode cX2_make 163 = .ok (.iconst 1, 1) := by decide +kernel
theorem dX2_make_164 : decode cX2_make 164 = .ok (.isub, 1) := by decide +kernel
theorem dX2_make_165 : decode cX2_make 165 = .ok (.ireturn, 1) := by decide +kernel
def cd_15 : dm_Code := [[dm_ald 1 0, dm_inv 4 14 0 2, dm_no, dm_no, dm_ald 5 0, dm_getf 8 2 0, dm_no, dm_no, dm_ild 9 1, dm_inv 12 84 1 6, dm_no, dm_no, dm_ii 13 (fun x y => x + y), dm_ald 14 0, dm_getf 17 2 0, dm_no],
  [dm_no, dm_ild 18 2, dm_inv 21 84 1 6, dm_no, dm_no, dm_ii 22 (fun x y => x + y), dm_ist 24 6, dm_no, dm_ald 25 0, dm_getf 28 2 9, dm_no, dm_no, dm_push 31 (.int 1000), dm_no, dm_no, dm_ic_ge 34 42],
  [dm_no, dm_no, dm_ild 36 6, dm_no, dm_push 39 (.int 20000), dm_no, dm_no, dm_ic_le 42 44, dm_no, dm_no, dm_push 43 (.int (-1)), dm_ret .int, dm_ald 45 0, dm_getf 48 2 1, dm_no, dm_no],
  [dm_ald 49 0, dm_getf 52 2 9, dm_no, dm_no, dm_ild 53 1, dm_inv 56 46 2 3, dm_no, dm_no, dm_ald 57 0, dm_getf 60 2 2, dm_no, dm_no, dm_ald 61 0, dm_getf 64 2 9, dm_no, dm_no],
  [dm_ild 65 2, dm_inv 68 46 2 3, dm_no, dm_no, dm_ald 69 0, dm_getf 72 2 3, dm_no, dm_no, dm_ald 73 0, dm_getf 76 2 9, dm_no, dm_no, dm_ild 77 3, dm_inv 80 46 2 3, dm_no, dm_no],
  [dm_ald 81 0, dm_getf 84 2 4, dm_no, dm_no, dm_ald 85 0, dm_getf 88 2 9, dm_no, dm_no, dm_ild 90 4, dm_no, dm_inv 93 46 2 3, dm_no, dm_no, dm_ald 94 0, dm_getf 97 2 5, dm_no],
  [dm_no, dm_ald 98 0, dm_getf 101 2 9, dm_no, dm_no, dm_ild 103 5, dm_no, dm_inv 106 46 2 3, dm_no, dm_no, dm_ald 107 0, dm_getf 110 2 6, dm_no, dm_no, dm_ald 111 0, dm_getf 114 2 9],
  [dm_no, dm_no, dm_push 115 (.int 1), dm_inv 118 46 2 3, dm_no, dm_no, dm_ald 119 0, dm_getf 122 2 7, dm_no, dm_no, dm_ald 123 0, dm_getf 126 2 9, dm_no, dm_no, dm_ild 128 6, dm_no],
  [dm_inv 131 46 2 3, dm_no, dm_no, dm_ald 132 0, dm_getf 135 2 8, dm_no, dm_no, dm_ald 136 0, dm_getf 139 2 9, dm_no, dm_no, dm_ald 140 0, dm_getf 143 2 0, dm_no, dm_no, dm_inv 146 73 0 6],
  [dm_no, dm_no, dm_inv 149 46 2 3, dm_no, dm_no, dm_ald 150 0, dm_dup 151, dm_getf 154 2 9, dm_no, dm_no, dm_push 155 (.int 1), dm_ii 156 (fun x y => x + y), dm_putf 159 2 9 .int, dm_no, dm_no, dm_ald 160 0],
  [dm_getf 163 2 9, dm_no, dm_no, dm_push 164 (.int 1), dm_ii 165 (fun x y => x - y), dm_ret .int]]
theorem tr_15_0 : dm_AllR (dm_Good dm_tb RX2 cX2_make 7 (some .int) false none) 0 [dm_ald 1 0, dm_inv 4 14 0 2, dm_no, dm_no, dm_ald 5 0, dm_getf 8 2 0, dm_no, dm_no, dm_ild 9 1, dm_inv 12 84 1 6, dm_no, dm_no, dm_ii 13 (fun x y => x + y), dm_ald 14 0, dm_getf 17 2 0, dm_no] := dr_c (dg_aload_n (k := 0) rfl dX2_make_0) <| dr_c (dg_inv dX2_make_1 mo_14 rfl rfl wd_280 wd_281 wd_282 pd_14) <| dr_c (dg_no) <| dr_c (dg_no) <| dr_c (dg_aload_n (k := 0) rfl dX2_make_4) <| dr_c (dg_getf (T := TX2) (C := RX2) (N := 10) dX2_make_5 rfl (by decide) iw_X2 wd_130) <| dr_c (dg_no) <| dr_c (dg_no) <| dr_c (dg_iload_n (k := 1) rfl dX2_make_8) <| dr_c (dg_inv dX2_make_9 mo_84 rfl rfl wd_288 wd_289 wd_290 pd_84) <| dr_c (dg_no) <| dr_c (dg_no) <| dr_c (dg_iadd dX2_make_12) <| dr_c (dg_aload_n (k := 0) rfl dX2_make_13) <| dr_c (dg_getf (T := TX2) (C := RX2) (N := 10) dX2_make_14 rfl (by decide) iw_X2 wd_130) <| dr_c (dg_no) <| dr_n
theorem tr_15_1 : dm_AllR (dm_Good dm_tb RX2 cX2_make 7 (some .int) false none) 16 [dm_no, dm_ild 18 2, dm_inv 21 84 1 6, dm_no, dm_no, dm_ii 22 (fun x y => x + y), dm_ist 24 6, dm_no, dm_ald 25 0, dm_getf 28 2 9, dm_no, dm_no, dm_push 31 (.int 1000), dm_no, dm_no, dm_ic_ge 34 42] := dr_c (dg_no) <| dr_c (dg_iload_n (k := 2) rfl dX2_make_17) <| dr_c (dg_inv dX2_make_18 mo_84 rfl rfl wd_288 wd_289 wd_290 pd_84) <| dr_c (dg_no) <| dr_c (dg_no) <| dr_c (dg_iadd dX2_make_21) <| dr_c (dg_istore (by decide) dX2_make_22) <| dr_c (dg_no) <| dr_c (dg_aload_n (k := 0) rfl dX2_make_24) <| dr_c (dg_getf (T := TX2) (C := RX2) (N := 10) dX2_make_25 rfl (by decide) iw_X2 wd_140) <| dr_c (dg_no) <| dr_c (dg_no) <| dr_c (dg_sipush (by decide) dX2_make_28) <| dr_c (dg_no) <| dr_c (dg_no) <| dr_c (dg_ic_ge (by decide) dX2_make_31) <| dr_n
theorem tr_15_2 : dm_AllR (dm_Good dm_tb RX2 cX2_make 7 (some .int) false none) 32 [dm_no, dm_no, dm_ild 36 6, dm_no, dm_push 39 (.int 20000), dm_no, dm_no, dm_ic_le 42 44, dm_no, dm_no, dm_push 43 (.int (-1)), dm_ret .int, dm_ald 45 0, dm_getf 48 2 1, dm_no, dm_no] := dr_c (dg_no) <| dr_c (dg_no) <| dr_c (dg_iload dX2_make_34) <| dr_c (dg_no) <| dr_c (dg_sipush (by decide) dX2_make_36) <| dr_c (dg_no) <| dr_c (dg_no) <| dr_c (dg_ic_le (by decide) dX2_make_39) <| dr_c (dg_no) <| dr_c (dg_no) <| dr_c (dg_iconst (by decide) dX2_make_42) <| dr_c (dg_ret dX2_make_43) <| dr_c (dg_aload_n (k := 0) rfl dX2_make_44) <| dr_c (dg_getf (T := TX2) (C := RX2) (N := 10) dX2_make_45 rfl (by decide) iw_X2 wd_132) <| dr_c (dg_no) <| dr_c (dg_no) <| dr_n
theorem tr_15_3 : dm_AllR (dm_Good dm_tb RX2 cX2_make 7 (some .int) false none) 48 [dm_ald 49 0, dm_getf 52 2 9, dm_no, dm_no, dm_ild 53 1, dm_inv 56 46 2 3, dm_no, dm_no, dm_ald 57 0, dm_getf 60 2 2, dm_no, dm_no, dm_ald 61 0, dm_getf 64 2 9, dm_no, dm_no] := dr_c (dg_aload_n (k := 0) rfl dX2_make_48) <| dr_c (dg_getf (T := TX2) (C := RX2) (N := 10) dX2_make_49 rfl (by decide) iw_X2 wd_140) <| dr_c (dg_no) <| dr_c (dg_no) <| dr_c (dg_iload_n (k := 1) rfl dX2_make_52) <| dr_c (dg_inv dX2_make_53 mo_46 rfl rfl wd_297 wd_252 wd_253 pd_46) <| dr_c (dg_no) <| dr_c (dg_no) <| dr_c (dg_aload_n (k := 0) rfl dX2_make_56) <| dr_c (dg_getf (T := TX2) (C := RX2) (N := 10) dX2_make_57 rfl (by decide) iw_X2 wd_133) <| dr_c (dg_no) <| dr_c (dg_no) <| dr_c (dg_aload_n (k := 0) rfl dX2_make_60) <| dr_c (dg_getf (T := TX2) (C := RX2) (N := 10) dX2_make_61 rfl (by decide) iw_X2 wd_140) <| dr_c (dg_no) <| dr_c (dg_no) <| dr_n
theorem tr_15_4 : dm_AllR (dm_Good dm_tb RX2 cX2_make 7 (some .int) false none) 64 [dm_ild 65 2, dm_inv 68 46 2 3, dm_no, dm_no, dm_ald 69 0, dm_getf 72 2 3, dm_no, dm_no, dm_ald 73 0, dm_getf 76 2 9, dm_no, dm_no, dm_ild 77 3, dm_inv 80 46 2 3, dm_no, dm_no] := dr_c (dg_iload_n (k := 2) rfl dX2_make_64) <| dr_c (dg_inv dX2_make_65 mo_46 rfl rfl wd_297 wd_252 wd_253 pd_46) <| dr_c (dg_no) <| dr_c (dg_no) <| dr_c (dg_aload_n (k := 0) rfl dX2_make_68) <| dr_c (dg_getf (T := TX2) (C := RX2) (N := 10) dX2_make_69 rfl (by decide) iw_X2 wd_134) <| dr_c (dg_no) <| dr_c (dg_no) <| dr_c (dg_aload_n (k := 0) rfl dX2_make_72) <| dr_c (dg_getf (T := TX2) (C := RX2) (N := 10) dX2_make_73 rfl (by decide) iw_X2 wd_140) <| dr_c (dg_no) <| dr_c (dg_no) <| dr_c (dg_iload_n (k := 3) rfl dX2_make_76) <| dr_c (dg_inv dX2_make_77 mo_46 rfl rfl wd_297 wd_252 wd_253 pd_46) <| dr_c (dg_no) <| dr_c (dg_no) <| dr_n
theorem tr_15_5 : dm_AllR (dm_Good dm_tb RX2 cX2_make 7 (some .int) false none) 80 [dm_ald 81 0, dm_getf 84 2 4, dm_no, dm_no, dm_ald 85 0, dm_getf 88 2 9, dm_no, dm_no, dm_ild 90 4, dm_no, dm_inv 93 46 2 3, dm_no, dm_no, dm_ald 94 0, dm_getf 97 2 5, dm_no] := dr_c (dg_aload_n (k := 0) rfl dX2_make_80) <| dr_c (dg_getf (T := TX2) (C := RX2) (N := 10) dX2_make_81 rfl (by decide) iw_X2 wd_135) <| dr_c (dg_no) <| dr_c (dg_no) <| dr_c (dg_aload_n (k := 0) rfl dX2_make_84) <| dr_c (dg_getf (T := TX2) (C := RX2) (N := 10) dX2_make_85 rfl (by decide) iw_X2 wd_140) <| dr_c (dg_no) <| dr_c (dg_no) <| dr_c (dg_iload dX2_make_88) <| dr_c (dg_no) <| dr_c (dg_inv dX2_make_90 mo_46 rfl rfl wd_297 wd_252 wd_253 pd_46) <| dr_c (dg_no) <| dr_c (dg_no) <| dr_c (dg_aload_n (k := 0) rfl dX2_make_93) <| dr_c (dg_getf (T := TX2) (C := RX2) (N := 10) dX2_make_94 rfl (by decide) iw_X2 wd_136) <| dr_c (dg_no) <| dr_n
theorem tr_15_6 : dm_AllR (dm_Good dm_tb RX2 cX2_make 7 (some .int) false none) 96 [dm_no, dm_ald 98 0, dm_getf 101 2 9, dm_no, dm_no, dm_ild 103 5, dm_no, dm_inv 106 46 2 3, dm_no, dm_no, dm_ald 107 0, dm_getf 110 2 6, dm_no, dm_no, dm_ald 111 0, dm_getf 114 2 9] := dr_c (dg_no) <| dr_c (dg_aload_n (k := 0) rfl dX2_make_97) <| dr_c (dg_getf (T := TX2) (C := RX2) (N := 10) dX2_make_98 rfl (by decide) iw_X2 wd_140) <| dr_c (dg_no) <| dr_c (dg_no) <| dr_c (dg_iload dX2_make_101) <| dr_c (dg_no) <| dr_c (dg_inv dX2_make_103 mo_46 rfl rfl wd_297 wd_252 wd_253 pd_46) <| dr_c (dg_no) <| dr_c (dg_no) <| dr_c (dg_aload_n (k := 0) rfl dX2_make_106) <| dr_c (dg_getf (T := TX2) (C := RX2) (N := 10) dX2_make_107 rfl (by decide) iw_X2 wd_137) <| dr_c (dg_no) <| dr_c (dg_no) <| dr_c (dg_aload_n (k := 0) rfl dX2_make_110) <| dr_c (dg_getf (T := TX2) (C := RX2) (N := 10) dX2_make_111 rfl (by decide) iw_X2 wd_140) <| dr_n
theorem tr_15_7 : dm_AllR (dm_Good dm_tb RX2 cX2_make 7 (some .int) false none) 112 [dm_no, dm_no, dm_push 115 (.int 1), dm_inv 118 46 2 3, dm_no, dm_no, dm_ald 119 0, dm_getf 122 2 7, dm_no, dm_no, dm_ald 123 0, dm_getf 126 2 9, dm_no, dm_no, dm_ild 128 6, dm_no] := dr_c (dg_no) <| dr_c (dg_no) <| dr_c (dg_iconst (by decide) dX2_make_114) <| dr_c (dg_inv dX2_make_115 mo_46 rfl rfl wd_297 wd_252 wd_253 pd_46) <| dr_c (dg_no) <| dr_c (dg_no) <| dr_c (dg_aload_n (k := 0) rfl dX2_make_118) <| dr_c (dg_getf (T := TX2) (C := RX2) (N := 10) dX2_make_119 rfl (by decide) iw_X2 wd_138) <| dr_c (dg_no) <| dr_c (dg_no) <| dr_c (dg_aload_n (k := 0) rfl dX2_make_122) <| dr_c (dg_getf (T := TX2) (C := RX2) (N := 10) dX2_make_123 rfl (by decide) iw_X2 wd_140) <| dr_c (dg_no) <| dr_c (dg_no) <| dr_c (dg_iload dX2_make_126) <| dr_c (dg_no) <| dr_n
theorem tr_15_8 : dm_AllR (dm_Good dm_tb RX2 cX2_make 7 (some .int) false none) 128 [dm_inv 131 46 2 3, dm_no, dm_no, dm_ald 132 0, dm_getf 135 2 8, dm_no, dm_no, dm_ald 136 0, dm_getf 139 2 9, dm_no, dm_no, dm_ald 140 0, dm_getf 143 2 0, dm_no, dm_no, dm_inv 146 73 0 6] := dr_c (dg_inv dX2_make_128 mo_46 rfl rfl wd_297 wd_252 wd_253 pd_46) <| dr_c (dg_no) <| dr_c (dg_no) <| dr_c (dg_aload_n (k := 0) rfl dX2_make_131) <| dr_c (dg_getf (T := TX2) (C := RX2) (N := 10) dX2_make_132 rfl (by decide) iw_X2 wd_139) <| dr_c (dg_no) <| dr_c (dg_no) <| dr_c (dg_aload_n (k := 0) rfl dX2_make_135) <| dr_c (dg_getf (T := TX2) (C := RX2) (N := 10) dX2_make_136 rfl (by decide) iw_X2 wd_140) <| dr_c (dg_no) <| dr_c (dg_no) <| dr_c (dg_aload_n (k := 0) rfl dX2_make_139) <| dr_c (dg_getf (T := TX2) (C := RX2) (N := 10) dX2_make_140 rfl (by decide) iw_X2 wd_130) <| dr_c (dg_no) <| dr_c (dg_no) <| dr_c (dg_inv dX2_make_143 mo_73 rfl rfl wd_298 wd_299 wd_300 pd_73) <| dr_n
theorem tr_15_9 : dm_AllR (dm_Good dm_tb RX2 cX2_make 7 (some .int) false none) 144 [dm_no, dm_no, dm_inv 149 46 2 3, dm_no, dm_no, dm_ald 150 0, dm_dup 151, dm_getf 154 2 9, dm_no, dm_no, dm_push 155 (.int 1), dm_ii 156 (fun x y => x + y), dm_putf 159 2 9 .int, dm_no, dm_no, dm_ald 160 0] := dr_c (dg_no) <| dr_c (dg_no) <| dr_c (dg_inv dX2_make_146 mo_46 rfl rfl wd_297 wd_252 wd_253 pd_46) <| dr_c (dg_no) <| dr_c (dg_no) <| dr_c (dg_aload_n (k := 0) rfl dX2_make_149) <| dr_c (dg_dup dX2_make_150) <| dr_c (dg_getf (T := TX2) (C := RX2) (N := 10) dX2_make_151 rfl (by decide) iw_X2 wd_140) <| dr_c (dg_no) <| dr_c (dg_no) <| dr_c (dg_iconst (by decide) dX2_make_154) <| dr_c (dg_iadd dX2_make_155) <| dr_c (dg_putf (T := TX2) (C := RX2) (N := 10) dX2_make_156 rfl (by decide) iw_X2 tyX2_ok nmX2 wd_140 rfl rfl) <| dr_c (dg_no) <| dr_c (dg_no) <| dr_c (dg_aload_n (k := 0) rfl dX2_make_159) <| dr_n
theorem tr_15_10 : dm_AllR (dm_Good dm_tb RX2 cX2_make 7 (some .int) false none) 160 [dm_getf 163 2 9, dm_no, dm_no, dm_push 164 (.int 1), dm_ii 165 (fun x y => x - y), dm_ret .int] := dr_c (dg_getf (T := TX2) (C := RX2) (N := 10) dX2_make_160 rfl (by decide) iw_X2 wd_140) <| dr_c (dg_no) <| dr_c (dg_no) <| dr_c (dg_iconst (by decide) dX2_make_163) <| dr_c (dg_isub dX2_make_164) <| dr_c (dg_ret dX2_make_165) <| dr_n
theorem tk_15 : dm_AllC (dm_Good dm_tb RX2 cX2_make 7 (some .int) false none) 0 cd_15 := dc_c (by decide) tr_15_0 <| dc_c (by decide) tr_15_1 <| dc_c (by decide) tr_15_2 <| dc_c (by decide) tr_15_3 <| dc_c (by decide) tr_15_4 <| dc_c (by decide) tr_15_5 <| dc_c (by decide) tr_15_6 <| dc_c (by decide) tr_15_7 <| dc_c (by decide) tr_15_8 <| dc_c (by decide) tr_15_9 <| dc_c (by decide) tr_15_10 <| dc_n
theorem dX2_cut_0 : decode cX2_cut 0 = .ok (.aload_n 0, 1) := by decide +kernel
theorem dX2_cut_1 : decode cX2_cut 1 = .ok (.iload_n 1, 1) := by decide +kernel
theorem dX2_cut_2 : decode cX2_cut 2 = .ok (.putfield 48, 3) := by decide +kernel
theorem dX2_cut_5 : decode cX2_cut 5 = .ok (.aload_n 0, 1) := by decide +kernel
theorem dX2_cut_6 : decode cX2_cut 6 = .ok (.getfield 12, 3) := by decide +kernel
theorem dX2_cut_9 : decode cX2_cut 9 = .ok (.aload_n 0, 1) := by decide +kernel
theorem dX2_cut_10 : decode cX2_cut 10 = .ok (.getfield 45, 3) := by decide +kernel
theorem dX2_cut_13 : decode cX2_cut 13 = .ok (.iload_n 1, 1) := by decide +kernel
theorem dX2_cut_14 : decode cX2_cut 14 = .ok (.iconst 1, 1) := by decide +kernel
theorem dX2_cut_15 : decode cX2_cut 15 = .ok (.isub, 1) := by decide +kernel
theorem dX2_cut_16 : decode cX2_cut 16 = .ok (.invokevirtual 59, 3) := by decide +kernel
theorem dX2_cut_19 : decode cX2_cut 19 = .ok (.invokevirtual 77, 3) := by decide +kernel
theorem dX2_cut_22 : decode cX2_cut 22 = .ok (.return_, 1) := by decide +kernel
def cd_16 : dm_Code := [[dm_ald 1 0, dm_ild 2 1, dm_putf 5 2 9 .int, dm_no, dm_no, dm_ald 6 0, dm_getf 9 2 0, dm_no, dm_no, dm_ald 10 0, dm_getf 13 2 8, dm_no, dm_no, dm_ild 14 1, dm_push 15 (.int 1), dm_ii 16 (fun x y => x - y)],
  [dm_inv 19 45 1 3, dm_no, dm_no, dm_inv 22 74 1 6, dm_no, dm_no, dm_vret]]
theorem tr_16_0 : dm_AllR (dm_Good dm_tb RX2 cX2_cut 2 none false none) 0 [dm_ald 1 0, dm_ild 2 1, dm_putf 5 2 9 .int, dm_no, dm_no, dm_ald 6 0, dm_getf 9 2 0, dm_no, dm_no, dm_ald 10 0, dm_getf 13 2 8, dm_no, dm_no, dm_ild 14 1, dm_push 15 (.int 1), dm_ii 16 (fun x y => x - y)] := dr_c (dg_aload_n (k := 0) rfl dX2_cut_0) <| dr_c (dg_iload_n (k := 1) rfl dX2_cut_1) <| dr_c (dg_putf (T := TX2) (C := RX2) (N := 10) dX2_cut_2 rfl (by decide) iw_X2 tyX2_ok nmX2 wd_140 rfl rfl) <| dr_c (dg_no) <| dr_c (dg_no) <| dr_c (dg_aload_n (k := 0) rfl dX2_cut_5) <| dr_c (dg_getf (T := TX2) (C := RX2) (N := 10) dX2_cut_6 rfl (by decide) iw_X2 wd_130) <| dr_c (dg_no) <| dr_c (dg_no) <| dr_c (dg_aload_n (k := 0) rfl dX2_cut_9) <| dr_c (dg_getf (T := TX2) (C := RX2) (N := 10) dX2_cut_10 rfl (by decide) iw_X2 wd_139) <| dr_c (dg_no) <| dr_c (dg_no) <| dr_c (dg_iload_n (k := 1) rfl dX2_cut_13) <| dr_c (dg_iconst (by decide) dX2_cut_14) <| dr_c (dg_isub dX2_cut_15) <| dr_n
theorem tr_16_1 : dm_AllR (dm_Good dm_tb RX2 cX2_cut 2 none false none) 16 [dm_inv 19 45 1 3, dm_no, dm_no, dm_inv 22 74 1 6, dm_no, dm_no, dm_vret] := dr_c (dg_inv dX2_cut_16 mo_45 rfl rfl wd_284 wd_285 wd_286 pd_45) <| dr_c (dg_no) <| dr_c (dg_no) <| dr_c (dg_inv dX2_cut_19 mo_74 rfl rfl wd_435 wd_436 wd_437 pd_74) <| dr_c (dg_no) <| dr_c (dg_no) <| dr_c (dg_vret dX2_cut_22) <| dr_n
theorem tk_16 : dm_AllC (dm_Good dm_tb RX2 cX2_cut 2 none false none) 0 cd_16 := dc_c (by decide) tr_16_0 <| dc_c (by decide) tr_16_1 <| dc_n
theorem dX2_has_0 : decode cX2_has 0 = .ok (.iload_n 1, 1) := by decide +kernel
theorem dX2_has_1 : decode cX2_has 1 = .ok (.ifCond .lt 15, 3) := by decide +kernel
theorem dX2_has_4 : decode cX2_has 4 = .ok (.iload_n 1, 1) := by decide +kernel
theorem dX2_has_5 : decode cX2_has 5 = .ok (.aload_n 0, 1) := by decide +kernel
theorem dX2_has_6 : decode cX2_has 6 = .ok (.getfield 48, 3) := by decide +kernel
theorem dX2_has_9 : decode cX2_has 9 = .ok (.if_icmp .ge 7, 3) := by decide +kernel
theorem dX2_has_12 : decode cX2_has 12 = .ok (.iconst 1, 1) := by decide +kernel
theorem dX2_has_13 : decode cX2_has 13 = .ok (.goto 4, 3) := by decide +kernel
theorem dX2_has_16 : decode cX2_has 16 = .ok (.iconst 0, 1) := by decide +kernel
theorem dX2_has_17 : decode cX2_has 17 = .ok (.ireturn, 1) := by decide +kernel
def cd_17 : dm_Code := [[dm_ild 1 1, dm_if_lt 4 16, dm_no, dm_no, dm_ild 5 1, dm_ald 6 0, dm_getf 9 2 9, dm_no, dm_no, dm_ic_ge 12 16, dm_no, dm_no, dm_push 13 (.int 1), dm_goto 17, dm_no, dm_no],
  [dm_push 17 (.int 0), dm_ret .boolean]]
theorem tr_17_0 : dm_AllR (dm_Good dm_tb RX2 cX2_has 2 (some .boolean) false none) 0 [dm_ild 1 1, dm_if_lt 4 16, dm_no, dm_no, dm_ild 5 1, dm_ald 6 0, dm_getf 9 2 9, dm_no, dm_no, dm_ic_ge 12 16, dm_no, dm_no, dm_push 13 (.int 1), dm_goto 17, dm_no, dm_no] := dr_c (dg_iload_n (k := 1) rfl dX2_has_0) <| dr_c (dg_if_lt (by decide) dX2_has_1) <| dr_c (dg_no) <| dr_c (dg_no) <| dr_c (dg_iload_n (k := 1) rfl dX2_has_4) <| dr_c (dg_aload_n (k := 0) rfl dX2_has_5) <| dr_c (dg_getf (T := TX2) (C := RX2) (N := 10) dX2_has_6 rfl (by decide) iw_X2 wd_140) <| dr_c (dg_no) <| dr_c (dg_no) <| dr_c (dg_ic_ge (by decide) dX2_has_9) <| dr_c (dg_no) <| dr_c (dg_no) <| dr_c (dg_iconst (by decide) dX2_has_12) <| dr_c (dg_goto (by decide) dX2_has_13) <| dr_c (dg_no) <| dr_c (dg_no) <| dr_n
theorem tr_17_1 : dm_AllR (dm_Good dm_tb RX2 cX2_has 2 (some .boolean) false none) 16 [dm_push 17 (.int 0), dm_ret .boolean] := dr_c (dg_iconst (by decide) dX2_has_16) <| dr_c (dg_ret dX2_has_17) <| dr_n
theorem tk_17 : dm_AllC (dm_Good dm_tb RX2 cX2_has 2 (some .boolean) false none) 0 cd_17 := dc_c (by decide) tr_17_0 <| dc_c (by decide) tr_17_1 <| dc_n
theorem dX2_ownOf_0 : decode cX2_ownOf 0 = .ok (.aload_n 0, 1) := by decide +kernel
theorem dX2_ownOf_1 : decode cX2_ownOf 1 = .ok (.getfield 23, 3) := by decide +kernel
theorem dX2_ownOf_4 : decode cX2_ownOf 4 = .ok (.iload_n 1, 1) := by decide +kernel
theorem dX2_ownOf_5 : decode cX2_ownOf 5 = .ok (.invokevirtual 59, 3) := by decide +kernel
theorem dX2_ownOf_8 : decode cX2_ownOf 8 = .ok (.ireturn, 1) := by decide +kernel
def cd_18 : dm_Code := [[dm_ald 1 0, dm_getf 4 2 1, dm_no, dm_no, dm_ild 5 1, dm_inv 8 45 1 3, dm_no, dm_no, dm_ret .int]]
theorem tr_18_0 : dm_AllR (dm_Good dm_tb RX2 cX2_ownOf 2 (some .int) false none) 0 [dm_ald 1 0, dm_getf 4 2 1, dm_no, dm_no, dm_ild 5 1, dm_inv 8 45 1 3, dm_no, dm_no, dm_ret .int] := dr_c (dg_aload_n (k := 0) rfl dX2_ownOf_0) <| dr_c (dg_getf (T := TX2) (C := RX2) (N := 10) dX2_ownOf_1 rfl (by decide) iw_X2 wd_132) <| dr_c (dg_no) <| dr_c (dg_no) <| dr_c (dg_iload_n (k := 1) rfl dX2_ownOf_4) <| dr_c (dg_inv dX2_ownOf_5 mo_45 rfl rfl wd_284 wd_285 wd_286 pd_45) <| dr_c (dg_no) <| dr_c (dg_no) <| dr_c (dg_ret dX2_ownOf_8) <| dr_n
theorem tk_18 : dm_AllC (dm_Good dm_tb RX2 cX2_ownOf 2 (some .int) false none) 0 cd_18 := dc_c (by decide) tr_18_0 <| dc_n
theorem dX2_knownOf_0 : decode cX2_knownOf 0 = .ok (.aload_n 0, 1) := by decide +kernel
theorem dX2_knownOf_1 : decode cX2_knownOf 1 = .ok (.getfield 27, 3) := by decide +kernel
theorem dX2_knownOf_4 : decode cX2_knownOf 4 = .ok (.iload_n 1, 1) := by decide +kernel
theorem dX2_knownOf_5 : decode cX2_knownOf 5 = .ok (.invokevirtual 59, 3) := by decide +kernel
theorem dX2_knownOf_8 : decode cX2_knownOf 8 = .ok (.ireturn, 1) := by decide +kernel
def cd_19 : dm_Code := [[dm_ald 1 0, dm_getf 4 2 2, dm_no, dm_no, dm_ild 5 1, dm_inv 8 45 1 3, dm_no, dm_no, dm_ret .int]]
theorem tr_19_0 : dm_AllR (dm_Good dm_tb RX2 cX2_knownOf 2 (some .int) false none) 0 [dm_ald 1 0, dm_getf 4 2 2, dm_no, dm_no, dm_ild 5 1, dm_inv 8 45 1 3, dm_no, dm_no, dm_ret .int] := dr_c (dg_aload_n (k := 0) rfl dX2_knownOf_0) <| dr_c (dg_getf (T := TX2) (C := RX2) (N := 10) dX2_knownOf_1 rfl (by decide) iw_X2 wd_133) <| dr_c (dg_no) <| dr_c (dg_no) <| dr_c (dg_iload_n (k := 1) rfl dX2_knownOf_4) <| dr_c (dg_inv dX2_knownOf_5 mo_45 rfl rfl wd_284 wd_285 wd_286 pd_45) <| dr_c (dg_no) <| dr_c (dg_no) <| dr_c (dg_ret dX2_knownOf_8) <| dr_n
theorem tk_19 : dm_AllC (dm_Good dm_tb RX2 cX2_knownOf 2 (some .int) false none) 0 cd_19 := dc_c (by decide) tr_19_0 <| dc_n
theorem dX2_howOf_0 : decode cX2_howOf 0 = .ok (.aload_n 0, 1) := by decide +kernel
theorem dX2_howOf_1 : decode cX2_howOf 1 = .ok (.getfield 30, 3) := by decide +kernel
theorem dX2_howOf_4 : decode cX2_howOf 4 = .ok (.iload_n 1, 1) := by decide +kernel
theorem dX2_howOf_5 : decode cX2_howOf 5 = .ok (.invokevirtual 59, 3) := by decide +kernel
theorem dX2_howOf_8 : decode cX2_howOf 8 = .ok (.ireturn, 1) := by decide +kernel
def cd_20 : dm_Code := [[dm_ald 1 0, dm_getf 4 2 3, dm_no, dm_no, dm_ild 5 1, dm_inv 8 45 1 3, dm_no, dm_no, dm_ret .int]]
theorem tr_20_0 : dm_AllR (dm_Good dm_tb RX2 cX2_howOf 2 (some .int) false none) 0 [dm_ald 1 0, dm_getf 4 2 3, dm_no, dm_no, dm_ild 5 1, dm_inv 8 45 1 3, dm_no, dm_no, dm_ret .int] := dr_c (dg_aload_n (k := 0) rfl dX2_howOf_0) <| dr_c (dg_getf (T := TX2) (C := RX2) (N := 10) dX2_howOf_1 rfl (by decide) iw_X2 wd_134) <| dr_c (dg_no) <| dr_c (dg_no) <| dr_c (dg_iload_n (k := 1) rfl dX2_howOf_4) <| dr_c (dg_inv dX2_howOf_5 mo_45 rfl rfl wd_284 wd_285 wd_286 pd_45) <| dr_c (dg_no) <| dr_c (dg_no) <| dr_c (dg_ret dX2_howOf_8) <| dr_n
theorem tk_20 : dm_AllC (dm_Good dm_tb RX2 cX2_howOf 2 (some .int) false none) 0 cd_20 := dc_c (by decide) tr_20_0 <| dc_n
theorem dX2_firstOf_0 : decode cX2_firstOf 0 = .ok (.aload_n 0, 1) := by decide +kernel
theorem dX2_firstOf_1 : decode cX2_firstOf 1 = .ok (.getfield 33, 3) := by decide +kernel
theorem dX2_firstOf_4 : decode cX2_firstOf 4 = .ok (.iload_n 1, 1) := by decide +kernel
theorem dX2_firstOf_5 : decode cX2_firstOf 5 = .ok (.invokevirtual 59, 3) := by decide +kernel
theorem dX2_firstOf_8 : decode cX2_firstOf 8 = .ok (.ireturn, 1) := by decide +kernel
def cd_21 : dm_Code := [[dm_ald 1 0, dm_getf 4 2 4, dm_no, dm_no, dm_ild 5 1, dm_inv 8 45 1 3, dm_no, dm_no, dm_ret .int]]
theorem tr_21_0 : dm_AllR (dm_Good dm_tb RX2 cX2_firstOf 2 (some .int) false none) 0 [dm_ald 1 0, dm_getf 4 2 4, dm_no, dm_no, dm_ild 5 1, dm_inv 8 45 1 3, dm_no, dm_no, dm_ret .int] := dr_c (dg_aload_n (k := 0) rfl dX2_firstOf_0) <| dr_c (dg_getf (T := TX2) (C := RX2) (N := 10) dX2_firstOf_1 rfl (by decide) iw_X2 wd_135) <| dr_c (dg_no) <| dr_c (dg_no) <| dr_c (dg_iload_n (k := 1) rfl dX2_firstOf_4) <| dr_c (dg_inv dX2_firstOf_5 mo_45 rfl rfl wd_284 wd_285 wd_286 pd_45) <| dr_c (dg_no) <| dr_c (dg_no) <| dr_c (dg_ret dX2_firstOf_8) <| dr_n
theorem tk_21 : dm_AllC (dm_Good dm_tb RX2 cX2_firstOf 2 (some .int) false none) 0 cd_21 := dc_c (by decide) tr_21_0 <| dc_n
theorem dX2_secondOf_0 : decode cX2_secondOf 0 = .ok (.aload_n 0, 1) := by decide +kernel
theorem dX2_secondOf_1 : decode cX2_secondOf 1 = .ok (.getfield 36, 3) := by decide +kernel
theorem dX2_secondOf_4 : decode cX2_secondOf 4 = .ok (.iload_n 1, 1) := by decide +kernel
theorem dX2_secondOf_5 : decode cX2_secondOf 5 = .ok (.invokevirtual 59, 3) := by decide +kernel
theorem dX2_secondOf_8 : decode cX2_secondOf 8 = .ok (.ireturn, 1) := by decide +kernel
def cd_22 : dm_Code := [[dm_ald 1 0, dm_getf 4 2 5, dm_no, dm_no, dm_ild 5 1, dm_inv 8 45 1 3, dm_no, dm_no, dm_ret .int]]
theorem tr_22_0 : dm_AllR (dm_Good dm_tb RX2 cX2_secondOf 2 (some .int) false none) 0 [dm_ald 1 0, dm_getf 4 2 5, dm_no, dm_no, dm_ild 5 1, dm_inv 8 45 1 3, dm_no, dm_no, dm_ret .int] := dr_c (dg_aload_n (k := 0) rfl dX2_secondOf_0) <| dr_c (dg_getf (T := TX2) (C := RX2) (N := 10) dX2_secondOf_1 rfl (by decide) iw_X2 wd_136) <| dr_c (dg_no) <| dr_c (dg_no) <| dr_c (dg_iload_n (k := 1) rfl dX2_secondOf_4) <| dr_c (dg_inv dX2_secondOf_5 mo_45 rfl rfl wd_284 wd_285 wd_286 pd_45) <| dr_c (dg_no) <| dr_c (dg_no) <| dr_c (dg_ret dX2_secondOf_8) <| dr_n
theorem tk_22 : dm_AllC (dm_Good dm_tb RX2 cX2_secondOf 2 (some .int) false none) 0 cd_22 := dc_c (by decide) tr_22_0 <| dc_n
theorem dX2_stateOf_0 : decode cX2_stateOf 0 = .ok (.aload_n 0, 1) := by decide +kernel
theorem dX2_stateOf_1 : decode cX2_stateOf 1 = .ok (.getfield 39, 3) := by decide +kernel
theorem dX2_stateOf_4 : decode cX2_stateOf 4 = .ok (.iload_n 1, 1) := by decide +kernel
theorem dX2_stateOf_5 : decode cX2_stateOf 5 = .ok (.invokevirtual 59, 3) := by decide +kernel
theorem dX2_stateOf_8 : decode cX2_stateOf 8 = .ok (.ireturn, 1) := by decide +kernel
def cd_23 : dm_Code := [[dm_ald 1 0, dm_getf 4 2 6, dm_no, dm_no, dm_ild 5 1, dm_inv 8 45 1 3, dm_no, dm_no, dm_ret .int]]
theorem tr_23_0 : dm_AllR (dm_Good dm_tb RX2 cX2_stateOf 2 (some .int) false none) 0 [dm_ald 1 0, dm_getf 4 2 6, dm_no, dm_no, dm_ild 5 1, dm_inv 8 45 1 3, dm_no, dm_no, dm_ret .int] := dr_c (dg_aload_n (k := 0) rfl dX2_stateOf_0) <| dr_c (dg_getf (T := TX2) (C := RX2) (N := 10) dX2_stateOf_1 rfl (by decide) iw_X2 wd_137) <| dr_c (dg_no) <| dr_c (dg_no) <| dr_c (dg_iload_n (k := 1) rfl dX2_stateOf_4) <| dr_c (dg_inv dX2_stateOf_5 mo_45 rfl rfl wd_284 wd_285 wd_286 pd_45) <| dr_c (dg_no) <| dr_c (dg_no) <| dr_c (dg_ret dX2_stateOf_8) <| dr_n
theorem tk_23 : dm_AllC (dm_Good dm_tb RX2 cX2_stateOf 2 (some .int) false none) 0 cd_23 := dc_c (by decide) tr_23_0 <| dc_n
theorem dX2_setState_0 : decode cX2_setState 0 = .ok (.aload_n 0, 1) := by decide +kernel
theorem dX2_setState_1 : decode cX2_setState 1 = .ok (.getfield 39, 3) := by decide +kernel
theorem dX2_setState_4 : decode cX2_setState 4 = .ok (.iload_n 1, 1) := by decide +kernel
theorem dX2_setState_5 : decode cX2_setState 5 = .ok (.iload_n 2, 1) := by decide +kernel
theorem dX2_setState_6 : decode cX2_setState 6 = .ok (.invokevirtual 70, 3) := by decide +kernel
theorem dX2_setState_9 : decode cX2_setState 9 = .ok (.return_, 1) := by decide +kernel
def cd_24 : dm_Code := [[dm_ald 1 0, dm_getf 4 2 6, dm_no, dm_no, dm_ild 5 1, dm_ild 6 2, dm_inv 9 46 2 3, dm_no, dm_no, dm_vret]]
theorem tr_24_0 : dm_AllR (dm_Good dm_tb RX2 cX2_setState 3 none false none) 0 [dm_ald 1 0, dm_getf 4 2 6, dm_no, dm_no, dm_ild 5 1, dm_ild 6 2, dm_inv 9 46 2 3, dm_no, dm_no, dm_vret] := dr_c (dg_aload_n (k := 0) rfl dX2_setState_0) <| dr_c (dg_getf (T := TX2) (C := RX2) (N := 10) dX2_setState_1 rfl (by decide) iw_X2 wd_137) <| dr_c (dg_no) <| dr_c (dg_no) <| dr_c (dg_iload_n (k := 1) rfl dX2_setState_4) <| dr_c (dg_iload_n (k := 2) rfl dX2_setState_5) <| dr_c (dg_inv dX2_setState_6 mo_46 rfl rfl wd_297 wd_252 wd_253 pd_46) <| dr_c (dg_no) <| dr_c (dg_no) <| dr_c (dg_vret dX2_setState_9) <| dr_n
theorem tk_24 : dm_AllC (dm_Good dm_tb RX2 cX2_setState 3 none false none) 0 cd_24 := dc_c (by decide) tr_24_0 <| dc_n
theorem dX2_ownsNothing_0 : decode cX2_ownsNothing 0 = .ok (.aload_n 0, 1) := by decide +kernel
theorem dX2_ownsNothing_1 : decode cX2_ownsNothing 1 = .ok (.getfield 12, 3) := by decide +kernel
theorem dX2_ownsNothing_4 : decode cX2_ownsNothing 4 = .ok (.aload_n 0, 1) := by decide +kernel
theorem dX2_ownsNothing_5 : decode cX2_ownsNothing 5 = .ok (.iload_n 1, 1) := by decide +kernel
theorem dX2_ownsNothing_6 : decode cX2_ownsNothing 6 = .ok (.invokevirtual 80, 3) := by decide +kernel
theorem dX2_ownsNothing_9 : decode cX2_ownsNothing 9 = .ok (.iconst 0, 1) := by decide +kernel
theorem dX2_ownsNothing_10 : decode cX2_ownsNothing 10 = .ok (.invokevirtual 83, 3) := by decide +kernel
theorem dX2_ownsNothing_13 : decode cX2_ownsNothing 13 = .ok (.ireturn, 1) := by decide +kernel
def cd_25 : dm_Code := [[dm_ald 1 0, dm_getf 4 2 0, dm_no, dm_no, dm_ald 5 0, dm_ild 6 1, dm_inv 9 18 1 2, dm_no, dm_no, dm_push 10 (.int 0), dm_inv 13 78 2 6, dm_no, dm_no, dm_ret .boolean]]
theorem tr_25_0 : dm_AllR (dm_Good dm_tb RX2 cX2_ownsNothing 2 (some .boolean) false none) 0 [dm_ald 1 0, dm_getf 4 2 0, dm_no, dm_no, dm_ald 5 0, dm_ild 6 1, dm_inv 9 18 1 2, dm_no, dm_no, dm_push 10 (.int 0), dm_inv 13 78 2 6, dm_no, dm_no, dm_ret .boolean] := dr_c (dg_aload_n (k := 0) rfl dX2_ownsNothing_0) <| dr_c (dg_getf (T := TX2) (C := RX2) (N := 10) dX2_ownsNothing_1 rfl (by decide) iw_X2 wd_130) <| dr_c (dg_no) <| dr_c (dg_no) <| dr_c (dg_aload_n (k := 0) rfl dX2_ownsNothing_4) <| dr_c (dg_iload_n (k := 1) rfl dX2_ownsNothing_5) <| dr_c (dg_inv dX2_ownsNothing_6 mo_18 rfl rfl wd_372 wd_373 wd_374 pd_18) <| dr_c (dg_no) <| dr_c (dg_no) <| dr_c (dg_iconst (by decide) dX2_ownsNothing_9) <| dr_c (dg_inv dX2_ownsNothing_10 mo_78 rfl rfl wd_376 wd_377 wd_378 pd_78) <| dr_c (dg_no) <| dr_c (dg_no) <| dr_c (dg_ret dX2_ownsNothing_13) <| dr_n
theorem tk_25 : dm_AllC (dm_Good dm_tb RX2 cX2_ownsNothing 2 (some .boolean) false none) 0 cd_25 := dc_c (by decide) tr_25_0 <| dc_n
theorem dX2_isLiving_0 : decode cX2_isLiving 0 = .ok (.aload_n 0, 1) := by decide +kernel
theorem dX2_isLiving_1 : decode cX2_isLiving 1 = .ok (.iload_n 1, 1) := by decide +kernel
theorem dX2_isLiving_2 : decode cX2_isLiving 2 = .ok (.invokevirtual 87, 3) := by decide +kernel
theorem dX2_isLiving_5 : decode cX2_isLiving 5 = .ok (.ifCond .eq 16, 3) := by decide +kernel
theorem dX2_isLiving_8 : decode cX2_isLiving 8 = .ok (.aload_n 0, 1) := by decide +kernel
theorem dX2_isLiving_9 : decode cX2_isLiving 9 = .ok (.iload_n 1, 1) := by decide +kernel
theorem dX2_isLiving_10 : decode cX2_isLiving 10 = .ok (.invokevirtual 91, 3) := by decide +kernel
theorem dX2_isLiving_13 : decode cX2_isLiving 13 = .ok (.iconst 1, 1) := by decide +kernel
theorem dX2_isLiving_14 : decode cX2_isLiving 14 = .ok (.if_icmp .ne 7, 3) := by decide +kernel
theorem dX2_isLiving_17 : decode cX2_isLiving 17 = .ok (.iconst 1, 1) := by decide +kernel
theorem dX2_isLiving_18 : decode cX2_isLiving 18 = .ok (.goto 4, 3) := by decide +kernel
theorem dX2_isLiving_21 : decode cX2_isLiving 21 = .ok (.iconst 0, 1) := by decide +kernel
theorem dX2_isLiving_22 : decode cX2_isLiving 22 = .ok (.ireturn, 1) := by decide +kernel
def cd_26 : dm_Code := [[dm_ald 1 0, dm_ild 2 1, dm_inv 5 17 1 2, dm_no, dm_no, dm_if_eq 8 21, dm_no, dm_no, dm_ald 9 0, dm_ild 10 1, dm_inv 13 23 1 2, dm_no, dm_no, dm_push 14 (.int 1), dm_ic_ne 17 21, dm_no],
  [dm_no, dm_push 18 (.int 1), dm_goto 22, dm_no, dm_no, dm_push 22 (.int 0), dm_ret .boolean]]
theorem tr_26_0 : dm_AllR (dm_Good dm_tb RX2 cX2_isLiving 2 (some .boolean) false none) 0 [dm_ald 1 0, dm_ild 2 1, dm_inv 5 17 1 2, dm_no, dm_no, dm_if_eq 8 21, dm_no, dm_no, dm_ald 9 0, dm_ild 10 1, dm_inv 13 23 1 2, dm_no, dm_no, dm_push 14 (.int 1), dm_ic_ne 17 21, dm_no] := dr_c (dg_aload_n (k := 0) rfl dX2_isLiving_0) <| dr_c (dg_iload_n (k := 1) rfl dX2_isLiving_1) <| dr_c (dg_inv dX2_isLiving_2 mo_17 rfl rfl wd_360 wd_361 wd_362 pd_17) <| dr_c (dg_no) <| dr_c (dg_no) <| dr_c (dg_if_eq (by decide) dX2_isLiving_5) <| dr_c (dg_no) <| dr_c (dg_no) <| dr_c (dg_aload_n (k := 0) rfl dX2_isLiving_8) <| dr_c (dg_iload_n (k := 1) rfl dX2_isLiving_9) <| dr_c (dg_inv dX2_isLiving_10 mo_23 rfl rfl wd_364 wd_365 wd_366 pd_23) <| dr_c (dg_no) <| dr_c (dg_no) <| dr_c (dg_iconst (by decide) dX2_isLiving_13) <| dr_c (dg_ic_ne (by decide) dX2_isLiving_14) <| dr_c (dg_no) <| dr_n
theorem tr_26_1 : dm_AllR (dm_Good dm_tb RX2 cX2_isLiving 2 (some .boolean) false none) 16 [dm_no, dm_push 18 (.int 1), dm_goto 22, dm_no, dm_no, dm_push 22 (.int 0), dm_ret .boolean] := dr_c (dg_no) <| dr_c (dg_iconst (by decide) dX2_isLiving_17) <| dr_c (dg_goto (by decide) dX2_isLiving_18) <| dr_c (dg_no) <| dr_c (dg_no) <| dr_c (dg_iconst (by decide) dX2_isLiving_21) <| dr_c (dg_ret dX2_isLiving_22) <| dr_n
theorem tk_26 : dm_AllC (dm_Good dm_tb RX2 cX2_isLiving 2 (some .boolean) false none) 0 cd_26 := dc_c (by decide) tr_26_0 <| dc_c (by decide) tr_26_1 <| dc_n
theorem dX2_isOwner_0 : decode cX2_isOwner 0 = .ok (.aload_n 0, 1) := by decide +kernel
theorem dX2_isOwner_1 : decode cX2_isOwner 1 = .ok (.iload_n 1, 1) := by decide +kernel
theorem dX2_isOwner_2 : decode cX2_isOwner 2 = .ok (.invokevirtual 94, 3) := by decide +kernel
theorem dX2_isOwner_5 : decode cX2_isOwner 5 = .ok (.ifCond .eq 15, 3) := by decide +kernel
theorem dX2_isOwner_8 : decode cX2_isOwner 8 = .ok (.aload_n 0, 1) := by decide +kernel
theorem dX2_isOwner_9 : decode cX2_isOwner 9 = .ok (.iload_n 1, 1) := by decide +kernel
theorem dX2_isOwner_10 : decode cX2_isOwner 10 = .ok (.invokevirtual 97, 3) := by decide +kernel
theorem dX2_isOwner_13 : decode cX2_isOwner 13 = .ok (.ifCond .ne 7, 3) := by decide +kernel
theorem dX2_isOwner_16 : decode cX2_isOwner 16 = .ok (.iconst 1, 1) := by decide +kernel
theorem dX2_isOwner_17 : decode cX2_isOwner 17 = .ok (.goto 4, 3) := by decide +kernel
theorem dX2_isOwner_20 : decode cX2_isOwner 20 = .ok (.iconst 0, 1) := by decide +kernel
theorem dX2_isOwner_21 : decode cX2_isOwner 21 = .ok (.ireturn, 1) := by decide +kernel
def cd_27 : dm_Code := [[dm_ald 1 0, dm_ild 2 1, dm_inv 5 26 1 2, dm_no, dm_no, dm_if_eq 8 20, dm_no, dm_no, dm_ald 9 0, dm_ild 10 1, dm_inv 13 25 1 2, dm_no, dm_no, dm_if_ne 16 20, dm_no, dm_no],
  [dm_push 17 (.int 1), dm_goto 21, dm_no, dm_no, dm_push 21 (.int 0), dm_ret .boolean]]
theorem tr_27_0 : dm_AllR (dm_Good dm_tb RX2 cX2_isOwner 2 (some .boolean) false none) 0 [dm_ald 1 0, dm_ild 2 1, dm_inv 5 26 1 2, dm_no, dm_no, dm_if_eq 8 20, dm_no, dm_no, dm_ald 9 0, dm_ild 10 1, dm_inv 13 25 1 2, dm_no, dm_no, dm_if_ne 16 20, dm_no, dm_no] := dr_c (dg_aload_n (k := 0) rfl dX2_isOwner_0) <| dr_c (dg_iload_n (k := 1) rfl dX2_isOwner_1) <| dr_c (dg_inv dX2_isOwner_2 mo_26 rfl rfl wd_356 wd_357 wd_358 pd_26) <| dr_c (dg_no) <| dr_c (dg_no) <| dr_c (dg_if_eq (by decide) dX2_isOwner_5) <| dr_c (dg_no) <| dr_c (dg_no) <| dr_c (dg_aload_n (k := 0) rfl dX2_isOwner_8) <| dr_c (dg_iload_n (k := 1) rfl dX2_isOwner_9) <| dr_c (dg_inv dX2_isOwner_10 mo_25 rfl rfl wd_368 wd_369 wd_370 pd_25) <| dr_c (dg_no) <| dr_c (dg_no) <| dr_c (dg_if_ne (by decide) dX2_isOwner_13) <| dr_c (dg_no) <| dr_c (dg_no) <| dr_n
theorem tr_27_1 : dm_AllR (dm_Good dm_tb RX2 cX2_isOwner 2 (some .boolean) false none) 16 [dm_push 17 (.int 1), dm_goto 21, dm_no, dm_no, dm_push 21 (.int 0), dm_ret .boolean] := dr_c (dg_iconst (by decide) dX2_isOwner_16) <| dr_c (dg_goto (by decide) dX2_isOwner_17) <| dr_c (dg_no) <| dr_c (dg_no) <| dr_c (dg_iconst (by decide) dX2_isOwner_20) <| dr_c (dg_ret dX2_isOwner_21) <| dr_n
theorem tk_27 : dm_AllC (dm_Good dm_tb RX2 cX2_isOwner 2 (some .boolean) false none) 0 cd_27 := dc_c (by decide) tr_27_0 <| dc_c (by decide) tr_27_1 <| dc_n
theorem dX2_isLost_0 : decode cX2_isLost 0 = .ok (.aload_n 0, 1) := by decide +kernel
theorem dX2_isLost_1 : decode cX2_isLost 1 = .ok (.iload_n 1, 1) := by decide +kernel
theorem dX2_isLost_2 : decode cX2_isLost 2 = .ok (.invokevirtual 87, 3) := by decide +kernel
theorem dX2_isLost_5 : decode cX2_isLost 5 = .ok (.ifCond .eq 16, 3) := by decide +kernel
theorem dX2_isLost_8 : decode cX2_isLost 8 = .ok (.aload_n 0, 1) := by decide +kernel
theorem dX2_isLost_9 : decode cX2_isLost 9 = .ok (.iload_n 1, 1) := by decide +kernel
theorem dX2_isLost_10 : decode cX2_isLost 10 = .ok (.invokevirtual 91, 3) := by decide +kernel
theorem dX2_isLost_13 : decode cX2_isLost 13 = .ok (.iconst 2, 1) := by decide +kernel
theorem dX2_isLost_14 : decode cX2_isLost 14 = .ok (.if_icmp .ne 7, 3) := by decide +kernel
theorem dX2_isLost_17 : decode cX2_isLost 17 = .ok (.iconst 1, 1) := by decide +kernel
theorem dX2_isLost_18 : decode cX2_isLost 18 = .ok (.goto 4, 3) := by decide +kernel
theorem dX2_isLost_21 : decode cX2_isLost 21 = .ok (.iconst 0, 1) := by decide +kernel
theorem dX2_isLost_22 : decode cX2_isLost 22 = .ok (.ireturn, 1) := by decide +kernel
def cd_28 : dm_Code := [[dm_ald 1 0, dm_ild 2 1, dm_inv 5 17 1 2, dm_no, dm_no, dm_if_eq 8 21, dm_no, dm_no, dm_ald 9 0, dm_ild 10 1, dm_inv 13 23 1 2, dm_no, dm_no, dm_push 14 (.int 2), dm_ic_ne 17 21, dm_no],
  [dm_no, dm_push 18 (.int 1), dm_goto 22, dm_no, dm_no, dm_push 22 (.int 0), dm_ret .boolean]]
theorem tr_28_0 : dm_AllR (dm_Good dm_tb RX2 cX2_isLost 2 (some .boolean) false none) 0 [dm_ald 1 0, dm_ild 2 1, dm_inv 5 17 1 2, dm_no, dm_no, dm_if_eq 8 21, dm_no, dm_no, dm_ald 9 0, dm_ild 10 1, dm_inv 13 23 1 2, dm_no, dm_no, dm_push 14 (.int 2), dm_ic_ne 17 21, dm_no] := dr_c (dg_aload_n (k := 0) rfl dX2_isLost_0) <| dr_c (dg_iload_n (k := 1) rfl dX2_isLost_1) <| dr_c (dg_inv dX2_isLost_2 mo_17 rfl rfl wd_360 wd_361 wd_362 pd_17) <| dr_c (dg_no) <| dr_c (dg_no) <| dr_c (dg_if_eq (by decide) dX2_isLost_5) <| dr_c (dg_no) <| dr_c (dg_no) <| dr_c (dg_aload_n (k := 0) rfl dX2_isLost_8) <| dr_c (dg_iload_n (k := 1) rfl dX2_isLost_9) <| dr_c (dg_inv dX2_isLost_10 mo_23 rfl rfl wd_364 wd_365 wd_366 pd_23) <| dr_c (dg_no) <| dr_c (dg_no) <| dr_c (dg_iconst (by decide) dX2_isLost_13) <| dr_c (dg_ic_ne (by decide) dX2_isLost_14) <| dr_c (dg_no) <| dr_n
theorem tr_28_1 : dm_AllR (dm_Good dm_tb RX2 cX2_isLost 2 (some .boolean) false none) 16 [dm_no, dm_push 18 (.int 1), dm_goto 22, dm_no, dm_no, dm_push 22 (.int 0), dm_ret .boolean] := dr_c (dg_no) <| dr_c (dg_iconst (by decide) dX2_isLost_17) <| dr_c (dg_goto (by decide) dX2_isLost_18) <| dr_c (dg_no) <| dr_c (dg_no) <| dr_c (dg_iconst (by decide) dX2_isLost_21) <| dr_c (dg_ret dX2_isLost_22) <| dr_n
theorem tk_28 : dm_AllC (dm_Good dm_tb RX2 cX2_isLost 2 (some .boolean) false none) 0 cd_28 := dc_c (by decide) tr_28_0 <| dc_c (by decide) tr_28_1 <| dc_n
theorem dX2_spend_0 : decode cX2_spend 0 = .ok (.aload_n 0, 1) := by decide +kernel
theorem dX2_spend_1 : decode cX2_spend 1 = .ok (.iload_n 1, 1) := by decide +kernel
theorem dX2_spend_2 : decode cX2_spend 2 = .ok (.invokevirtual 87, 3) := by decide +kernel
theorem dX2_spend_5 : decode cX2_spend 5 = .ok (.ifCond .eq 17, 3) := by decide +kernel
theorem dX2_spend_8 : decode cX2_spend 8 = .ok (.aload_n 0, 1) := by decide +kernel
theorem dX2_spend_9 : decode cX2_spend 9 = .ok (.iload_n 1, 1) := by decide +kernel
theorem dX2_spend_10 : decode cX2_spend 10 = .ok (.invokevirtual 97, 3) := by decide +kernel
theorem dX2_spend_13 : decode cX2_spend 13 = .ok (.ifCond .ne 9, 3) := by decide +kernel
theorem dX2_spend_16 : decode cX2_spend 16 = .ok (.aload_n 0, 1) := by decide +kernel
theorem dX2_spend_17 : decode cX2_spend 17 = .ok (.iload_n 1, 1) := by decide +kernel
theorem dX2_spend_18 : decode cX2_spend 18 = .ok (.iconst 0, 1) := by decide +kernel
theorem dX2_spend_19 : decode cX2_spend 19 = .ok (.invokevirtual 100, 3) := by decide +kernel
theorem dX2_spend_22 : decode cX2_spend 22 = .ok (.return_, 1) := by decide +kernel
def cd_29 : dm_Code := [[dm_ald 1 0, dm_ild 2 1, dm_inv 5 17 1 2, dm_no, dm_no, dm_if_eq 8 22, dm_no, dm_no, dm_ald 9 0, dm_ild 10 1, dm_inv 13 25 1 2, dm_no, dm_no, dm_if_ne 16 22, dm_no, dm_no],
  [dm_ald 17 0, dm_ild 18 1, dm_push 19 (.int 0), dm_inv 22 24 2 2, dm_no, dm_no, dm_vret]]
theorem tr_29_0 : dm_AllR (dm_Good dm_tb RX2 cX2_spend 2 none false none) 0 [dm_ald 1 0, dm_ild 2 1, dm_inv 5 17 1 2, dm_no, dm_no, dm_if_eq 8 22, dm_no, dm_no, dm_ald 9 0, dm_ild 10 1, dm_inv 13 25 1 2, dm_no, dm_no, dm_if_ne 16 22, dm_no, dm_no] := dr_c (dg_aload_n (k := 0) rfl dX2_spend_0) <| dr_c (dg_iload_n (k := 1) rfl dX2_spend_1) <| dr_c (dg_inv dX2_spend_2 mo_17 rfl rfl wd_360 wd_361 wd_362 pd_17) <| dr_c (dg_no) <| dr_c (dg_no) <| dr_c (dg_if_eq (by decide) dX2_spend_5) <| dr_c (dg_no) <| dr_c (dg_no) <| dr_c (dg_aload_n (k := 0) rfl dX2_spend_8) <| dr_c (dg_iload_n (k := 1) rfl dX2_spend_9) <| dr_c (dg_inv dX2_spend_10 mo_25 rfl rfl wd_368 wd_369 wd_370 pd_25) <| dr_c (dg_no) <| dr_c (dg_no) <| dr_c (dg_if_ne (by decide) dX2_spend_13) <| dr_c (dg_no) <| dr_c (dg_no) <| dr_n
theorem tr_29_1 : dm_AllR (dm_Good dm_tb RX2 cX2_spend 2 none false none) 16 [dm_ald 17 0, dm_ild 18 1, dm_push 19 (.int 0), dm_inv 22 24 2 2, dm_no, dm_no, dm_vret] := dr_c (dg_aload_n (k := 0) rfl dX2_spend_16) <| dr_c (dg_iload_n (k := 1) rfl dX2_spend_17) <| dr_c (dg_iconst (by decide) dX2_spend_18) <| dr_c (dg_inv dX2_spend_19 mo_24 rfl rfl wd_449 wd_450 wd_451 pd_24) <| dr_c (dg_no) <| dr_c (dg_no) <| dr_c (dg_vret dX2_spend_22) <| dr_n
theorem tk_29 : dm_AllC (dm_Good dm_tb RX2 cX2_spend 2 none false none) 0 cd_29 := dc_c (by decide) tr_29_0 <| dc_c (by decide) tr_29_1 <| dc_n
theorem dX2_owners_0 : decode cX2_owners 0 = .ok (.iconst 0, 1) := by decide +kernel
theorem dX2_owners_1 : decode cX2_owners 1 = .ok (.istore_n 1, 1) := by decide +kernel
theorem dX2_owners_2 : decode cX2_owners 2 = .ok (.iconst 0, 1) := by decide +kernel
theorem dX2_owners_3 : decode cX2_owners 3 = .ok (.istore_n 2, 1) := by decide +kernel
theorem dX2_owners_4 : decode cX2_owners 4 = .ok (.iload_n 2, 1) := by decide +kernel
theorem dX2_owners_5 : decode cX2_owners 5 = .ok (.aload_n 0, 1) := by decide +kernel
theorem dX2_owners_6 : decode cX2_owners 6 = .ok (.getfield 48, 3) := by decide +kernel
theorem dX2_owners_9 : decode cX2_owners 9 = .ok (.if_icmp .ge 25, 3) := by decide +kernel
theorem dX2_owners_12 : decode cX2_owners 12 = .ok (.iload_n 1, 1) := by decide +kernel
theorem dX2_owners_13 : decode cX2_owners 13 = .ok (.aload_n 0, 1) := by decide +kernel
theorem dX2_owners_14 : decode cX2_owners 14 = .ok (.iload_n 2, 1) := by decide +kernel
theorem dX2_owners_15 : decode cX2_owners 15 = .ok (.invokevirtual 103, 3) := by decide +kernel
theorem dX2_owners_18 : decode cX2_owners 18 = .ok (.ifCond .eq 7, 3) := by decide +kernel
theorem dX2_owners_21 : decode cX2_owners 21 = .ok (.iconst 1, 1) := by decide +kernel
theorem dX2_owners_22 : decode cX2_owners 22 = .ok (.goto 4, 3) := by decide +kernel
theorem dX2_owners_25 : decode cX2_owners 25 = .ok (.iconst 0, 1) := by decide +kernel
theorem dX2_owners_26 : decode cX2_owners 26 = .ok (.iadd, 1) := by decide +kernel
theorem dX2_owners_27 : decode cX2_owners 27 = .ok (.istore_n 1, 1) := by decide +kernel
theorem dX2_owners_28 : decode cX2_owners 28 = .ok (.iinc 2 1, 3) := by decide +kernel
theorem dX2_owners_31 : decode cX2_owners 31 = .ok (.goto (-27), 3) := by decide +kernel
theorem dX2_owners_34 : decode cX2_owners 34 = .ok (.iload_n 1, 1) := by decide +kernel
theorem dX2_owners_35 : decode cX2_owners 35 = .ok (.ireturn, 1) := by decide +kernel
def cd_30 : dm_Code := [[dm_push 1 (.int 0), dm_ist 2 1, dm_push 3 (.int 0), dm_ist 4 2, dm_ild 5 2, dm_ald 6 0, dm_getf 9 2 9, dm_no, dm_no, dm_ic_ge 12 34, dm_no, dm_no, dm_ild 13 1, dm_ald 14 0, dm_ild 15 2, dm_inv 18 27 1 2],
  [dm_no, dm_no, dm_if_eq 21 25, dm_no, dm_no, dm_push 22 (.int 1), dm_goto 26, dm_no, dm_no, dm_push 26 (.int 0), dm_ii 27 (fun x y => x + y), dm_ist 28 1, dm_iinc 31 2 1, dm_no, dm_no, dm_goto 4],
  [dm_no, dm_no, dm_ild 35 1, dm_ret .int]]
theorem tr_30_0 : dm_AllR (dm_Good dm_tb RX2 cX2_owners 3 (some .int) false none) 0 [dm_push 1 (.int 0), dm_ist 2 1, dm_push 3 (.int 0), dm_ist 4 2, dm_ild 5 2, dm_ald 6 0, dm_getf 9 2 9, dm_no, dm_no, dm_ic_ge 12 34, dm_no, dm_no, dm_ild 13 1, dm_ald 14 0, dm_ild 15 2, dm_inv 18 27 1 2] := dr_c (dg_iconst (by decide) dX2_owners_0) <| dr_c (dg_istore_n (k := 1) rfl (by decide) dX2_owners_1) <| dr_c (dg_iconst (by decide) dX2_owners_2) <| dr_c (dg_istore_n (k := 2) rfl (by decide) dX2_owners_3) <| dr_c (dg_iload_n (k := 2) rfl dX2_owners_4) <| dr_c (dg_aload_n (k := 0) rfl dX2_owners_5) <| dr_c (dg_getf (T := TX2) (C := RX2) (N := 10) dX2_owners_6 rfl (by decide) iw_X2 wd_140) <| dr_c (dg_no) <| dr_c (dg_no) <| dr_c (dg_ic_ge (by decide) dX2_owners_9) <| dr_c (dg_no) <| dr_c (dg_no) <| dr_c (dg_iload_n (k := 1) rfl dX2_owners_12) <| dr_c (dg_aload_n (k := 0) rfl dX2_owners_13) <| dr_c (dg_iload_n (k := 2) rfl dX2_owners_14) <| dr_c (dg_inv dX2_owners_15 mo_27 rfl rfl wd_811 wd_353 wd_354 pd_27) <| dr_n
theorem tr_30_1 : dm_AllR (dm_Good dm_tb RX2 cX2_owners 3 (some .int) false none) 16 [dm_no, dm_no, dm_if_eq 21 25, dm_no, dm_no, dm_push 22 (.int 1), dm_goto 26, dm_no, dm_no, dm_push 26 (.int 0), dm_ii 27 (fun x y => x + y), dm_ist 28 1, dm_iinc 31 2 1, dm_no, dm_no, dm_goto 4] := dr_c (dg_no) <| dr_c (dg_no) <| dr_c (dg_if_eq (by decide) dX2_owners_18) <| dr_c (dg_no) <| dr_c (dg_no) <| dr_c (dg_iconst (by decide) dX2_owners_21) <| dr_c (dg_goto (by decide) dX2_owners_22) <| dr_c (dg_no) <| dr_c (dg_no) <| dr_c (dg_iconst (by decide) dX2_owners_25) <| dr_c (dg_iadd dX2_owners_26) <| dr_c (dg_istore_n (k := 1) rfl (by decide) dX2_owners_27) <| dr_c (dg_iinc (by decide) (by decide) dX2_owners_28) <| dr_c (dg_no) <| dr_c (dg_no) <| dr_c (dg_goto (by decide) dX2_owners_31) <| dr_n
theorem tr_30_2 : dm_AllR (dm_Good dm_tb RX2 cX2_owners 3 (some .int) false none) 32 [dm_no, dm_no, dm_ild 35 1, dm_ret .int] := dr_c (dg_no) <| dr_c (dg_no) <| dr_c (dg_iload_n (k := 1) rfl dX2_owners_34) <| dr_c (dg_ret dX2_owners_35) <| dr_n
theorem tk_30 : dm_AllC (dm_Good dm_tb RX2 cX2_owners 3 (some .int) false none) 0 cd_30 := dc_c (by decide) tr_30_0 <| dc_c (by decide) tr_30_1 <| dc_c (by decide) tr_30_2 <| dc_n
theorem dX2_lostOnes_0 : decode cX2_lostOnes 0 = .ok (.iconst 0, 1) := by decide +kernel
theorem dX2_lostOnes_1 : decode cX2_lostOnes 1 = .ok (.istore_n 1, 1) := by decide +kernel
theorem dX2_lostOnes_2 : decode cX2_lostOnes 2 = .ok (.iconst 0, 1) := by decide +kernel
theorem dX2_lostOnes_3 : decode cX2_lostOnes 3 = .ok (.istore_n 2, 1) := by decide +kernel
theorem dX2_lostOnes_4 : decode cX2_lostOnes 4 = .ok (.iload_n 2, 1) := by decide +kernel
theorem dX2_lostOnes_5 : decode cX2_lostOnes 5 = .ok (.aload_n 0, 1) := by decide +kernel
theorem dX2_lostOnes_6 : decode cX2_lostOnes 6 = .ok (.getfield 48, 3) := by decide +kernel
theorem dX2_lostOnes_9 : decode cX2_lostOnes 9 = .ok (.if_icmp .ge 25, 3) := by decide +kernel
theorem dX2_lostOnes_12 : decode cX2_lostOnes 12 = .ok (.iload_n 1, 1) := by decide +kernel
theorem dX2_lostOnes_13 : decode cX2_lostOnes 13 = .ok (.aload_n 0, 1) := by decide +kernel
theorem dX2_lostOnes_14 : decode cX2_lostOnes 14 = .ok (.iload_n 2, 1) := by decide +kernel
theorem dX2_lostOnes_15 : decode cX2_lostOnes 15 = .ok (.invokevirtual 106, 3) := by decide +kernel
theorem dX2_lostOnes_18 : decode cX2_lostOnes 18 = .ok (.ifCond .eq 7, 3) := by decide +kernel
theorem dX2_lostOnes_21 : decode cX2_lostOnes 21 = .ok (.iconst 1, 1) := by decide +kernel
theorem dX2_lostOnes_22 : decode cX2_lostOnes 22 = .ok (.goto 4, 3) := by decide +kernel
theorem dX2_lostOnes_25 : decode cX2_lostOnes 25 = .ok (.iconst 0, 1) := by decide +kernel
theorem dX2_lostOnes_26 : decode cX2_lostOnes 26 = .ok (.iadd, 1) := by decide +kernel
theorem dX2_lostOnes_27 : decode cX2_lostOnes 27 = .ok (.istore_n 1, 1) := by decide +kernel
theorem dX2_lostOnes_28 : decode cX2_lostOnes 28 = .ok (.iinc 2 1, 3) := by decide +kernel
theorem dX2_lostOnes_31 : decode cX2_lostOnes 31 = .ok (.goto (-27), 3) := by decide +kernel
theorem dX2_lostOnes_34 : decode cX2_lostOnes 34 = .ok (.iload_n 1, 1) := by decide +kernel
theorem dX2_lostOnes_35 : decode cX2_lostOnes 35 = .ok (.ireturn, 1) := by decide +kernel
def cd_31 : dm_Code := [[dm_push 1 (.int 0), dm_ist 2 1, dm_push 3 (.int 0), dm_ist 4 2, dm_ild 5 2, dm_ald 6 0, dm_getf 9 2 9, dm_no, dm_no, dm_ic_ge 12 34, dm_no, dm_no, dm_ild 13 1, dm_ald 14 0, dm_ild 15 2, dm_inv 18 28 1 2],
  [dm_no, dm_no, dm_if_eq 21 25, dm_no, dm_no, dm_push 22 (.int 1), dm_goto 26, dm_no, dm_no, dm_push 26 (.int 0), dm_ii 27 (fun x y => x + y), dm_ist 28 1, dm_iinc 31 2 1, dm_no, dm_no, dm_goto 4],
  [dm_no, dm_no, dm_ild 35 1, dm_ret .int]]
theorem tr_31_0 : dm_AllR (dm_Good dm_tb RX2 cX2_lostOnes 3 (some .int) false none) 0 [dm_push 1 (.int 0), dm_ist 2 1, dm_push 3 (.int 0), dm_ist 4 2, dm_ild 5 2, dm_ald 6 0, dm_getf 9 2 9, dm_no, dm_no, dm_ic_ge 12 34, dm_no, dm_no, dm_ild 13 1, dm_ald 14 0, dm_ild 15 2, dm_inv 18 28 1 2] := dr_c (dg_iconst (by decide) dX2_lostOnes_0) <| dr_c (dg_istore_n (k := 1) rfl (by decide) dX2_lostOnes_1) <| dr_c (dg_iconst (by decide) dX2_lostOnes_2) <| dr_c (dg_istore_n (k := 2) rfl (by decide) dX2_lostOnes_3) <| dr_c (dg_iload_n (k := 2) rfl dX2_lostOnes_4) <| dr_c (dg_aload_n (k := 0) rfl dX2_lostOnes_5) <| dr_c (dg_getf (T := TX2) (C := RX2) (N := 10) dX2_lostOnes_6 rfl (by decide) iw_X2 wd_140) <| dr_c (dg_no) <| dr_c (dg_no) <| dr_c (dg_ic_ge (by decide) dX2_lostOnes_9) <| dr_c (dg_no) <| dr_c (dg_no) <| dr_c (dg_iload_n (k := 1) rfl dX2_lostOnes_12) <| dr_c (dg_aload_n (k := 0) rfl dX2_lostOnes_13) <| dr_c (dg_iload_n (k := 2) rfl dX2_lostOnes_14) <| dr_c (dg_inv dX2_lostOnes_15 mo_28 rfl rfl wd_816 wd_547 wd_548 pd_28) <| dr_n
theorem tr_31_1 : dm_AllR (dm_Good dm_tb RX2 cX2_lostOnes 3 (some .int) false none) 16 [dm_no, dm_no, dm_if_eq 21 25, dm_no, dm_no, dm_push 22 (.int 1), dm_goto 26, dm_no, dm_no, dm_push 26 (.int 0), dm_ii 27 (fun x y => x + y), dm_ist 28 1, dm_iinc 31 2 1, dm_no, dm_no, dm_goto 4] := dr_c (dg_no) <| dr_c (dg_no) <| dr_c (dg_if_eq (by decide) dX2_lostOnes_18) <| dr_c (dg_no) <| dr_c (dg_no) <| dr_c (dg_iconst (by decide) dX2_lostOnes_21) <| dr_c (dg_goto (by decide) dX2_lostOnes_22) <| dr_c (dg_no) <| dr_c (dg_no) <| dr_c (dg_iconst (by decide) dX2_lostOnes_25) <| dr_c (dg_iadd dX2_lostOnes_26) <| dr_c (dg_istore_n (k := 1) rfl (by decide) dX2_lostOnes_27) <| dr_c (dg_iinc (by decide) (by decide) dX2_lostOnes_28) <| dr_c (dg_no) <| dr_c (dg_no) <| dr_c (dg_goto (by decide) dX2_lostOnes_31) <| dr_n
theorem tr_31_2 : dm_AllR (dm_Good dm_tb RX2 cX2_lostOnes 3 (some .int) false none) 32 [dm_no, dm_no, dm_ild 35 1, dm_ret .int] := dr_c (dg_no) <| dr_c (dg_no) <| dr_c (dg_iload_n (k := 1) rfl dX2_lostOnes_34) <| dr_c (dg_ret dX2_lostOnes_35) <| dr_n
theorem tk_31 : dm_AllC (dm_Good dm_tb RX2 cX2_lostOnes 3 (some .int) false none) 0 cd_31 := dc_c (by decide) tr_31_0 <| dc_c (by decide) tr_31_1 <| dc_c (by decide) tr_31_2 <| dc_n
theorem dX2_events_0 : decode cX2_events 0 = .ok (.iconst 0, 1) := by decide +kernel
theorem dX2_events_1 : decode cX2_events 1 = .ok (.istore_n 1, 1) := by decide +kernel
theorem dX2_events_2 : decode cX2_events 2 = .ok (.iconst 0, 1) := by decide +kernel
theorem dX2_events_3 : decode cX2_events 3 = .ok (.istore_n 2, 1) := by decide +kernel
theorem dX2_events_4 : decode cX2_events 4 = .ok (.iload_n 2, 1) := by decide +kernel
theorem dX2_events_5 : decode cX2_events 5 = .ok (.aload_n 0, 1) := by decide +kernel
theorem dX2_events_6 : decode cX2_events 6 = .ok (.getfield 48, 3) := by decide +kernel
theorem dX2_events_9 : decode cX2_events 9 = .ok (.if_icmp .ge 26, 3) := by decide +kernel
theorem dX2_events_12 : decode cX2_events 12 = .ok (.iload_n 1, 1) := by decide +kernel
theorem dX2_events_13 : decode cX2_events 13 = .ok (.aload_n 0, 1) := by decide +kernel
theorem dX2_events_14 : decode cX2_events 14 = .ok (.iload_n 2, 1) := by decide +kernel
theorem dX2_events_15 : decode cX2_events 15 = .ok (.invokevirtual 109, 3) := by decide +kernel
theorem dX2_events_18 : decode cX2_events 18 = .ok (.iconst 2, 1) := by decide +kernel
theorem dX2_events_19 : decode cX2_events 19 = .ok (.if_icmp .ne 7, 3) := by decide +kernel
theorem dX2_events_22 : decode cX2_events 22 = .ok (.iconst 1, 1) := by decide +kernel
theorem dX2_events_23 : decode cX2_events 23 = .ok (.goto 4, 3) := by decide +kernel
theorem dX2_events_26 : decode cX2_events 26 = .ok (.iconst 0, 1) := by decide +kernel
theorem dX2_events_27 : decode cX2_events 27 = .ok (.iadd, 1) := by decide +kernel
theorem dX2_events_28 : decode cX2_events 28 = .ok (.istore_n 1, 1) := by decide +kernel
theorem dX2_events_29 : decode cX2_events 29 = .ok (.iinc 2 1, 3) := by decide +kernel
theorem dX2_events_32 : decode cX2_events 32 = .ok (.goto (-28), 3) := by decide +kernel
theorem dX2_events_35 : decode cX2_events 35 = .ok (.iload_n 1, 1) := by decide +kernel
theorem dX2_events_36 : decode cX2_events 36 = .ok (.ireturn, 1) := by decide +kernel
def cd_32 : dm_Code := [[dm_push 1 (.int 0), dm_ist 2 1, dm_push 3 (.int 0), dm_ist 4 2, dm_ild 5 2, dm_ald 6 0, dm_getf 9 2 9, dm_no, dm_no, dm_ic_ge 12 35, dm_no, dm_no, dm_ild 13 1, dm_ald 14 0, dm_ild 15 2, dm_inv 18 20 1 2],
  [dm_no, dm_no, dm_push 19 (.int 2), dm_ic_ne 22 26, dm_no, dm_no, dm_push 23 (.int 1), dm_goto 27, dm_no, dm_no, dm_push 27 (.int 0), dm_ii 28 (fun x y => x + y), dm_ist 29 1, dm_iinc 32 2 1, dm_no, dm_no],
  [dm_goto 4, dm_no, dm_no, dm_ild 36 1, dm_ret .int]]
theorem tr_32_0 : dm_AllR (dm_Good dm_tb RX2 cX2_events 3 (some .int) false none) 0 [dm_push 1 (.int 0), dm_ist 2 1, dm_push 3 (.int 0), dm_ist 4 2, dm_ild 5 2, dm_ald 6 0, dm_getf 9 2 9, dm_no, dm_no, dm_ic_ge 12 35, dm_no, dm_no, dm_ild 13 1, dm_ald 14 0, dm_ild 15 2, dm_inv 18 20 1 2] := dr_c (dg_iconst (by decide) dX2_events_0) <| dr_c (dg_istore_n (k := 1) rfl (by decide) dX2_events_1) <| dr_c (dg_iconst (by decide) dX2_events_2) <| dr_c (dg_istore_n (k := 2) rfl (by decide) dX2_events_3) <| dr_c (dg_iload_n (k := 2) rfl dX2_events_4) <| dr_c (dg_aload_n (k := 0) rfl dX2_events_5) <| dr_c (dg_getf (T := TX2) (C := RX2) (N := 10) dX2_events_6 rfl (by decide) iw_X2 wd_140) <| dr_c (dg_no) <| dr_c (dg_no) <| dr_c (dg_ic_ge (by decide) dX2_events_9) <| dr_c (dg_no) <| dr_c (dg_no) <| dr_c (dg_iload_n (k := 1) rfl dX2_events_12) <| dr_c (dg_aload_n (k := 0) rfl dX2_events_13) <| dr_c (dg_iload_n (k := 2) rfl dX2_events_14) <| dr_c (dg_inv dX2_events_15 mo_20 rfl rfl wd_821 wd_603 wd_604 pd_20) <| dr_n
theorem tr_32_1 : dm_AllR (dm_Good dm_tb RX2 cX2_events 3 (some .int) false none) 16 [dm_no, dm_no, dm_push 19 (.int 2), dm_ic_ne 22 26, dm_no, dm_no, dm_push 23 (.int 1), dm_goto 27, dm_no, dm_no, dm_push 27 (.int 0), dm_ii 28 (fun x y => x + y), dm_ist 29 1, dm_iinc 32 2 1, dm_no, dm_no] := dr_c (dg_no) <| dr_c (dg_no) <| dr_c (dg_iconst (by decide) dX2_events_18) <| dr_c (dg_ic_ne (by decide) dX2_events_19) <| dr_c (dg_no) <| dr_c (dg_no) <| dr_c (dg_iconst (by decide) dX2_events_22) <| dr_c (dg_goto (by decide) dX2_events_23) <| dr_c (dg_no) <| dr_c (dg_no) <| dr_c (dg_iconst (by decide) dX2_events_26) <| dr_c (dg_iadd dX2_events_27) <| dr_c (dg_istore_n (k := 1) rfl (by decide) dX2_events_28) <| dr_c (dg_iinc (by decide) (by decide) dX2_events_29) <| dr_c (dg_no) <| dr_c (dg_no) <| dr_n
theorem tr_32_2 : dm_AllR (dm_Good dm_tb RX2 cX2_events 3 (some .int) false none) 32 [dm_goto 4, dm_no, dm_no, dm_ild 36 1, dm_ret .int] := dr_c (dg_goto (by decide) dX2_events_32) <| dr_c (dg_no) <| dr_c (dg_no) <| dr_c (dg_iload_n (k := 1) rfl dX2_events_35) <| dr_c (dg_ret dX2_events_36) <| dr_n
theorem tk_32 : dm_AllC (dm_Good dm_tb RX2 cX2_events 3 (some .int) false none) 0 cd_32 := dc_c (by decide) tr_32_0 <| dc_c (by decide) tr_32_1 <| dc_c (by decide) tr_32_2 <| dc_n
theorem dX2_copyFrom_0 : decode cX2_copyFrom 0 = .ok (.aload_n 0, 1) := by decide +kernel
theorem dX2_copyFrom_1 : decode cX2_copyFrom 1 = .ok (.aload_n 1, 1) := by decide +kernel
theorem dX2_copyFrom_2 : decode cX2_copyFrom 2 = .ok (.getfield 48, 3) := by decide +kernel
theorem dX2_copyFrom_5 : decode cX2_copyFrom 5 = .ok (.putfield 48, 3) := by decide +kernel
theorem dX2_copyFrom_8 : decode cX2_copyFrom 8 = .ok (.aload_n 0, 1) := by decide +kernel
theorem dX2_copyFrom_9 : decode cX2_copyFrom 9 = .ok (.getfield 12, 3) := by decide +kernel
theorem dX2_copyFrom_12 : decode cX2_copyFrom 12 = .ok (.aload_n 1, 1) := by decide +kernel
theorem dX2_copyFrom_13 : decode cX2_copyFrom 13 = .ok (.getfield 12, 3) := by decide +kernel
theorem dX2_copyFrom_16 : decode cX2_copyFrom 16 = .ok (.invokevirtual 112, 3) := by decide +kernel
theorem dX2_copyFrom_19 : decode cX2_copyFrom 19 = .ok (.aload_n 0, 1) := by decide +kernel
theorem dX2_copyFrom_20 : decode cX2_copyFrom 20 = .ok (.getfield 23, 3) := by decide +kernel
theorem dX2_copyFrom_23 : decode cX2_copyFrom 23 = .ok (.aload_n 1, 1) := by decide +kernel
theorem dX2_copyFrom_24 : decode cX2_copyFrom 24 = .ok (.getfield 23, 3) := by decide +kernel
theorem dX2_copyFrom_27 : decode cX2_copyFrom 27 = .ok (.aload_n 0, 1) := by decide +kernel
theorem dX2_copyFrom_28 : decode cX2_copyFrom 28 = .ok (.getfield 48, 3) := by decide +kernel
theorem dX2_copyFrom_31 : decode cX2_copyFrom 31 = .ok (.invokevirtual 116, 3) := by decide +kernel
theorem dX2_copyFrom_34 : decode cX2_copyFrom 34 = .ok (.aload_n 0, 1) := by decide +kernel
theorem dX2_copyFrom_35 : decode cX2_copyFrom 35 = .ok (.getfield 27, 3) := by decide +kernel
theorem dX2_copyFrom_38 : decode cX2_copyFrom 38 = .ok (.aload_n 1, 1) := by decide +kernel
theorem dX2_copyFrom_39 : decode cX2_copyFrom 39 = .ok (.getfield 27, 3) := by decide +kernel
theorem dX2_copyFrom_42 : decode cX2_copyFrom 42 = .ok (.aload_n 0, 1) := by decide +kernel
theorem dX2_copyFrom_43 : decode cX2_copyFrom 43 = .ok (.getfield 48, 3) := by decide +kernel
theorem dX2_copyFrom_46 : decode cX2_copyFrom 46 = .ok (.invokevirtual 116, 3) := by decide +kernel
theorem dX2_copyFrom_49 : decode cX2_copyFrom 49 = .ok (.aload_n 0, 1) := by decide +kernel
theorem dX2_copyFrom_50 : decode cX2_copyFrom 50 = .ok (.getfield 30, 3) := by decide +kernel
theorem dX2_copyFrom_53 : decode cX2_copyFrom 53 = .ok (.aload_n 1, 1) := by decide +kernel
theorem dX2_copyFrom_54 : decode cX2_copyFrom 54 = .ok (.getfield 30, 3) := by decide +kernel
theorem dX2_copyFrom_57 : decode cX2_copyFrom 57 = .ok (.aload_n 0, 1) := by decide +kernel
theorem dX2_copyFrom_58 : decode cX2_copyFrom 58 = .ok (.getfield 48, 3) := by decide +kernel
theorem dX2_copyFrom_61 : decode cX2_copyFrom 61 = .ok (.invokevirtual 116, 3) := by decide +kernel
theorem dX2_copyFrom_64 : decode cX2_copyFrom 64 = .ok (.aload_n 0, 1) := by decide +kernel
theorem dX2_copyFrom_65 : decode cX2_copyFrom 65 = .ok (.getfield 33, 3) := by decide +kernel
theorem dX2_copyFrom_68 : decode cX2_copyFrom 68 = .ok (.aload_n 1, 1) := by decide +kernel
theorem dX2_copyFrom_69 : decode cX2_copyFrom 69 = .ok (.getfield 33, 3) := by decide +kernel
theorem dX2_copyFrom_72 : decode cX2_copyFrom 72 = .ok (.aload_n 0, 1) := by decide +kernel
theorem dX2_copyFrom_73 : decode cX2_copyFrom 73 = .ok (.getfield 48, 3) := by decide +kernel
theorem dX2_copyFrom_76 : decode cX2_copyFrom 76 = .ok (.invokevirtual 116, 3) := by decide +kernel
theorem dX2_copyFrom_79 : decode cX2_copyFrom 79 = .ok (.aload_n 0, 1) := by decide +kernel
theorem dX2_copyFrom_80 : decode cX2_copyFrom 80 = .ok (.getfield 36, 3) := by decide +kernel
theorem dX2_copyFrom_83 : decode cX2_copyFrom 83 = .ok (.aload_n 1, 1) := by decide +kernel
theorem dX2_copyFrom_84 : decode cX2_copyFrom 84 = .ok (.getfield 36, 3) := by decide +kernel
theorem dX2_copyFrom_87 : decode cX2_copyFrom 87 = .ok (.aload_n 0, 1) := by decide +kernel
theorem dX2_copyFrom_88 : decode cX2_copyFrom 88 = .ok (.getfield 48, 3) := by decide +kernel
theorem dX2_copyFrom_91 : decode cX2_copyFrom 91 = .ok (.invokevirtual 116, 3) := by decide +kernel
theorem dX2_copyFrom_94 : decode cX2_copyFrom 94 = .ok (.aload_n 0, 1) := by decide +kernel
theorem dX2_copyFrom_95 : decode cX2_copyFrom 95 = .ok (.getfield 39, 3) := by decide +kernel
theorem dX2_copyFrom_98 : decode cX2_copyFrom 98 = .ok (.aload_n 1, 1) := by decide +kernel
theorem dX2_copyFrom_99 : decode cX2_copyFrom 99 = .ok (.getfield 39, 3) := by decide +kernel
theorem dX2_copyFrom_102 : decode cX2_copyFrom 102 = .ok (.aload_n 0, 1) := by decide +kernel
theorem dX2_copyFrom_103 : decode cX2_copyFrom 103 = .ok (.getfield 48, 3) := by decide +kernel
theorem dX2_copyFrom_106 : decode cX2_copyFrom 106 = .ok (.invokevirtual 116, 3) := by decide +kernel
theorem dX2_copyFrom_109 : decode cX2_copyFrom 109 = .ok (.aload_n 0, 1) := by decide +kernel
theorem dX2_copyFrom_110 : decode cX2_copyFrom 110 = .ok (.getfield 42, 3) := by decide +kernel
theorem dX2_copyFrom_113 : decode cX2_copyFrom 113 = .ok (.aload_n 1, 1) := by decide +kernel
theorem dX2_copyFrom_114 : decode cX2_copyFrom 114 = .ok (.getfield 42, 3) := by decide +kernel
theorem dX2_copyFrom_117 : decode cX2_copyFrom 117 = .ok (.aload_n 0, 1) := by decide +kernel
theorem dX2_copyFrom_118 : decode cX2_copyFrom 118 = .ok (.getfield 48, 3) := by decide +kernel
theorem dX2_copyFrom_121 : decode cX2_copyFrom 121 = .ok (.invokevirtual 116, 3) := by decide +kernel
theorem dX2_copyFrom_124 : decode cX2_copyFrom 124 = .ok (.aload_n 0, 1) := by decide +kernel
theorem dX2_copyFrom_125 : decode cX2_copyFrom 125 = .ok (.getfield 45, 3) := by decide +kernel
theorem dX2_copyFrom_128 : decode cX2_copyFrom 128 = .ok (.aload_n 1, 1) := by decide +kernel
theorem dX2_copyFrom_129 : decode cX2_copyFrom 129 = .ok (.getfield 45, 3) := by decide +kernel
theorem dX2_copyFrom_132 : decode cX2_copyFrom 132 = .ok (.aload_n 0, 1) := by decide +kernel
theorem dX2_copyFrom_133 : decode cX2_copyFrom 133 = .ok (.getfield 48, 3) := by decide +kernel
theorem dX2_copyFrom_136 : decode cX2_copyFrom 136 = .ok (.invokevirtual 116, 3) := by decide +kernel
theorem dX2_copyFrom_139 : decode cX2_copyFrom 139 = .ok (.return_, 1) := by decide +kernel
def cd_33 : dm_Code := [[dm_ald 1 0, dm_ald 2 1, dm_getf 5 2 9, dm_no, dm_no, dm_putf 8 2 9 .int, dm_no, dm_no, dm_ald 9 0, dm_getf 12 2 0, dm_no, dm_no, dm_ald 13 1, dm_getf 16 2 0, dm_no, dm_no],
  [dm_inv 19 90 1 6, dm_no, dm_no, dm_ald 20 0, dm_getf 23 2 1, dm_no, dm_no, dm_ald 24 1, dm_getf 27 2 1, dm_no, dm_no, dm_ald 28 0, dm_getf 31 2 9, dm_no, dm_no, dm_inv 34 47 2 3],
  [dm_no, dm_no, dm_ald 35 0, dm_getf 38 2 2, dm_no, dm_no, dm_ald 39 1, dm_getf 42 2 2, dm_no, dm_no, dm_ald 43 0, dm_getf 46 2 9, dm_no, dm_no, dm_inv 49 47 2 3, dm_no],
  [dm_no, dm_ald 50 0, dm_getf 53 2 3, dm_no, dm_no, dm_ald 54 1, dm_getf 57 2 3, dm_no, dm_no, dm_ald 58 0, dm_getf 61 2 9, dm_no, dm_no, dm_inv 64 47 2 3, dm_no, dm_no],
  [dm_ald 65 0, dm_getf 68 2 4, dm_no, dm_no, dm_ald 69 1, dm_getf 72 2 4, dm_no, dm_no, dm_ald 73 0, dm_getf 76 2 9, dm_no, dm_no, dm_inv 79 47 2 3, dm_no, dm_no, dm_ald 80 0],
  [dm_getf 83 2 5, dm_no, dm_no, dm_ald 84 1, dm_getf 87 2 5, dm_no, dm_no, dm_ald 88 0, dm_getf 91 2 9, dm_no, dm_no, dm_inv 94 47 2 3, dm_no, dm_no, dm_ald 95 0, dm_getf 98 2 6],
  [dm_no, dm_no, dm_ald 99 1, dm_getf 102 2 6, dm_no, dm_no, dm_ald 103 0, dm_getf 106 2 9, dm_no, dm_no, dm_inv 109 47 2 3, dm_no, dm_no, dm_ald 110 0, dm_getf 113 2 7, dm_no],
  [dm_no, dm_ald 114 1, dm_getf 117 2 7, dm_no, dm_no, dm_ald 118 0, dm_getf 121 2 9, dm_no, dm_no, dm_inv 124 47 2 3, dm_no, dm_no, dm_ald 125 0, dm_getf 128 2 8, dm_no, dm_no],
  [dm_ald 129 1, dm_getf 132 2 8, dm_no, dm_no, dm_ald 133 0, dm_getf 136 2 9, dm_no, dm_no, dm_inv 139 47 2 3, dm_no, dm_no, dm_vret]]
theorem tr_33_0 : dm_AllR (dm_Good dm_tb RX2 cX2_copyFrom 2 none false none) 0 [dm_ald 1 0, dm_ald 2 1, dm_getf 5 2 9, dm_no, dm_no, dm_putf 8 2 9 .int, dm_no, dm_no, dm_ald 9 0, dm_getf 12 2 0, dm_no, dm_no, dm_ald 13 1, dm_getf 16 2 0, dm_no, dm_no] := dr_c (dg_aload_n (k := 0) rfl dX2_copyFrom_0) <| dr_c (dg_aload_n (k := 1) rfl dX2_copyFrom_1) <| dr_c (dg_getf (T := TX2) (C := RX2) (N := 10) dX2_copyFrom_2 rfl (by decide) iw_X2 wd_140) <| dr_c (dg_no) <| dr_c (dg_no) <| dr_c (dg_putf (T := TX2) (C := RX2) (N := 10) dX2_copyFrom_5 rfl (by decide) iw_X2 tyX2_ok nmX2 wd_140 rfl rfl) <| dr_c (dg_no) <| dr_c (dg_no) <| dr_c (dg_aload_n (k := 0) rfl dX2_copyFrom_8) <| dr_c (dg_getf (T := TX2) (C := RX2) (N := 10) dX2_copyFrom_9 rfl (by decide) iw_X2 wd_130) <| dr_c (dg_no) <| dr_c (dg_no) <| dr_c (dg_aload_n (k := 1) rfl dX2_copyFrom_12) <| dr_c (dg_getf (T := TX2) (C := RX2) (N := 10) dX2_copyFrom_13 rfl (by decide) iw_X2 wd_130) <| dr_c (dg_no) <| dr_c (dg_no) <| dr_n
theorem tr_33_1 : dm_AllR (dm_Good dm_tb RX2 cX2_copyFrom 2 none false none) 16 [dm_inv 19 90 1 6, dm_no, dm_no, dm_ald 20 0, dm_getf 23 2 1, dm_no, dm_no, dm_ald 24 1, dm_getf 27 2 1, dm_no, dm_no, dm_ald 28 0, dm_getf 31 2 9, dm_no, dm_no, dm_inv 34 47 2 3] := dr_c (dg_inv dX2_copyFrom_16 mo_90 rfl rfl wd_793 wd_794 wd_795 pd_90) <| dr_c (dg_no) <| dr_c (dg_no) <| dr_c (dg_aload_n (k := 0) rfl dX2_copyFrom_19) <| dr_c (dg_getf (T := TX2) (C := RX2) (N := 10) dX2_copyFrom_20 rfl (by decide) iw_X2 wd_132) <| dr_c (dg_no) <| dr_c (dg_no) <| dr_c (dg_aload_n (k := 1) rfl dX2_copyFrom_23) <| dr_c (dg_getf (T := TX2) (C := RX2) (N := 10) dX2_copyFrom_24 rfl (by decide) iw_X2 wd_132) <| dr_c (dg_no) <| dr_c (dg_no) <| dr_c (dg_aload_n (k := 0) rfl dX2_copyFrom_27) <| dr_c (dg_getf (T := TX2) (C := RX2) (N := 10) dX2_copyFrom_28 rfl (by decide) iw_X2 wd_140) <| dr_c (dg_no) <| dr_c (dg_no) <| dr_c (dg_inv dX2_copyFrom_31 mo_47 rfl rfl wd_798 wd_708 wd_709 pd_47) <| dr_n
theorem tr_33_2 : dm_AllR (dm_Good dm_tb RX2 cX2_copyFrom 2 none false none) 32 [dm_no, dm_no, dm_ald 35 0, dm_getf 38 2 2, dm_no, dm_no, dm_ald 39 1, dm_getf 42 2 2, dm_no, dm_no, dm_ald 43 0, dm_getf 46 2 9, dm_no, dm_no, dm_inv 49 47 2 3, dm_no] := dr_c (dg_no) <| dr_c (dg_no) <| dr_c (dg_aload_n (k := 0) rfl dX2_copyFrom_34) <| dr_c (dg_getf (T := TX2) (C := RX2) (N := 10) dX2_copyFrom_35 rfl (by decide) iw_X2 wd_133) <| dr_c (dg_no) <| dr_c (dg_no) <| dr_c (dg_aload_n (k := 1) rfl dX2_copyFrom_38) <| dr_c (dg_getf (T := TX2) (C := RX2) (N := 10) dX2_copyFrom_39 rfl (by decide) iw_X2 wd_133) <| dr_c (dg_no) <| dr_c (dg_no) <| dr_c (dg_aload_n (k := 0) rfl dX2_copyFrom_42) <| dr_c (dg_getf (T := TX2) (C := RX2) (N := 10) dX2_copyFrom_43 rfl (by decide) iw_X2 wd_140) <| dr_c (dg_no) <| dr_c (dg_no) <| dr_c (dg_inv dX2_copyFrom_46 mo_47 rfl rfl wd_798 wd_708 wd_709 pd_47) <| dr_c (dg_no) <| dr_n
theorem tr_33_3 : dm_AllR (dm_Good dm_tb RX2 cX2_copyFrom 2 none false none) 48 [dm_no, dm_ald 50 0, dm_getf 53 2 3, dm_no, dm_no, dm_ald 54 1, dm_getf 57 2 3, dm_no, dm_no, dm_ald 58 0, dm_getf 61 2 9, dm_no, dm_no, dm_inv 64 47 2 3, dm_no, dm_no] := dr_c (dg_no) <| dr_c (dg_aload_n (k := 0) rfl dX2_copyFrom_49) <| dr_c (dg_getf (T := TX2) (C := RX2) (N := 10) dX2_copyFrom_50 rfl (by decide) iw_X2 wd_134) <| dr_c (dg_no) <| dr_c (dg_no) <| dr_c (dg_aload_n (k := 1) rfl dX2_copyFrom_53) <| dr_c (dg_getf (T := TX2) (C := RX2) (N := 10) dX2_copyFrom_54 rfl (by decide) iw_X2 wd_134) <| dr_c (dg_no) <| dr_c (dg_no) <| dr_c (dg_aload_n (k := 0) rfl dX2_copyFrom_57) <| dr_c (dg_getf (T := TX2) (C := RX2) (N := 10) dX2_copyFrom_58 rfl (by decide) iw_X2 wd_140) <| dr_c (dg_no) <| dr_c (dg_no) <| dr_c (dg_inv dX2_copyFrom_61 mo_47 rfl rfl wd_798 wd_708 wd_709 pd_47) <| dr_c (dg_no) <| dr_c (dg_no) <| dr_n
theorem tr_33_4 : dm_AllR (dm_Good dm_tb RX2 cX2_copyFrom 2 none false none) 64 [dm_ald 65 0, dm_getf 68 2 4, dm_no, dm_no, dm_ald 69 1, dm_getf 72 2 4, dm_no, dm_no, dm_ald 73 0, dm_getf 76 2 9, dm_no, dm_no, dm_inv 79 47 2 3, dm_no, dm_no, dm_ald 80 0] := dr_c (dg_aload_n (k := 0) rfl dX2_copyFrom_64) <| dr_c (dg_getf (T := TX2) (C := RX2) (N := 10) dX2_copyFrom_65 rfl (by decide) iw_X2 wd_135) <| dr_c (dg_no) <| dr_c (dg_no) <| dr_c (dg_aload_n (k := 1) rfl dX2_copyFrom_68) <| dr_c (dg_getf (T := TX2) (C := RX2) (N := 10) dX2_copyFrom_69 rfl (by decide) iw_X2 wd_135) <| dr_c (dg_no) <| dr_c (dg_no) <| dr_c (dg_aload_n (k := 0) rfl dX2_copyFrom_72) <| dr_c (dg_getf (T := TX2) (C := RX2) (N := 10) dX2_copyFrom_73 rfl (by decide) iw_X2 wd_140) <| dr_c (dg_no) <| dr_c (dg_no) <| dr_c (dg_inv dX2_copyFrom_76 mo_47 rfl rfl wd_798 wd_708 wd_709 pd_47) <| dr_c (dg_no) <| dr_c (dg_no) <| dr_c (dg_aload_n (k := 0) rfl dX2_copyFrom_79) <| dr_n
theorem tr_33_5 : dm_AllR (dm_Good dm_tb RX2 cX2_copyFrom 2 none false none) 80 [dm_getf 83 2 5, dm_no, dm_no, dm_ald 84 1, dm_getf 87 2 5, dm_no, dm_no, dm_ald 88 0, dm_getf 91 2 9, dm_no, dm_no, dm_inv 94 47 2 3, dm_no, dm_no, dm_ald 95 0, dm_getf 98 2 6] := dr_c (dg_getf (T := TX2) (C := RX2) (N := 10) dX2_copyFrom_80 rfl (by decide) iw_X2 wd_136) <| dr_c (dg_no) <| dr_c (dg_no) <| dr_c (dg_aload_n (k := 1) rfl dX2_copyFrom_83) <| dr_c (dg_getf (T := TX2) (C := RX2) (N := 10) dX2_copyFrom_84 rfl (by decide) iw_X2 wd_136) <| dr_c (dg_no) <| dr_c (dg_no) <| dr_c (dg_aload_n (k := 0) rfl dX2_copyFrom_87) <| dr_c (dg_getf (T := TX2) (C := RX2) (N := 10) dX2_copyFrom_88 rfl (by decide) iw_X2 wd_140) <| dr_c (dg_no) <| dr_c (dg_no) <| dr_c (dg_inv dX2_copyFrom_91 mo_47 rfl rfl wd_798 wd_708 wd_709 pd_47) <| dr_c (dg_no) <| dr_c (dg_no) <| dr_c (dg_aload_n (k := 0) rfl dX2_copyFrom_94) <| dr_c (dg_getf (T := TX2) (C := RX2) (N := 10) dX2_copyFrom_95 rfl (by decide) iw_X2 wd_137) <| dr_n
theorem tr_33_6 : dm_AllR (dm_Good dm_tb RX2 cX2_copyFrom 2 none false none) 96 [dm_no, dm_no, dm_ald 99 1, dm_getf 102 2 6, dm_no, dm_no, dm_ald 103 0, dm_getf 106 2 9, dm_no, dm_no, dm_inv 109 47 2 3, dm_no, dm_no, dm_ald 110 0, dm_getf 113 2 7, dm_no] := dr_c (dg_no) <| dr_c (dg_no) <| dr_c (dg_aload_n (k := 1) rfl dX2_copyFrom_98) <| dr_c (dg_getf (T := TX2) (C := RX2) (N := 10) dX2_copyFrom_99 rfl (by decide) iw_X2 wd_137) <| dr_c (dg_no) <| dr_c (dg_no) <| dr_c (dg_aload_n (k := 0) rfl dX2_copyFrom_102) <| dr_c (dg_getf (T := TX2) (C := RX2) (N := 10) dX2_copyFrom_103 rfl (by decide) iw_X2 wd_140) <| dr_c (dg_no) <| dr_c (dg_no) <| dr_c (dg_inv dX2_copyFrom_106 mo_47 rfl rfl wd_798 wd_708 wd_709 pd_47) <| dr_c (dg_no) <| dr_c (dg_no) <| dr_c (dg_aload_n (k := 0) rfl dX2_copyFrom_109) <| dr_c (dg_getf (T := TX2) (C := RX2) (N := 10) dX2_copyFrom_110 rfl (by decide) iw_X2 wd_138) <| dr_c (dg_no) <| dr_n
theorem tr_33_7 : dm_AllR (dm_Good dm_tb RX2 cX2_copyFrom 2 none false none) 112 [dm_no, dm_ald 114 1, dm_getf 117 2 7, dm_no, dm_no, dm_ald 118 0, dm_getf 121 2 9, dm_no, dm_no, dm_inv 124 47 2 3, dm_no, dm_no, dm_ald 125 0, dm_getf 128 2 8, dm_no, dm_no] := dr_c (dg_no) <| dr_c (dg_aload_n (k := 1) rfl dX2_copyFrom_113) <| dr_c (dg_getf (T := TX2) (C := RX2) (N := 10) dX2_copyFrom_114 rfl (by decide) iw_X2 wd_138) <| dr_c (dg_no) <| dr_c (dg_no) <| dr_c (dg_aload_n (k := 0) rfl dX2_copyFrom_117) <| dr_c (dg_getf (T := TX2) (C := RX2) (N := 10) dX2_copyFrom_118 rfl (by decide) iw_X2 wd_140) <| dr_c (dg_no) <| dr_c (dg_no) <| dr_c (dg_inv dX2_copyFrom_121 mo_47 rfl rfl wd_798 wd_708 wd_709 pd_47) <| dr_c (dg_no) <| dr_c (dg_no) <| dr_c (dg_aload_n (k := 0) rfl dX2_copyFrom_124) <| dr_c (dg_getf (T := TX2) (C := RX2) (N := 10) dX2_copyFrom_125 rfl (by decide) iw_X2 wd_139) <| dr_c (dg_no) <| dr_c (dg_no) <| dr_n
theorem tr_33_8 : dm_AllR (dm_Good dm_tb RX2 cX2_copyFrom 2 none false none) 128 [dm_ald 129 1, dm_getf 132 2 8, dm_no, dm_no, dm_ald 133 0, dm_getf 136 2 9, dm_no, dm_no, dm_inv 139 47 2 3, dm_no, dm_no, dm_vret] := dr_c (dg_aload_n (k := 1) rfl dX2_copyFrom_128) <| dr_c (dg_getf (T := TX2) (C := RX2) (N := 10) dX2_copyFrom_129 rfl (by decide) iw_X2 wd_139) <| dr_c (dg_no) <| dr_c (dg_no) <| dr_c (dg_aload_n (k := 0) rfl dX2_copyFrom_132) <| dr_c (dg_getf (T := TX2) (C := RX2) (N := 10) dX2_copyFrom_133 rfl (by decide) iw_X2 wd_140) <| dr_c (dg_no) <| dr_c (dg_no) <| dr_c (dg_inv dX2_copyFrom_136 mo_47 rfl rfl wd_798 wd_708 wd_709 pd_47) <| dr_c (dg_no) <| dr_c (dg_no) <| dr_c (dg_vret dX2_copyFrom_139) <| dr_n
theorem tk_33 : dm_AllC (dm_Good dm_tb RX2 cX2_copyFrom 2 none false none) 0 cd_33 := dc_c (by decide) tr_33_0 <| dc_c (by decide) tr_33_1 <| dc_c (by decide) tr_33_2 <| dc_c (by decide) tr_33_3 <| dc_c (by decide) tr_33_4 <| dc_c (by decide) tr_33_5 <| dc_c (by decide) tr_33_6 <| dc_c (by decide) tr_33_7 <| dc_c (by decide) tr_33_8 <| dc_n
theorem dX3_canPart_0 : decode cX3_canPart 0 = .ok (.iload_n 1, 1) := by decide +kernel
theorem dX3_canPart_1 : decode cX3_canPart 1 = .ok (.istore_n 2, 1) := by decide +kernel
theorem dX3_canPart_2 : decode cX3_canPart 2 = .ok (.iconst 0, 1) := by decide +kernel
theorem dX3_canPart_3 : decode cX3_canPart 3 = .ok (.istore_n 3, 1) := by decide +kernel
theorem dX3_canPart_4 : decode cX3_canPart 4 = .ok (.iload_n 3, 1) := by decide +kernel
theorem dX3_canPart_5 : decode cX3_canPart 5 = .ok (.bipush 60, 2) := by decide +kernel
theorem dX3_canPart_7 : decode cX3_canPart 7 = .ok (.if_icmp .ge 44, 3) := by decide +kernel
theorem dX3_canPart_10 : decode cX3_canPart 10 = .ok (.aload_n 0, 1) := by decide +kernel
theorem dX3_canPart_11 : decode cX3_canPart 11 = .ok (.iload_n 2, 1) := by decide +kernel
theorem dX3_canPart_12 : decode cX3_canPart 12 = .ok (.invokestatic 9, 3) := by decide +kernel
theorem dX3_canPart_15 : decode cX3_canPart 15 = .ok (.ifCond .eq 36, 3) := by decide +kernel
theorem dX3_canPart_18 : decode cX3_canPart 18 = .ok (.aload_n 0, 1) := by decide +kernel
theorem dX3_canPart_19 : decode cX3_canPart 19 = .ok (.aload_n 0, 1) := by decide +kernel
theorem dX3_canPart_20 : decode cX3_canPart 20 = .ok (.iload_n 2, 1) := by decide +kernel
theorem dX3_canPart_21 : decode cX3_canPart 21 = .ok (.invokevirtual 15, 3) := by decide +kernel
theorem dX3_canPart_24 : decode cX3_canPart 24 = .ok (.iconst 0, 1) := by decide +kernel
theorem dX3_canPart_25 : decode cX3_canPart 25 = .ok (.invokevirtual 21, 3) := by decide +kernel
theorem dX3_canPart_28 : decode cX3_canPart 28 = .ok (.ifCond .eq 11, 3) := by decide +kernel
theorem dX3_canPart_31 : decode cX3_canPart 31 = .ok (.aload_n 0, 1) := by decide +kernel
theorem dX3_canPart_32 : decode cX3_canPart 32 = .ok (.iload_n 2, 1) := by decide +kernel
theorem dX3_canPart_33 : decode cX3_canPart 33 = .ok (.invokevirtual 25, 3) := by decide +kernel
theorem dX3_canPart_36 : decode cX3_canPart 36 = .ok (.goto 8, 3) := by decide +kernel
theorem dX3_canPart_39 : decode cX3_canPart 39 = .ok (.aload_n 0, 1) := by decide +kernel
theorem dX3_canPart_40 : decode cX3_canPart 40 = .ok (.iload_n 2, 1) := by decide +kernel
theorem dX3_canPart_41 : decode cX3_canPart 41 = .ok (.invokevirtual 15, 3) := by decide +kernel
theorem dX3_canPart_44 : decode cX3_canPart 44 = .ok (.istore_n 2, 1) := by decide +kernel
theorem dX3_canPart_45 : decode cX3_canPart 45 = .ok (.iinc 3 1, 3) := by decide +kernel
theorem dX3_canPart_48 : decode cX3_canPart 48 = .ok (.goto (-44), 3) := by decide +kernel
theorem dX3_canPart_51 : decode cX3_canPart 51 = .ok (.iload_n 3, 1) := by decide +kernel
theorem dX3_canPart_52 : decode cX3_canPart 52 = .ok (.bipush 60, 2) := by decide +kernel
theorem dX3_canPart_54 : decode cX3_canPart 54 = .ok (.if_icmp .ge 7, 3) := by decide +kernel
theorem dX3_canPart_57 : decode cX3_canPart 57 = .ok (.iconst 1, 1) := by decide +kernel
theorem dX3_canPart_58 : decode cX3_canPart 58 = .ok (.goto 4, 3) := by decide +kernel
theorem dX3_canPart_61 : decode cX3_canPart 61 = .ok (.iconst 0, 1) := by decide +kernel
theorem dX3_canPart_62 : decode cX3_canPart 62 = .ok (.ireturn, 1) := by decide +kernel
def cd_34 : dm_Code := [[dm_ild 1 1, dm_ist 2 2, dm_push 3 (.int 0), dm_ist 4 3, dm_ild 5 3, dm_push 7 (.int 60), dm_no, dm_ic_ge 10 51, dm_no, dm_no, dm_ald 11 0, dm_ild 12 2, dm_ins 15 35 2, dm_no, dm_no, dm_if_eq 18 51],
  [dm_no, dm_no, dm_ald 19 0, dm_ald 20 0, dm_ild 21 2, dm_inv 24 79 1 6, dm_no, dm_no, dm_push 25 (.int 0), dm_inv 28 78 2 6, dm_no, dm_no, dm_if_eq 31 39, dm_no, dm_no, dm_ald 32 0],
  [dm_ild 33 2, dm_inv 36 80 1 6, dm_no, dm_no, dm_goto 44, dm_no, dm_no, dm_ald 40 0, dm_ild 41 2, dm_inv 44 79 1 6, dm_no, dm_no, dm_ist 45 2, dm_iinc 48 3 1, dm_no, dm_no],
  [dm_goto 4, dm_no, dm_no, dm_ild 52 3, dm_push 54 (.int 60), dm_no, dm_ic_ge 57 61, dm_no, dm_no, dm_push 58 (.int 1), dm_goto 62, dm_no, dm_no, dm_push 62 (.int 0), dm_ret .boolean]]
theorem tr_34_0 : dm_AllR (dm_Good dm_tb RX3 cX3_canPart 4 (some .boolean) false none) 0 [dm_ild 1 1, dm_ist 2 2, dm_push 3 (.int 0), dm_ist 4 3, dm_ild 5 3, dm_push 7 (.int 60), dm_no, dm_ic_ge 10 51, dm_no, dm_no, dm_ald 11 0, dm_ild 12 2, dm_ins 15 35 2, dm_no, dm_no, dm_if_eq 18 51] := dr_c (dg_iload_n (k := 1) rfl dX3_canPart_0) <| dr_c (dg_istore_n (k := 2) rfl (by decide) dX3_canPart_1) <| dr_c (dg_iconst (by decide) dX3_canPart_2) <| dr_c (dg_istore_n (k := 3) rfl (by decide) dX3_canPart_3) <| dr_c (dg_iload_n (k := 3) rfl dX3_canPart_4) <| dr_c (dg_bipush (by decide) dX3_canPart_5) <| dr_c (dg_no) <| dr_c (dg_ic_ge (by decide) dX3_canPart_7) <| dr_c (dg_no) <| dr_c (dg_no) <| dr_c (dg_aload_n (k := 0) rfl dX3_canPart_10) <| dr_c (dg_iload_n (k := 2) rfl dX3_canPart_11) <| dr_c (dg_ins dX3_canPart_12 mo_35 wd_388 wd_389 pd_35) <| dr_c (dg_no) <| dr_c (dg_no) <| dr_c (dg_if_eq (by decide) dX3_canPart_15) <| dr_n
theorem tr_34_1 : dm_AllR (dm_Good dm_tb RX3 cX3_canPart 4 (some .boolean) false none) 16 [dm_no, dm_no, dm_ald 19 0, dm_ald 20 0, dm_ild 21 2, dm_inv 24 79 1 6, dm_no, dm_no, dm_push 25 (.int 0), dm_inv 28 78 2 6, dm_no, dm_no, dm_if_eq 31 39, dm_no, dm_no, dm_ald 32 0] := dr_c (dg_no) <| dr_c (dg_no) <| dr_c (dg_aload_n (k := 0) rfl dX3_canPart_18) <| dr_c (dg_aload_n (k := 0) rfl dX3_canPart_19) <| dr_c (dg_iload_n (k := 2) rfl dX3_canPart_20) <| dr_c (dg_inv dX3_canPart_21 mo_79 rfl rfl wd_392 wd_393 wd_394 pd_79) <| dr_c (dg_no) <| dr_c (dg_no) <| dr_c (dg_iconst (by decide) dX3_canPart_24) <| dr_c (dg_inv dX3_canPart_25 mo_78 rfl rfl wd_396 wd_377 wd_378 pd_78) <| dr_c (dg_no) <| dr_c (dg_no) <| dr_c (dg_if_eq (by decide) dX3_canPart_28) <| dr_c (dg_no) <| dr_c (dg_no) <| dr_c (dg_aload_n (k := 0) rfl dX3_canPart_31) <| dr_n
theorem tr_34_2 : dm_AllR (dm_Good dm_tb RX3 cX3_canPart 4 (some .boolean) false none) 32 [dm_ild 33 2, dm_inv 36 80 1 6, dm_no, dm_no, dm_goto 44, dm_no, dm_no, dm_ald 40 0, dm_ild 41 2, dm_inv 44 79 1 6, dm_no, dm_no, dm_ist 45 2, dm_iinc 48 3 1, dm_no, dm_no] := dr_c (dg_iload_n (k := 2) rfl dX3_canPart_32) <| dr_c (dg_inv dX3_canPart_33 mo_80 rfl rfl wd_397 wd_398 wd_399 pd_80) <| dr_c (dg_no) <| dr_c (dg_no) <| dr_c (dg_goto (by decide) dX3_canPart_36) <| dr_c (dg_no) <| dr_c (dg_no) <| dr_c (dg_aload_n (k := 0) rfl dX3_canPart_39) <| dr_c (dg_iload_n (k := 2) rfl dX3_canPart_40) <| dr_c (dg_inv dX3_canPart_41 mo_79 rfl rfl wd_392 wd_393 wd_394 pd_79) <| dr_c (dg_no) <| dr_c (dg_no) <| dr_c (dg_istore_n (k := 2) rfl (by decide) dX3_canPart_44) <| dr_c (dg_iinc (by decide) (by decide) dX3_canPart_45) <| dr_c (dg_no) <| dr_c (dg_no) <| dr_n
theorem tr_34_3 : dm_AllR (dm_Good dm_tb RX3 cX3_canPart 4 (some .boolean) false none) 48 [dm_goto 4, dm_no, dm_no, dm_ild 52 3, dm_push 54 (.int 60), dm_no, dm_ic_ge 57 61, dm_no, dm_no, dm_push 58 (.int 1), dm_goto 62, dm_no, dm_no, dm_push 62 (.int 0), dm_ret .boolean] := dr_c (dg_goto (by decide) dX3_canPart_48) <| dr_c (dg_no) <| dr_c (dg_no) <| dr_c (dg_iload_n (k := 3) rfl dX3_canPart_51) <| dr_c (dg_bipush (by decide) dX3_canPart_52) <| dr_c (dg_no) <| dr_c (dg_ic_ge (by decide) dX3_canPart_54) <| dr_c (dg_no) <| dr_c (dg_no) <| dr_c (dg_iconst (by decide) dX3_canPart_57) <| dr_c (dg_goto (by decide) dX3_canPart_58) <| dr_c (dg_no) <| dr_c (dg_no) <| dr_c (dg_iconst (by decide) dX3_canPart_61) <| dr_c (dg_ret dX3_canPart_62) <| dr_n
theorem tk_34 : dm_AllC (dm_Good dm_tb RX3 cX3_canPart 4 (some .boolean) false none) 0 cd_34 := dc_c (by decide) tr_34_0 <| dc_c (by decide) tr_34_1 <| dc_c (by decide) tr_34_2 <| dc_c (by decide) tr_34_3 <| dc_n
theorem dX3_hasOneSide_0 : decode cX3_hasOneSide 0 = .ok (.aload_n 0, 1) := by decide +kernel
theorem dX3_hasOneSide_1 : decode cX3_hasOneSide 1 = .ok (.iload_n 1, 1) := by decide +kernel
theorem dX3_hasOneSide_2 : decode cX3_hasOneSide 2 = .ok (.invokevirtual 28, 3) := by decide +kernel
theorem dX3_hasOneSide_5 : decode cX3_hasOneSide 5 = .ok (.ifCond .ne 33, 3) := by decide +kernel
theorem dX3_hasOneSide_8 : decode cX3_hasOneSide 8 = .ok (.aload_n 0, 1) := by decide +kernel
theorem dX3_hasOneSide_9 : decode cX3_hasOneSide 9 = .ok (.aload_n 0, 1) := by decide +kernel
theorem dX3_hasOneSide_10 : decode cX3_hasOneSide 10 = .ok (.iload_n 1, 1) := by decide +kernel
theorem dX3_hasOneSide_11 : decode cX3_hasOneSide 11 = .ok (.invokevirtual 15, 3) := by decide +kernel
theorem dX3_hasOneSide_14 : decode cX3_hasOneSide 14 = .ok (.iconst 0, 1) := by decide +kernel
theorem dX3_hasOneSide_15 : decode cX3_hasOneSide 15 = .ok (.invokevirtual 21, 3) := by decide +kernel
theorem dX3_hasOneSide_18 : decode cX3_hasOneSide 18 = .ok (.ifCond .ne 16, 3) := by decide +kernel
theorem dX3_hasOneSide_21 : decode cX3_hasOneSide 21 = .ok (.aload_n 0, 1) := by decide +kernel
theorem dX3_hasOneSide_22 : decode cX3_hasOneSide 22 = .ok (.aload_n 0, 1) := by decide +kernel
theorem dX3_hasOneSide_23 : decode cX3_hasOneSide 23 = .ok (.iload_n 1, 1) := by decide +kernel
theorem dX3_hasOneSide_24 : decode cX3_hasOneSide 24 = .ok (.invokevirtual 25, 3) := by decide +kernel
theorem dX3_hasOneSide_27 : decode cX3_hasOneSide 27 = .ok (.iconst 0, 1) := by decide +kernel
theorem dX3_hasOneSide_28 : decode cX3_hasOneSide 28 = .ok (.invokevirtual 21, 3) := by decide +kernel
theorem dX3_hasOneSide_31 : decode cX3_hasOneSide 31 = .ok (.ifCond .eq 7, 3) := by decide +kernel
theorem dX3_hasOneSide_34 : decode cX3_hasOneSide 34 = .ok (.iconst 1, 1) := by decide +kernel
theorem dX3_hasOneSide_35 : decode cX3_hasOneSide 35 = .ok (.goto 4, 3) := by decide +kernel
theorem dX3_hasOneSide_38 : decode cX3_hasOneSide 38 = .ok (.iconst 0, 1) := by decide +kernel
theorem dX3_hasOneSide_39 : decode cX3_hasOneSide 39 = .ok (.ireturn, 1) := by decide +kernel
def cd_35 : dm_Code := [[dm_ald 1 0, dm_ild 2 1, dm_inv 5 77 1 6, dm_no, dm_no, dm_if_ne 8 38, dm_no, dm_no, dm_ald 9 0, dm_ald 10 0, dm_ild 11 1, dm_inv 14 79 1 6, dm_no, dm_no, dm_push 15 (.int 0), dm_inv 18 78 2 6],
  [dm_no, dm_no, dm_if_ne 21 34, dm_no, dm_no, dm_ald 22 0, dm_ald 23 0, dm_ild 24 1, dm_inv 27 80 1 6, dm_no, dm_no, dm_push 28 (.int 0), dm_inv 31 78 2 6, dm_no, dm_no, dm_if_eq 34 38],
  [dm_no, dm_no, dm_push 35 (.int 1), dm_goto 39, dm_no, dm_no, dm_push 39 (.int 0), dm_ret .boolean]]
theorem tr_35_0 : dm_AllR (dm_Good dm_tb RX3 cX3_hasOneSide 2 (some .boolean) false none) 0 [dm_ald 1 0, dm_ild 2 1, dm_inv 5 77 1 6, dm_no, dm_no, dm_if_ne 8 38, dm_no, dm_no, dm_ald 9 0, dm_ald 10 0, dm_ild 11 1, dm_inv 14 79 1 6, dm_no, dm_no, dm_push 15 (.int 0), dm_inv 18 78 2 6] := dr_c (dg_aload_n (k := 0) rfl dX3_hasOneSide_0) <| dr_c (dg_iload_n (k := 1) rfl dX3_hasOneSide_1) <| dr_c (dg_inv dX3_hasOneSide_2 mo_77 rfl rfl wd_391 wd_293 wd_294 pd_77) <| dr_c (dg_no) <| dr_c (dg_no) <| dr_c (dg_if_ne (by decide) dX3_hasOneSide_5) <| dr_c (dg_no) <| dr_c (dg_no) <| dr_c (dg_aload_n (k := 0) rfl dX3_hasOneSide_8) <| dr_c (dg_aload_n (k := 0) rfl dX3_hasOneSide_9) <| dr_c (dg_iload_n (k := 1) rfl dX3_hasOneSide_10) <| dr_c (dg_inv dX3_hasOneSide_11 mo_79 rfl rfl wd_392 wd_393 wd_394 pd_79) <| dr_c (dg_no) <| dr_c (dg_no) <| dr_c (dg_iconst (by decide) dX3_hasOneSide_14) <| dr_c (dg_inv dX3_hasOneSide_15 mo_78 rfl rfl wd_396 wd_377 wd_378 pd_78) <| dr_n
theorem tr_35_1 : dm_AllR (dm_Good dm_tb RX3 cX3_hasOneSide 2 (some .boolean) false none) 16 [dm_no, dm_no, dm_if_ne 21 34, dm_no, dm_no, dm_ald 22 0, dm_ald 23 0, dm_ild 24 1, dm_inv 27 80 1 6, dm_no, dm_no, dm_push 28 (.int 0), dm_inv 31 78 2 6, dm_no, dm_no, dm_if_eq 34 38] := dr_c (dg_no) <| dr_c (dg_no) <| dr_c (dg_if_ne (by decide) dX3_hasOneSide_18) <| dr_c (dg_no) <| dr_c (dg_no) <| dr_c (dg_aload_n (k := 0) rfl dX3_hasOneSide_21) <| dr_c (dg_aload_n (k := 0) rfl dX3_hasOneSide_22) <| dr_c (dg_iload_n (k := 1) rfl dX3_hasOneSide_23) <| dr_c (dg_inv dX3_hasOneSide_24 mo_80 rfl rfl wd_397 wd_398 wd_399 pd_80) <| dr_c (dg_no) <| dr_c (dg_no) <| dr_c (dg_iconst (by decide) dX3_hasOneSide_27) <| dr_c (dg_inv dX3_hasOneSide_28 mo_78 rfl rfl wd_396 wd_377 wd_378 pd_78) <| dr_c (dg_no) <| dr_c (dg_no) <| dr_c (dg_if_eq (by decide) dX3_hasOneSide_31) <| dr_n
theorem tr_35_2 : dm_AllR (dm_Good dm_tb RX3 cX3_hasOneSide 2 (some .boolean) false none) 32 [dm_no, dm_no, dm_push 35 (.int 1), dm_goto 39, dm_no, dm_no, dm_push 39 (.int 0), dm_ret .boolean] := dr_c (dg_no) <| dr_c (dg_no) <| dr_c (dg_iconst (by decide) dX3_hasOneSide_34) <| dr_c (dg_goto (by decide) dX3_hasOneSide_35) <| dr_c (dg_no) <| dr_c (dg_no) <| dr_c (dg_iconst (by decide) dX3_hasOneSide_38) <| dr_c (dg_ret dX3_hasOneSide_39) <| dr_n
theorem tk_35 : dm_AllC (dm_Good dm_tb RX3 cX3_hasOneSide 2 (some .boolean) false none) 0 cd_35 := dc_c (by decide) tr_35_0 <| dc_c (by decide) tr_35_1 <| dc_c (by decide) tr_35_2 <| dc_n
theorem dX3_part_0 : decode cX3_part 0 = .ok (.aload_n 0, 1) := by decide +kernel
theorem dX3_part_1 : decode cX3_part 1 = .ok (.invokevirtual 32, 3) := by decide +kernel
theorem dX3_part_4 : decode cX3_part 4 = .ok (.istore_n 3, 1) := by decide +kernel
theorem dX3_part_5 : decode cX3_part 5 = .ok (.aload_n 0, 1) := by decide +kernel
theorem dX3_part_6 : decode cX3_part 6 = .ok (.iload_n 1, 1) := by decide +kernel
theorem dX3_part_7 : decode cX3_part 7 = .ok (.iload_n 2, 1) := by decide +kernel
theorem dX3_part_8 : decode cX3_part 8 = .ok (.iconst 0, 1) := by decide +kernel
theorem dX3_part_9 : decode cX3_part 9 = .ok (.invokestatic 36, 3) := by decide +kernel
theorem dX3_part_12 : decode cX3_part 12 = .ok (.iload_n 3, 1) := by decide +kernel
theorem dX3_part_13 : decode cX3_part 13 = .ok (.ireturn, 1) := by decide +kernel
def cd_36 : dm_Code := [[dm_ald 1 0, dm_inv 4 73 0 6, dm_no, dm_no, dm_ist 5 3, dm_ald 6 0, dm_ild 7 1, dm_ild 8 2, dm_push 9 (.int 0), dm_ins 12 37 4, dm_no, dm_no, dm_ild 13 3, dm_ret .int]]
theorem tr_36_0 : dm_AllR (dm_Good dm_tb RX3 cX3_part 4 (some .int) false none) 0 [dm_ald 1 0, dm_inv 4 73 0 6, dm_no, dm_no, dm_ist 5 3, dm_ald 6 0, dm_ild 7 1, dm_ild 8 2, dm_push 9 (.int 0), dm_ins 12 37 4, dm_no, dm_no, dm_ild 13 3, dm_ret .int] := dr_c (dg_aload_n (k := 0) rfl dX3_part_0) <| dr_c (dg_inv dX3_part_1 mo_73 rfl rfl wd_412 wd_299 wd_300 pd_73) <| dr_c (dg_no) <| dr_c (dg_no) <| dr_c (dg_istore_n (k := 3) rfl (by decide) dX3_part_4) <| dr_c (dg_aload_n (k := 0) rfl dX3_part_5) <| dr_c (dg_iload_n (k := 1) rfl dX3_part_6) <| dr_c (dg_iload_n (k := 2) rfl dX3_part_7) <| dr_c (dg_iconst (by decide) dX3_part_8) <| dr_c (dg_ins dX3_part_9 mo_37 wd_413 wd_414 pd_37) <| dr_c (dg_no) <| dr_c (dg_no) <| dr_c (dg_iload_n (k := 3) rfl dX3_part_12) <| dr_c (dg_ret dX3_part_13) <| dr_n
theorem tk_36 : dm_AllC (dm_Good dm_tb RX3 cX3_part 4 (some .int) false none) 0 cd_36 := dc_c (by decide) tr_36_0 <| dc_n
theorem dX3_partFrom_0 : decode cX3_partFrom 0 = .ok (.aload_n 0, 1) := by decide +kernel
theorem dX3_partFrom_1 : decode cX3_partFrom 1 = .ok (.iload_n 1, 1) := by decide +kernel
theorem dX3_partFrom_2 : decode cX3_partFrom 2 = .ok (.invokevirtual 15, 3) := by decide +kernel
theorem dX3_partFrom_5 : decode cX3_partFrom 5 = .ok (.istore 4, 2) := by decide +kernel
theorem dX3_partFrom_7 : decode cX3_partFrom 7 = .ok (.aload_n 0, 1) := by decide +kernel
theorem dX3_partFrom_8 : decode cX3_partFrom 8 = .ok (.iload_n 1, 1) := by decide +kernel
theorem dX3_partFrom_9 : decode cX3_partFrom 9 = .ok (.invokevirtual 25, 3) := by decide +kernel
theorem dX3_partFrom_12 : decode cX3_partFrom 12 = .ok (.istore 5, 2) := by decide +kernel
theorem dX3_partFrom_14 : decode cX3_partFrom 14 = .ok (.aload_n 0, 1) := by decide +kernel
theorem dX3_partFrom_15 : decode cX3_partFrom 15 = .ok (.iconst 0, 1) := by decide +kernel
theorem dX3_partFrom_16 : decode cX3_partFrom 16 = .ok (.invokevirtual 40, 3) := by decide +kernel
theorem dX3_partFrom_19 : decode cX3_partFrom 19 = .ok (.istore 6, 2) := by decide +kernel
theorem dX3_partFrom_21 : decode cX3_partFrom 21 = .ok (.aload_n 0, 1) := by decide +kernel
theorem dX3_partFrom_22 : decode cX3_partFrom 22 = .ok (.iload_n 1, 1) := by decide +kernel
theorem dX3_partFrom_23 : decode cX3_partFrom 23 = .ok (.invokevirtual 28, 3) := by decide +kernel
theorem dX3_partFrom_26 : decode cX3_partFrom 26 = .ok (.ifCond .ne 9, 3) := by decide +kernel
theorem dX3_partFrom_29 : decode cX3_partFrom 29 = .ok (.iload_n 3, 1) := by decide +kernel
theorem dX3_partFrom_30 : decode cX3_partFrom 30 = .ok (.bipush 60, 2) := by decide +kernel
theorem dX3_partFrom_32 : decode cX3_partFrom 32 = .ok (.if_icmp .lt 40, 3) := by decide +kernel
theorem dX3_partFrom_35 : decode cX3_partFrom 35 = .ok (.aload_n 0, 1) := by decide +kernel
theorem dX3_partFrom_36 : decode cX3_partFrom 36 = .ok (.iload_n 2, 1) := by decide +kernel
theorem dX3_partFrom_37 : decode cX3_partFrom 37 = .ok (.ifCond .eq 7, 3) := by decide +kernel
theorem dX3_partFrom_40 : decode cX3_partFrom 40 = .ok (.iconst 0, 1) := by decide +kernel
theorem dX3_partFrom_41 : decode cX3_partFrom 41 = .ok (.goto 4, 3) := by decide +kernel
theorem dX3_partFrom_44 : decode cX3_partFrom 44 = .ok (.iconst 1, 1) := by decide +kernel
theorem dX3_partFrom_45 : decode cX3_partFrom 45 = .ok (.invokevirtual 40, 3) := by decide +kernel
theorem dX3_partFrom_48 : decode cX3_partFrom 48 = .ok (.pop, 1) := by decide +kernel
theorem dX3_partFrom_49 : decode cX3_partFrom 49 = .ok (.aload_n 0, 1) := by decide +kernel
theorem dX3_partFrom_50 : decode cX3_partFrom 50 = .ok (.iload 6, 2) := by decide +kernel
theorem dX3_partFrom_52 : decode cX3_partFrom 52 = .ok (.invokevirtual 43, 3) := by decide +kernel
theorem dX3_partFrom_55 : decode cX3_partFrom 55 = .ok (.aload_n 0, 1) := by decide +kernel
theorem dX3_partFrom_56 : decode cX3_partFrom 56 = .ok (.iload_n 2, 1) := by decide +kernel
theorem dX3_partFrom_57 : decode cX3_partFrom 57 = .ok (.ifCond .eq 7, 3) := by decide +kernel
theorem dX3_partFrom_60 : decode cX3_partFrom 60 = .ok (.iconst 1, 1) := by decide +kernel
theorem dX3_partFrom_61 : decode cX3_partFrom 61 = .ok (.goto 4, 3) := by decide +kernel
theorem dX3_partFrom_64 : decode cX3_partFrom 64 = .ok (.iconst 0, 1) := by decide +kernel
theorem dX3_partFrom_65 : decode cX3_partFrom 65 = .ok (.invokevirtual 40, 3) := by decide +kernel
theorem dX3_partFrom_68 : decode cX3_partFrom 68 = .ok (.pop, 1) := by decide +kernel
theorem dX3_partFrom_69 : decode cX3_partFrom 69 = .ok (.goto 107, 3) := by decide +kernel
theorem dX3_partFrom_72 : decode cX3_partFrom 72 = .ok (.aload_n 0, 1) := by decide +kernel
theorem dX3_partFrom_73 : decode cX3_partFrom 73 = .ok (.iload 4, 2) := by decide +kernel
theorem dX3_partFrom_75 : decode cX3_partFrom 75 = .ok (.iconst 0, 1) := by decide +kernel
theorem dX3_partFrom_76 : decode cX3_partFrom 76 = .ok (.invokevirtual 21, 3) := by decide +kernel
theorem dX3_partFrom_79 : decode cX3_partFrom 79 = .ok (.ifCond .eq 28, 3) := by decide +kernel
theorem dX3_partFrom_82 : decode cX3_partFrom 82 = .ok (.aload_n 0, 1) := by decide +kernel
theorem dX3_partFrom_83 : decode cX3_partFrom 83 = .ok (.iconst 0, 1) := by decide +kernel
theorem dX3_partFrom_84 : decode cX3_partFrom 84 = .ok (.invokevirtual 40, 3) := by decide +kernel
theorem dX3_partFrom_87 : decode cX3_partFrom 87 = .ok (.pop, 1) := by decide +kernel
theorem dX3_partFrom_88 : decode cX3_partFrom 88 = .ok (.aload_n 0, 1) := by decide +kernel
theorem dX3_partFrom_89 : decode cX3_partFrom 89 = .ok (.iload 6, 2) := by decide +kernel
theorem dX3_partFrom_91 : decode cX3_partFrom 91 = .ok (.invokevirtual 43, 3) := by decide +kernel
theorem dX3_partFrom_94 : decode cX3_partFrom 94 = .ok (.aload_n 0, 1) := by decide +kernel
theorem dX3_partFrom_95 : decode cX3_partFrom 95 = .ok (.iload 5, 2) := by decide +kernel
theorem dX3_partFrom_97 : decode cX3_partFrom 97 = .ok (.iload_n 2, 1) := by decide +kernel
theorem dX3_partFrom_98 : decode cX3_partFrom 98 = .ok (.iload_n 3, 1) := by decide +kernel
theorem dX3_partFrom_99 : decode cX3_partFrom 99 = .ok (.iconst 1, 1) := by decide +kernel
theorem dX3_partFrom_100 : decode cX3_partFrom 100 = .ok (.iadd, 1) := by decide +kernel
theorem dX3_partFrom_101 : decode cX3_partFrom 101 = .ok (.invokestatic 36, 3) := by decide +kernel
theorem dX3_partFrom_104 : decode cX3_partFrom 104 = .ok (.goto 72, 3) := by decide +kernel
theorem dX3_partFrom_107 : decode cX3_partFrom 107 = .ok (.aload_n 0, 1) := by decide +kernel
theorem dX3_partFrom_108 : decode cX3_partFrom 108 = .ok (.iload 5, 2) := by decide +kernel
theorem dX3_partFrom_110 : decode cX3_partFrom 110 = .ok (.iconst 0, 1) := by decide +kernel
theorem dX3_partFrom_111 : decode cX3_partFrom 111 = .ok (.invokevirtual 21, 3) := by decide +kernel
theorem dX3_partFrom_114 : decode cX3_partFrom 114 = .ok (.ifCond .eq 28, 3) := by decide +kernel
theorem dX3_partFrom_117 : decode cX3_partFrom 117 = .ok (.aload_n 0, 1) := by decide +kernel
theorem dX3_partFrom_118 : decode cX3_partFrom 118 = .ok (.iload 4, 2) := by decide +kernel
theorem dX3_partFrom_120 : decode cX3_partFrom 120 = .ok (.iload_n 2, 1) := by decide +kernel
theorem dX3_partFrom_121 : decode cX3_partFrom 121 = .ok (.iload_n 3, 1) := by decide +kernel
theorem dX3_partFrom_122 : decode cX3_partFrom 122 = .ok (.iconst 1, 1) := by decide +kernel
theorem dX3_partFrom_123 : decode cX3_partFrom 123 = .ok (.iadd, 1) := by decide +kernel
theorem dX3_partFrom_124 : decode cX3_partFrom 124 = .ok (.invokestatic 36, 3) := by decide +kernel
theorem dX3_partFrom_127 : decode cX3_partFrom 127 = .ok (.aload_n 0, 1) := by decide +kernel
theorem dX3_partFrom_128 : decode cX3_partFrom 128 = .ok (.iload 6, 2) := by decide +kernel
theorem dX3_partFrom_130 : decode cX3_partFrom 130 = .ok (.invokevirtual 43, 3) := by decide +kernel
theorem dX3_partFrom_133 : decode cX3_partFrom 133 = .ok (.aload_n 0, 1) := by decide +kernel
theorem dX3_partFrom_134 : decode cX3_partFrom 134 = .ok (.iconst 0, 1) := by decide +kernel
theorem dX3_partFrom_135 : decode cX3_partFrom 135 = .ok (.invokevirtual 40, 3) := by decide +kernel
theorem dX3_partFrom_138 : decode cX3_partFrom 138 = .ok (.pop, 1) := by decide +kernel
theorem dX3_partFrom_139 : decode cX3_partFrom 139 = .ok (.goto 37, 3) := by decide +kernel
theorem dX3_partFrom_142 : decode cX3_partFrom 142 = .ok (.aload_n 0, 1) := by decide +kernel
theorem dX3_partFrom_143 : decode cX3_partFrom 143 = .ok (.iload_n 2, 1) := by decide +kernel
theorem dX3_partFrom_144 : decode cX3_partFrom 144 = .ok (.ifCond .eq 7, 3) := by decide +kernel
theorem dX3_partFrom_147 : decode cX3_partFrom 147 = .ok (.iconst 0, 1) := by decide +kernel
theorem dX3_partFrom_148 : decode cX3_partFrom 148 = .ok (.goto 5, 3) := by decide +kernel
theorem dX3_partFrom_151 : decode cX3_partFrom 151 = .ok (.iload 4, 2) := by decide +kernel
theorem dX3_partFrom_153 : decode cX3_partFrom 153 = .ok (.invokevirtual 47, 3) := by decide +kernel
theorem dX3_partFrom_156 : decode cX3_partFrom 156 = .ok (.aload_n 0, 1) := by decide +kernel
theorem dX3_partFrom_157 : decode cX3_partFrom 157 = .ok (.iload 6, 2) := by decide +kernel
theorem dX3_partFrom_159 : decode cX3_partFrom 159 = .ok (.invokevirtual 43, 3) := by decide +kernel
theorem dX3_partFrom_162 : decode cX3_partFrom 162 = .ok (.aload_n 0, 1) := by decide +kernel
theorem dX3_partFrom_163 : decode cX3_partFrom 163 = .ok (.iload_n 2, 1) := by decide +kernel
theorem dX3_partFrom_164 : decode cX3_partFrom 164 = .ok (.ifCond .eq 8, 3) := by decide +kernel
theorem dX3_partFrom_167 : decode cX3_partFrom 167 = .ok (.iload 5, 2) := by decide +kernel
theorem dX3_partFrom_169 : decode cX3_partFrom 169 = .ok (.goto 4, 3) := by decide +kernel
theorem dX3_partFrom_172 : decode cX3_partFrom 172 = .ok (.iconst 0, 1) := by decide +kernel
theorem dX3_partFrom_173 : decode cX3_partFrom 173 = .ok (.invokevirtual 47, 3) := by decide +kernel
theorem dX3_partFrom_176 : decode cX3_partFrom 176 = .ok (.return_, 1) := by decide +kernel
def cd_37 : dm_Code := [[dm_ald 1 0, dm_ild 2 1, dm_inv 5 79 1 6, dm_no, dm_no, dm_ist 7 4, dm_no, dm_ald 8 0, dm_ild 9 1, dm_inv 12 80 1 6, dm_no, dm_no, dm_ist 14 5, dm_no, dm_ald 15 0, dm_push 16 (.int 0)],
  [dm_inv 19 81 1 6, dm_no, dm_no, dm_ist 21 6, dm_no, dm_ald 22 0, dm_ild 23 1, dm_inv 26 77 1 6, dm_no, dm_no, dm_if_ne 29 35, dm_no, dm_no, dm_ild 30 3, dm_push 32 (.int 60), dm_no],
  [dm_ic_lt 35 72, dm_no, dm_no, dm_ald 36 0, dm_ild 37 2, dm_if_eq 40 44, dm_no, dm_no, dm_push 41 (.int 0), dm_goto 45, dm_no, dm_no, dm_push 45 (.int 1), dm_inv 48 81 1 6, dm_no, dm_no],
  [dm_pop 49, dm_ald 50 0, dm_ild 52 6, dm_no, dm_inv 55 82 1 6, dm_no, dm_no, dm_ald 56 0, dm_ild 57 2, dm_if_eq 60 64, dm_no, dm_no, dm_push 61 (.int 1), dm_goto 65, dm_no, dm_no],
  [dm_push 65 (.int 0), dm_inv 68 81 1 6, dm_no, dm_no, dm_pop 69, dm_goto 176, dm_no, dm_no, dm_ald 73 0, dm_ild 75 4, dm_no, dm_push 76 (.int 0), dm_inv 79 78 2 6, dm_no, dm_no, dm_if_eq 82 107],
  [dm_no, dm_no, dm_ald 83 0, dm_push 84 (.int 0), dm_inv 87 81 1 6, dm_no, dm_no, dm_pop 88, dm_ald 89 0, dm_ild 91 6, dm_no, dm_inv 94 82 1 6, dm_no, dm_no, dm_ald 95 0, dm_ild 97 5],
  [dm_no, dm_ild 98 2, dm_ild 99 3, dm_push 100 (.int 1), dm_ii 101 (fun x y => x + y), dm_ins 104 37 4, dm_no, dm_no, dm_goto 176, dm_no, dm_no, dm_ald 108 0, dm_ild 110 5, dm_no, dm_push 111 (.int 0), dm_inv 114 78 2 6],
  [dm_no, dm_no, dm_if_eq 117 142, dm_no, dm_no, dm_ald 118 0, dm_ild 120 4, dm_no, dm_ild 121 2, dm_ild 122 3, dm_push 123 (.int 1), dm_ii 124 (fun x y => x + y), dm_ins 127 37 4, dm_no, dm_no, dm_ald 128 0],
  [dm_ild 130 6, dm_no, dm_inv 133 82 1 6, dm_no, dm_no, dm_ald 134 0, dm_push 135 (.int 0), dm_inv 138 81 1 6, dm_no, dm_no, dm_pop 139, dm_goto 176, dm_no, dm_no, dm_ald 143 0, dm_ild 144 2],
  [dm_if_eq 147 151, dm_no, dm_no, dm_push 148 (.int 0), dm_goto 153, dm_no, dm_no, dm_ild 153 4, dm_no, dm_inv 156 85 1 6, dm_no, dm_no, dm_ald 157 0, dm_ild 159 6, dm_no, dm_inv 162 82 1 6],
  [dm_no, dm_no, dm_ald 163 0, dm_ild 164 2, dm_if_eq 167 172, dm_no, dm_no, dm_ild 169 5, dm_no, dm_goto 173, dm_no, dm_no, dm_push 173 (.int 0), dm_inv 176 85 1 6, dm_no, dm_no],
  [dm_vret]]
theorem tr_37_0 : dm_AllR (dm_Good dm_tb RX3 cX3_partFrom 7 none false none) 0 [dm_ald 1 0, dm_ild 2 1, dm_inv 5 79 1 6, dm_no, dm_no, dm_ist 7 4, dm_no, dm_ald 8 0, dm_ild 9 1, dm_inv 12 80 1 6, dm_no, dm_no, dm_ist 14 5, dm_no, dm_ald 15 0, dm_push 16 (.int 0)] := dr_c (dg_aload_n (k := 0) rfl dX3_partFrom_0) <| dr_c (dg_iload_n (k := 1) rfl dX3_partFrom_1) <| dr_c (dg_inv dX3_partFrom_2 mo_79 rfl rfl wd_392 wd_393 wd_394 pd_79) <| dr_c (dg_no) <| dr_c (dg_no) <| dr_c (dg_istore (by decide) dX3_partFrom_5) <| dr_c (dg_no) <| dr_c (dg_aload_n (k := 0) rfl dX3_partFrom_7) <| dr_c (dg_iload_n (k := 1) rfl dX3_partFrom_8) <| dr_c (dg_inv dX3_partFrom_9 mo_80 rfl rfl wd_397 wd_398 wd_399 pd_80) <| dr_c (dg_no) <| dr_c (dg_no) <| dr_c (dg_istore (by decide) dX3_partFrom_12) <| dr_c (dg_no) <| dr_c (dg_aload_n (k := 0) rfl dX3_partFrom_14) <| dr_c (dg_iconst (by decide) dX3_partFrom_15) <| dr_n
theorem tr_37_1 : dm_AllR (dm_Good dm_tb RX3 cX3_partFrom 7 none false none) 16 [dm_inv 19 81 1 6, dm_no, dm_no, dm_ist 21 6, dm_no, dm_ald 22 0, dm_ild 23 1, dm_inv 26 77 1 6, dm_no, dm_no, dm_if_ne 29 35, dm_no, dm_no, dm_ild 30 3, dm_push 32 (.int 60), dm_no] := dr_c (dg_inv dX3_partFrom_16 mo_81 rfl rfl wd_416 wd_248 wd_249 pd_81) <| dr_c (dg_no) <| dr_c (dg_no) <| dr_c (dg_istore (by decide) dX3_partFrom_19) <| dr_c (dg_no) <| dr_c (dg_aload_n (k := 0) rfl dX3_partFrom_21) <| dr_c (dg_iload_n (k := 1) rfl dX3_partFrom_22) <| dr_c (dg_inv dX3_partFrom_23 mo_77 rfl rfl wd_391 wd_293 wd_294 pd_77) <| dr_c (dg_no) <| dr_c (dg_no) <| dr_c (dg_if_ne (by decide) dX3_partFrom_26) <| dr_c (dg_no) <| dr_c (dg_no) <| dr_c (dg_iload_n (k := 3) rfl dX3_partFrom_29) <| dr_c (dg_bipush (by decide) dX3_partFrom_30) <| dr_c (dg_no) <| dr_n
theorem tr_37_2 : dm_AllR (dm_Good dm_tb RX3 cX3_partFrom 7 none false none) 32 [dm_ic_lt 35 72, dm_no, dm_no, dm_ald 36 0, dm_ild 37 2, dm_if_eq 40 44, dm_no, dm_no, dm_push 41 (.int 0), dm_goto 45, dm_no, dm_no, dm_push 45 (.int 1), dm_inv 48 81 1 6, dm_no, dm_no] := dr_c (dg_ic_lt (by decide) dX3_partFrom_32) <| dr_c (dg_no) <| dr_c (dg_no) <| dr_c (dg_aload_n (k := 0) rfl dX3_partFrom_35) <| dr_c (dg_iload_n (k := 2) rfl dX3_partFrom_36) <| dr_c (dg_if_eq (by decide) dX3_partFrom_37) <| dr_c (dg_no) <| dr_c (dg_no) <| dr_c (dg_iconst (by decide) dX3_partFrom_40) <| dr_c (dg_goto (by decide) dX3_partFrom_41) <| dr_c (dg_no) <| dr_c (dg_no) <| dr_c (dg_iconst (by decide) dX3_partFrom_44) <| dr_c (dg_inv dX3_partFrom_45 mo_81 rfl rfl wd_416 wd_248 wd_249 pd_81) <| dr_c (dg_no) <| dr_c (dg_no) <| dr_n
theorem tr_37_3 : dm_AllR (dm_Good dm_tb RX3 cX3_partFrom 7 none false none) 48 [dm_pop 49, dm_ald 50 0, dm_ild 52 6, dm_no, dm_inv 55 82 1 6, dm_no, dm_no, dm_ald 56 0, dm_ild 57 2, dm_if_eq 60 64, dm_no, dm_no, dm_push 61 (.int 1), dm_goto 65, dm_no, dm_no] := dr_c (dg_pop dX3_partFrom_48) <| dr_c (dg_aload_n (k := 0) rfl dX3_partFrom_49) <| dr_c (dg_iload dX3_partFrom_50) <| dr_c (dg_no) <| dr_c (dg_inv dX3_partFrom_52 mo_82 rfl rfl wd_417 wd_418 wd_419 pd_82) <| dr_c (dg_no) <| dr_c (dg_no) <| dr_c (dg_aload_n (k := 0) rfl dX3_partFrom_55) <| dr_c (dg_iload_n (k := 2) rfl dX3_partFrom_56) <| dr_c (dg_if_eq (by decide) dX3_partFrom_57) <| dr_c (dg_no) <| dr_c (dg_no) <| dr_c (dg_iconst (by decide) dX3_partFrom_60) <| dr_c (dg_goto (by decide) dX3_partFrom_61) <| dr_c (dg_no) <| dr_c (dg_no) <| dr_n
theorem tr_37_4 : dm_AllR (dm_Good dm_tb RX3 cX3_partFrom 7 none false none) 64 [dm_push 65 (.int 0), dm_inv 68 81 1 6, dm_no, dm_no, dm_pop 69, dm_goto 176, dm_no, dm_no, dm_ald 73 0, dm_ild 75 4, dm_no, dm_push 76 (.int 0), dm_inv 79 78 2 6, dm_no, dm_no, dm_if_eq 82 107] := dr_c (dg_iconst (by decide) dX3_partFrom_64) <| dr_c (dg_inv dX3_partFrom_65 mo_81 rfl rfl wd_416 wd_248 wd_249 pd_81) <| dr_c (dg_no) <| dr_c (dg_no) <| dr_c (dg_pop dX3_partFrom_68) <| dr_c (dg_goto (by decide) dX3_partFrom_69) <| dr_c (dg_no) <| dr_c (dg_no) <| dr_c (dg_aload_n (k := 0) rfl dX3_partFrom_72) <| dr_c (dg_iload dX3_partFrom_73) <| dr_c (dg_no) <| dr_c (dg_iconst (by decide) dX3_partFrom_75) <| dr_c (dg_inv dX3_partFrom_76 mo_78 rfl rfl wd_396 wd_377 wd_378 pd_78) <| dr_c (dg_no) <| dr_c (dg_no) <| dr_c (dg_if_eq (by decide) dX3_partFrom_79) <| dr_n
theorem tr_37_5 : dm_AllR (dm_Good dm_tb RX3 cX3_partFrom 7 none false none) 80 [dm_no, dm_no, dm_ald 83 0, dm_push 84 (.int 0), dm_inv 87 81 1 6, dm_no, dm_no, dm_pop 88, dm_ald 89 0, dm_ild 91 6, dm_no, dm_inv 94 82 1 6, dm_no, dm_no, dm_ald 95 0, dm_ild 97 5] := dr_c (dg_no) <| dr_c (dg_no) <| dr_c (dg_aload_n (k := 0) rfl dX3_partFrom_82) <| dr_c (dg_iconst (by decide) dX3_partFrom_83) <| dr_c (dg_inv dX3_partFrom_84 mo_81 rfl rfl wd_416 wd_248 wd_249 pd_81) <| dr_c (dg_no) <| dr_c (dg_no) <| dr_c (dg_pop dX3_partFrom_87) <| dr_c (dg_aload_n (k := 0) rfl dX3_partFrom_88) <| dr_c (dg_iload dX3_partFrom_89) <| dr_c (dg_no) <| dr_c (dg_inv dX3_partFrom_91 mo_82 rfl rfl wd_417 wd_418 wd_419 pd_82) <| dr_c (dg_no) <| dr_c (dg_no) <| dr_c (dg_aload_n (k := 0) rfl dX3_partFrom_94) <| dr_c (dg_iload dX3_partFrom_95) <| dr_n
theorem tr_37_6 : dm_AllR (dm_Good dm_tb RX3 cX3_partFrom 7 none false none) 96 [dm_no, dm_ild 98 2, dm_ild 99 3, dm_push 100 (.int 1), dm_ii 101 (fun x y => x + y), dm_ins 104 37 4, dm_no, dm_no, dm_goto 176, dm_no, dm_no, dm_ald 108 0, dm_ild 110 5, dm_no, dm_push 111 (.int 0), dm_inv 114 78 2 6] := dr_c (dg_no) <| dr_c (dg_iload_n (k := 2) rfl dX3_partFrom_97) <| dr_c (dg_iload_n (k := 3) rfl dX3_partFrom_98) <| dr_c (dg_iconst (by decide) dX3_partFrom_99) <| dr_c (dg_iadd dX3_partFrom_100) <| dr_c (dg_ins dX3_partFrom_101 mo_37 wd_413 wd_414 pd_37) <| dr_c (dg_no) <| dr_c (dg_no) <| dr_c (dg_goto (by decide) dX3_partFrom_104) <| dr_c (dg_no) <| dr_c (dg_no) <| dr_c (dg_aload_n (k := 0) rfl dX3_partFrom_107) <| dr_c (dg_iload dX3_partFrom_108) <| dr_c (dg_no) <| dr_c (dg_iconst (by decide) dX3_partFrom_110) <| dr_c (dg_inv dX3_partFrom_111 mo_78 rfl rfl wd_396 wd_377 wd_378 pd_78) <| dr_n
theorem tr_37_7 : dm_AllR (dm_Good dm_tb RX3 cX3_partFrom 7 none false none) 112 [dm_no, dm_no, dm_if_eq 117 142, dm_no, dm_no, dm_ald 118 0, dm_ild 120 4, dm_no, dm_ild 121 2, dm_ild 122 3, dm_push 123 (.int 1), dm_ii 124 (fun x y => x + y), dm_ins 127 37 4, dm_no, dm_no, dm_ald 128 0] := dr_c (dg_no) <| dr_c (dg_no) <| dr_c (dg_if_eq (by decide) dX3_partFrom_114) <| dr_c (dg_no) <| dr_c (dg_no) <| dr_c (dg_aload_n (k := 0) rfl dX3_partFrom_117) <| dr_c (dg_iload dX3_partFrom_118) <| dr_c (dg_no) <| dr_c (dg_iload_n (k := 2) rfl dX3_partFrom_120) <| dr_c (dg_iload_n (k := 3) rfl dX3_partFrom_121) <| dr_c (dg_iconst (by decide) dX3_partFrom_122) <| dr_c (dg_iadd dX3_partFrom_123) <| dr_c (dg_ins dX3_partFrom_124 mo_37 wd_413 wd_414 pd_37) <| dr_c (dg_no) <| dr_c (dg_no) <| dr_c (dg_aload_n (k := 0) rfl dX3_partFrom_127) <| dr_n
theorem tr_37_8 : dm_AllR (dm_Good dm_tb RX3 cX3_partFrom 7 none false none) 128 [dm_ild 130 6, dm_no, dm_inv 133 82 1 6, dm_no, dm_no, dm_ald 134 0, dm_push 135 (.int 0), dm_inv 138 81 1 6, dm_no, dm_no, dm_pop 139, dm_goto 176, dm_no, dm_no, dm_ald 143 0, dm_ild 144 2] := dr_c (dg_iload dX3_partFrom_128) <| dr_c (dg_no) <| dr_c (dg_inv dX3_partFrom_130 mo_82 rfl rfl wd_417 wd_418 wd_419 pd_82) <| dr_c (dg_no) <| dr_c (dg_no) <| dr_c (dg_aload_n (k := 0) rfl dX3_partFrom_133) <| dr_c (dg_iconst (by decide) dX3_partFrom_134) <| dr_c (dg_inv dX3_partFrom_135 mo_81 rfl rfl wd_416 wd_248 wd_249 pd_81) <| dr_c (dg_no) <| dr_c (dg_no) <| dr_c (dg_pop dX3_partFrom_138) <| dr_c (dg_goto (by decide) dX3_partFrom_139) <| dr_c (dg_no) <| dr_c (dg_no) <| dr_c (dg_aload_n (k := 0) rfl dX3_partFrom_142) <| dr_c (dg_iload_n (k := 2) rfl dX3_partFrom_143) <| dr_n
theorem tr_37_9 : dm_AllR (dm_Good dm_tb RX3 cX3_partFrom 7 none false none) 144 [dm_if_eq 147 151, dm_no, dm_no, dm_push 148 (.int 0), dm_goto 153, dm_no, dm_no, dm_ild 153 4, dm_no, dm_inv 156 85 1 6, dm_no, dm_no, dm_ald 157 0, dm_ild 159 6, dm_no, dm_inv 162 82 1 6] := dr_c (dg_if_eq (by decide) dX3_partFrom_144) <| dr_c (dg_no) <| dr_c (dg_no) <| dr_c (dg_iconst (by decide) dX3_partFrom_147) <| dr_c (dg_goto (by decide) dX3_partFrom_148) <| dr_c (dg_no) <| dr_c (dg_no) <| dr_c (dg_iload dX3_partFrom_151) <| dr_c (dg_no) <| dr_c (dg_inv dX3_partFrom_153 mo_85 rfl rfl wd_421 wd_422 wd_423 pd_85) <| dr_c (dg_no) <| dr_c (dg_no) <| dr_c (dg_aload_n (k := 0) rfl dX3_partFrom_156) <| dr_c (dg_iload dX3_partFrom_157) <| dr_c (dg_no) <| dr_c (dg_inv dX3_partFrom_159 mo_82 rfl rfl wd_417 wd_418 wd_419 pd_82) <| dr_n
theorem tr_37_10 : dm_AllR (dm_Good dm_tb RX3 cX3_partFrom 7 none false none) 160 [dm_no, dm_no, dm_ald 163 0, dm_ild 164 2, dm_if_eq 167 172, dm_no, dm_no, dm_ild 169 5, dm_no, dm_goto 173, dm_no, dm_no, dm_push 173 (.int 0), dm_inv 176 85 1 6, dm_no, dm_no] := dr_c (dg_no) <| dr_c (dg_no) <| dr_c (dg_aload_n (k := 0) rfl dX3_partFrom_162) <| dr_c (dg_iload_n (k := 2) rfl dX3_partFrom_163) <| dr_c (dg_if_eq (by decide) dX3_partFrom_164) <| dr_c (dg_no) <| dr_c (dg_no) <| dr_c (dg_iload dX3_partFrom_167) <| dr_c (dg_no) <| dr_c (dg_goto (by decide) dX3_partFrom_169) <| dr_c (dg_no) <| dr_c (dg_no) <| dr_c (dg_iconst (by decide) dX3_partFrom_172) <| dr_c (dg_inv dX3_partFrom_173 mo_85 rfl rfl wd_421 wd_422 wd_423 pd_85) <| dr_c (dg_no) <| dr_c (dg_no) <| dr_n
theorem tr_37_11 : dm_AllR (dm_Good dm_tb RX3 cX3_partFrom 7 none false none) 176 [dm_vret] := dr_c (dg_vret dX3_partFrom_176) <| dr_n
theorem tk_37 : dm_AllC (dm_Good dm_tb RX3 cX3_partFrom 7 none false none) 0 cd_37 := dc_c (by decide) tr_37_0 <| dc_c (by decide) tr_37_1 <| dc_c (by decide) tr_37_2 <| dc_c (by decide) tr_37_3 <| dc_c (by decide) tr_37_4 <| dc_c (by decide) tr_37_5 <| dc_c (by decide) tr_37_6 <| dc_c (by decide) tr_37_7 <| dc_c (by decide) tr_37_8 <| dc_c (by decide) tr_37_9 <| dc_c (by decide) tr_37_10 <| dc_c (by decide) tr_37_11 <| dc_n
theorem dX3_higher_0 : decode cX3_higher 0 = .ok (.aload_n 0, 1) := by decide +kernel
theorem dX3_higher_1 : decode cX3_higher 1 = .ok (.invokevirtual 32, 3) := by decide +kernel
theorem dX3_higher_4 : decode cX3_higher 4 = .ok (.istore_n 3, 1) := by decide +kernel
theorem dX3_higher_5 : decode cX3_higher 5 = .ok (.aload_n 0, 1) := by decide +kernel
theorem dX3_higher_6 : decode cX3_higher 6 = .ok (.iload_n 1, 1) := by decide +kernel
theorem dX3_higher_7 : decode cX3_higher 7 = .ok (.iconst 0, 1) := by decide +kernel
theorem dX3_higher_8 : decode cX3_higher 8 = .ok (.iload_n 2, 1) := by decide +kernel
theorem dX3_higher_9 : decode cX3_higher 9 = .ok (.iconst 0, 1) := by decide +kernel
theorem dX3_higher_10 : decode cX3_higher 10 = .ok (.iconst 0, 1) := by decide +kernel
theorem dX3_higher_11 : decode cX3_higher 11 = .ok (.invokestatic 50, 3) := by decide +kernel
theorem dX3_higher_14 : decode cX3_higher 14 = .ok (.iload_n 3, 1) := by decide +kernel
theorem dX3_higher_15 : decode cX3_higher 15 = .ok (.ireturn, 1) := by decide +kernel
def cd_38 : dm_Code := [[dm_ald 1 0, dm_inv 4 73 0 6, dm_no, dm_no, dm_ist 5 3, dm_ald 6 0, dm_ild 7 1, dm_push 8 (.int 0), dm_ild 9 2, dm_push 10 (.int 0), dm_push 11 (.int 0), dm_ins 14 39 6, dm_no, dm_no, dm_ild 15 3, dm_ret .int]]
theorem tr_38_0 : dm_AllR (dm_Good dm_tb RX3 cX3_higher 4 (some .int) false none) 0 [dm_ald 1 0, dm_inv 4 73 0 6, dm_no, dm_no, dm_ist 5 3, dm_ald 6 0, dm_ild 7 1, dm_push 8 (.int 0), dm_ild 9 2, dm_push 10 (.int 0), dm_push 11 (.int 0), dm_ins 14 39 6, dm_no, dm_no, dm_ild 15 3, dm_ret .int] := dr_c (dg_aload_n (k := 0) rfl dX3_higher_0) <| dr_c (dg_inv dX3_higher_1 mo_73 rfl rfl wd_412 wd_299 wd_300 pd_73) <| dr_c (dg_no) <| dr_c (dg_no) <| dr_c (dg_istore_n (k := 3) rfl (by decide) dX3_higher_4) <| dr_c (dg_aload_n (k := 0) rfl dX3_higher_5) <| dr_c (dg_iload_n (k := 1) rfl dX3_higher_6) <| dr_c (dg_iconst (by decide) dX3_higher_7) <| dr_c (dg_iload_n (k := 2) rfl dX3_higher_8) <| dr_c (dg_iconst (by decide) dX3_higher_9) <| dr_c (dg_iconst (by decide) dX3_higher_10) <| dr_c (dg_ins dX3_higher_11 mo_39 wd_518 wd_519 pd_39) <| dr_c (dg_no) <| dr_c (dg_no) <| dr_c (dg_iload_n (k := 3) rfl dX3_higher_14) <| dr_c (dg_ret dX3_higher_15) <| dr_n
theorem tk_38 : dm_AllC (dm_Good dm_tb RX3 cX3_higher 4 (some .int) false none) 0 cd_38 := dc_c (by decide) tr_38_0 <| dc_n
theorem dX3_higherFrom_0 : decode cX3_higherFrom 0 = .ok (.iload_n 2, 1) := by decide +kernel
theorem dX3_higherFrom_1 : decode cX3_higherFrom 1 = .ok (.aload_n 0, 1) := by decide +kernel
theorem dX3_higherFrom_2 : decode cX3_higherFrom 2 = .ok (.iload_n 1, 1) := by decide +kernel
theorem dX3_higherFrom_3 : decode cX3_higherFrom 3 = .ok (.invokevirtual 54, 3) := by decide +kernel
theorem dX3_higherFrom_6 : decode cX3_higherFrom 6 = .ok (.iadd, 1) := by decide +kernel
theorem dX3_higherFrom_7 : decode cX3_higherFrom 7 = .ok (.istore 6, 2) := by decide +kernel
theorem dX3_higherFrom_9 : decode cX3_higherFrom 9 = .ok (.iload 4, 2) := by decide +kernel
theorem dX3_higherFrom_11 : decode cX3_higherFrom 11 = .ok (.aload_n 0, 1) := by decide +kernel
theorem dX3_higherFrom_12 : decode cX3_higherFrom 12 = .ok (.iload_n 3, 1) := by decide +kernel
theorem dX3_higherFrom_13 : decode cX3_higherFrom 13 = .ok (.invokevirtual 54, 3) := by decide +kernel
theorem dX3_higherFrom_16 : decode cX3_higherFrom 16 = .ok (.iadd, 1) := by decide +kernel
theorem dX3_higherFrom_17 : decode cX3_higherFrom 17 = .ok (.istore 7, 2) := by decide +kernel
theorem dX3_higherFrom_19 : decode cX3_higherFrom 19 = .ok (.aload_n 0, 1) := by decide +kernel
theorem dX3_higherFrom_20 : decode cX3_higherFrom 20 = .ok (.iload_n 1, 1) := by decide +kernel
theorem dX3_higherFrom_21 : decode cX3_higherFrom 21 = .ok (.invokevirtual 28, 3) := by decide +kernel
theorem dX3_higherFrom_24 : decode cX3_higherFrom 24 = .ok (.ifCond .eq 11, 3) := by decide +kernel
theorem dX3_higherFrom_27 : decode cX3_higherFrom 27 = .ok (.aload_n 0, 1) := by decide +kernel
theorem dX3_higherFrom_28 : decode cX3_higherFrom 28 = .ok (.iload_n 3, 1) := by decide +kernel
theorem dX3_higherFrom_29 : decode cX3_higherFrom 29 = .ok (.invokevirtual 28, 3) := by decide +kernel
theorem dX3_higherFrom_32 : decode cX3_higherFrom 32 = .ok (.ifCond .ne 10, 3) := by decide +kernel
theorem dX3_higherFrom_35 : decode cX3_higherFrom 35 = .ok (.iload 5, 2) := by decide +kernel
theorem dX3_higherFrom_37 : decode cX3_higherFrom 37 = .ok (.bipush 60, 2) := by decide +kernel
theorem dX3_higherFrom_39 : decode cX3_higherFrom 39 = .ok (.if_icmp .lt 16, 3) := by decide +kernel
theorem dX3_higherFrom_42 : decode cX3_higherFrom 42 = .ok (.aload_n 0, 1) := by decide +kernel
theorem dX3_higherFrom_43 : decode cX3_higherFrom 43 = .ok (.iload 6, 2) := by decide +kernel
theorem dX3_higherFrom_45 : decode cX3_higherFrom 45 = .ok (.iload 7, 2) := by decide +kernel
theorem dX3_higherFrom_47 : decode cX3_higherFrom 47 = .ok (.invokestatic 57, 3) := by decide +kernel
theorem dX3_higherFrom_50 : decode cX3_higherFrom 50 = .ok (.invokevirtual 40, 3) := by decide +kernel
theorem dX3_higherFrom_53 : decode cX3_higherFrom 53 = .ok (.pop, 1) := by decide +kernel
theorem dX3_higherFrom_54 : decode cX3_higherFrom 54 = .ok (.return_, 1) := by decide +kernel
theorem dX3_higherFrom_55 : decode cX3_higherFrom 55 = .ok (.aload_n 0, 1) := by decide +kernel
theorem dX3_higherFrom_56 : decode cX3_higherFrom 56 = .ok (.iconst 0, 1) := by decide +kernel
theorem dX3_higherFrom_57 : decode cX3_higherFrom 57 = .ok (.invokevirtual 40, 3) := by decide +kernel
theorem dX3_higherFrom_60 : decode cX3_higherFrom 60 = .ok (.istore 8, 2) := by decide +kernel
theorem dX3_higherFrom_62 : decode cX3_higherFrom 62 = .ok (.aload_n 0, 1) := by decide +kernel
theorem dX3_higherFrom_63 : decode cX3_higherFrom 63 = .ok (.aload_n 0, 1) := by decide +kernel
theorem dX3_higherFrom_64 : decode cX3_higherFrom 64 = .ok (.iload_n 1, 1) := by decide +kernel
theorem dX3_higherFrom_65 : decode cX3_higherFrom 65 = .ok (.invokevirtual 15, 3) := by decide +kernel
theorem dX3_higherFrom_68 : decode cX3_higherFrom 68 = .ok (.iload 6, 2) := by decide +kernel
theorem dX3_higherFrom_70 : decode cX3_higherFrom 70 = .ok (.aload_n 0, 1) := by decide +kernel
theorem dX3_higherFrom_71 : decode cX3_higherFrom 71 = .ok (.iload_n 3, 1) := by decide +kernel
theorem dX3_higherFrom_72 : decode cX3_higherFrom 72 = .ok (.invokevirtual 15, 3) := by decide +kernel
theorem dX3_higherFrom_75 : decode cX3_higherFrom 75 = .ok (.iload 7, 2) := by decide +kernel
theorem dX3_higherFrom_77 : decode cX3_higherFrom 77 = .ok (.iload 5, 2) := by decide +kernel
theorem dX3_higherFrom_79 : decode cX3_higherFrom 79 = .ok (.iconst 1, 1) := by decide +kernel
theorem dX3_higherFrom_80 : decode cX3_higherFrom 80 = .ok (.iadd, 1) := by decide +kernel
theorem dX3_higherFrom_81 : decode cX3_higherFrom 81 = .ok (.invokestatic 50, 3) := by decide +kernel
theorem dX3_higherFrom_84 : decode cX3_higherFrom 84 = .ok (.aload_n 0, 1) := by decide +kernel
theorem dX3_higherFrom_85 : decode cX3_higherFrom 85 = .ok (.iload 8, 2) := by decide +kernel
theorem dX3_higherFrom_87 : decode cX3_higherFrom 87 = .ok (.invokevirtual 43, 3) := by decide +kernel
theorem dX3_higherFrom_90 : decode cX3_higherFrom 90 = .ok (.aload_n 0, 1) := by decide +kernel
theorem dX3_higherFrom_91 : decode cX3_higherFrom 91 = .ok (.aload_n 0, 1) := by decide +kernel
theorem dX3_higherFrom_92 : decode cX3_higherFrom 92 = .ok (.iload_n 1, 1) := by decide +kernel
theorem dX3_higherFrom_93 : decode cX3_higherFrom 93 = .ok (.invokevirtual 25, 3) := by decide +kernel
theorem dX3_higherFrom_96 : decode cX3_higherFrom 96 = .ok (.iload 6, 2) := by decide +kernel
theorem dX3_higherFrom_98 : decode cX3_higherFrom 98 = .ok (.aload_n 0, 1) := by decide +kernel
theorem dX3_higherFrom_99 : decode cX3_higherFrom 99 = .ok (.iload_n 3, 1) := by decide +kernel
theorem dX3_higherFrom_100 : decode cX3_higherFrom 100 = .ok (.invokevirtual 25, 3) := by decide +kernel
theorem dX3_higherFrom_103 : decode cX3_higherFrom 103 = .ok (.iload 7, 2) := by decide +kernel
theorem dX3_higherFrom_105 : decode cX3_higherFrom 105 = .ok (.iload 5, 2) := by decide +kernel
theorem dX3_higherFrom_107 : decode cX3_higherFrom 107 = .ok (.iconst 1, 1) := by decide +kernel
theorem dX3_higherFrom_108 : decode cX3_higherFrom 108 = .ok (.iadd, 1) := by decide +kernel
theorem dX3_higherFrom_109 : decode cX3_higherFrom 109 = .ok (.invokestatic 50, 3) := by decide +kernel
theorem dX3_higherFrom_112 : decode cX3_higherFrom 112 = .ok (.aload_n 0, 1) := by decide +kernel
theorem dX3_higherFrom_113 : decode cX3_higherFrom 113 = .ok (.iload 8, 2) := by decide +kernel
theorem dX3_higherFrom_115 : decode cX3_higherFrom 115 = .ok (.invokevirtual 63, 3) := by decide +kernel
theorem dX3_higherFrom_118 : decode cX3_higherFrom 118 = .ok (.return_, 1) := by decide +kernel
def cd_39 : dm_Code := [[dm_ild 1 2, dm_ald 2 0, dm_ild 3 1, dm_inv 6 75 1 6, dm_no, dm_no, dm_ii 7 (fun x y => x + y), dm_ist 9 6, dm_no, dm_ild 11 4, dm_no, dm_ald 12 0, dm_ild 13 3, dm_inv 16 75 1 6, dm_no, dm_no],
  [dm_ii 17 (fun x y => x + y), dm_ist 19 7, dm_no, dm_ald 20 0, dm_ild 21 1, dm_inv 24 77 1 6, dm_no, dm_no, dm_if_eq 27 35, dm_no, dm_no, dm_ald 28 0, dm_ild 29 3, dm_inv 32 77 1 6, dm_no, dm_no],
  [dm_if_ne 35 42, dm_no, dm_no, dm_ild 37 5, dm_no, dm_push 39 (.int 60), dm_no, dm_ic_lt 42 55, dm_no, dm_no, dm_ald 43 0, dm_ild 45 6, dm_no, dm_ild 47 7, dm_no, dm_mx 50],
  [dm_no, dm_no, dm_inv 53 81 1 6, dm_no, dm_no, dm_pop 54, dm_vret, dm_ald 56 0, dm_push 57 (.int 0), dm_inv 60 81 1 6, dm_no, dm_no, dm_ist 62 8, dm_no, dm_ald 63 0, dm_ald 64 0],
  [dm_ild 65 1, dm_inv 68 79 1 6, dm_no, dm_no, dm_ild 70 6, dm_no, dm_ald 71 0, dm_ild 72 3, dm_inv 75 79 1 6, dm_no, dm_no, dm_ild 77 7, dm_no, dm_ild 79 5, dm_no, dm_push 80 (.int 1)],
  [dm_ii 81 (fun x y => x + y), dm_ins 84 39 6, dm_no, dm_no, dm_ald 85 0, dm_ild 87 8, dm_no, dm_inv 90 82 1 6, dm_no, dm_no, dm_ald 91 0, dm_ald 92 0, dm_ild 93 1, dm_inv 96 80 1 6, dm_no, dm_no],
  [dm_ild 98 6, dm_no, dm_ald 99 0, dm_ild 100 3, dm_inv 103 80 1 6, dm_no, dm_no, dm_ild 105 7, dm_no, dm_ild 107 5, dm_no, dm_push 108 (.int 1), dm_ii 109 (fun x y => x + y), dm_ins 112 39 6, dm_no, dm_no],
  [dm_ald 113 0, dm_ild 115 8, dm_no, dm_inv 118 83 1 6, dm_no, dm_no, dm_vret]]
theorem tr_39_0 : dm_AllR (dm_Good dm_tb RX3 cX3_higherFrom 9 none false none) 0 [dm_ild 1 2, dm_ald 2 0, dm_ild 3 1, dm_inv 6 75 1 6, dm_no, dm_no, dm_ii 7 (fun x y => x + y), dm_ist 9 6, dm_no, dm_ild 11 4, dm_no, dm_ald 12 0, dm_ild 13 3, dm_inv 16 75 1 6, dm_no, dm_no] := dr_c (dg_iload_n (k := 2) rfl dX3_higherFrom_0) <| dr_c (dg_aload_n (k := 0) rfl dX3_higherFrom_1) <| dr_c (dg_iload_n (k := 1) rfl dX3_higherFrom_2) <| dr_c (dg_inv dX3_higherFrom_3 mo_75 rfl rfl wd_477 wd_381 wd_382 pd_75) <| dr_c (dg_no) <| dr_c (dg_no) <| dr_c (dg_iadd dX3_higherFrom_6) <| dr_c (dg_istore (by decide) dX3_higherFrom_7) <| dr_c (dg_no) <| dr_c (dg_iload dX3_higherFrom_9) <| dr_c (dg_no) <| dr_c (dg_aload_n (k := 0) rfl dX3_higherFrom_11) <| dr_c (dg_iload_n (k := 3) rfl dX3_higherFrom_12) <| dr_c (dg_inv dX3_higherFrom_13 mo_75 rfl rfl wd_477 wd_381 wd_382 pd_75) <| dr_c (dg_no) <| dr_c (dg_no) <| dr_n
theorem tr_39_1 : dm_AllR (dm_Good dm_tb RX3 cX3_higherFrom 9 none false none) 16 [dm_ii 17 (fun x y => x + y), dm_ist 19 7, dm_no, dm_ald 20 0, dm_ild 21 1, dm_inv 24 77 1 6, dm_no, dm_no, dm_if_eq 27 35, dm_no, dm_no, dm_ald 28 0, dm_ild 29 3, dm_inv 32 77 1 6, dm_no, dm_no] := dr_c (dg_iadd dX3_higherFrom_16) <| dr_c (dg_istore (by decide) dX3_higherFrom_17) <| dr_c (dg_no) <| dr_c (dg_aload_n (k := 0) rfl dX3_higherFrom_19) <| dr_c (dg_iload_n (k := 1) rfl dX3_higherFrom_20) <| dr_c (dg_inv dX3_higherFrom_21 mo_77 rfl rfl wd_391 wd_293 wd_294 pd_77) <| dr_c (dg_no) <| dr_c (dg_no) <| dr_c (dg_if_eq (by decide) dX3_higherFrom_24) <| dr_c (dg_no) <| dr_c (dg_no) <| dr_c (dg_aload_n (k := 0) rfl dX3_higherFrom_27) <| dr_c (dg_iload_n (k := 3) rfl dX3_higherFrom_28) <| dr_c (dg_inv dX3_higherFrom_29 mo_77 rfl rfl wd_391 wd_293 wd_294 pd_77) <| dr_c (dg_no) <| dr_c (dg_no) <| dr_n
theorem tr_39_2 : dm_AllR (dm_Good dm_tb RX3 cX3_higherFrom 9 none false none) 32 [dm_if_ne 35 42, dm_no, dm_no, dm_ild 37 5, dm_no, dm_push 39 (.int 60), dm_no, dm_ic_lt 42 55, dm_no, dm_no, dm_ald 43 0, dm_ild 45 6, dm_no, dm_ild 47 7, dm_no, dm_mx 50] := dr_c (dg_if_ne (by decide) dX3_higherFrom_32) <| dr_c (dg_no) <| dr_c (dg_no) <| dr_c (dg_iload dX3_higherFrom_35) <| dr_c (dg_no) <| dr_c (dg_bipush (by decide) dX3_higherFrom_37) <| dr_c (dg_no) <| dr_c (dg_ic_lt (by decide) dX3_higherFrom_39) <| dr_c (dg_no) <| dr_c (dg_no) <| dr_c (dg_aload_n (k := 0) rfl dX3_higherFrom_42) <| dr_c (dg_iload dX3_higherFrom_43) <| dr_c (dg_no) <| dr_c (dg_iload dX3_higherFrom_45) <| dr_c (dg_no) <| dr_c (dg_mx dX3_higherFrom_47 wd_478 wd_108 wd_64 wd_109) <| dr_n
theorem tr_39_3 : dm_AllR (dm_Good dm_tb RX3 cX3_higherFrom 9 none false none) 48 [dm_no, dm_no, dm_inv 53 81 1 6, dm_no, dm_no, dm_pop 54, dm_vret, dm_ald 56 0, dm_push 57 (.int 0), dm_inv 60 81 1 6, dm_no, dm_no, dm_ist 62 8, dm_no, dm_ald 63 0, dm_ald 64 0] := dr_c (dg_no) <| dr_c (dg_no) <| dr_c (dg_inv dX3_higherFrom_50 mo_81 rfl rfl wd_416 wd_248 wd_249 pd_81) <| dr_c (dg_no) <| dr_c (dg_no) <| dr_c (dg_pop dX3_higherFrom_53) <| dr_c (dg_vret dX3_higherFrom_54) <| dr_c (dg_aload_n (k := 0) rfl dX3_higherFrom_55) <| dr_c (dg_iconst (by decide) dX3_higherFrom_56) <| dr_c (dg_inv dX3_higherFrom_57 mo_81 rfl rfl wd_416 wd_248 wd_249 pd_81) <| dr_c (dg_no) <| dr_c (dg_no) <| dr_c (dg_istore (by decide) dX3_higherFrom_60) <| dr_c (dg_no) <| dr_c (dg_aload_n (k := 0) rfl dX3_higherFrom_62) <| dr_c (dg_aload_n (k := 0) rfl dX3_higherFrom_63) <| dr_n
theorem tr_39_4 : dm_AllR (dm_Good dm_tb RX3 cX3_higherFrom 9 none false none) 64 [dm_ild 65 1, dm_inv 68 79 1 6, dm_no, dm_no, dm_ild 70 6, dm_no, dm_ald 71 0, dm_ild 72 3, dm_inv 75 79 1 6, dm_no, dm_no, dm_ild 77 7, dm_no, dm_ild 79 5, dm_no, dm_push 80 (.int 1)] := dr_c (dg_iload_n (k := 1) rfl dX3_higherFrom_64) <| dr_c (dg_inv dX3_higherFrom_65 mo_79 rfl rfl wd_392 wd_393 wd_394 pd_79) <| dr_c (dg_no) <| dr_c (dg_no) <| dr_c (dg_iload dX3_higherFrom_68) <| dr_c (dg_no) <| dr_c (dg_aload_n (k := 0) rfl dX3_higherFrom_70) <| dr_c (dg_iload_n (k := 3) rfl dX3_higherFrom_71) <| dr_c (dg_inv dX3_higherFrom_72 mo_79 rfl rfl wd_392 wd_393 wd_394 pd_79) <| dr_c (dg_no) <| dr_c (dg_no) <| dr_c (dg_iload dX3_higherFrom_75) <| dr_c (dg_no) <| dr_c (dg_iload dX3_higherFrom_77) <| dr_c (dg_no) <| dr_c (dg_iconst (by decide) dX3_higherFrom_79) <| dr_n
theorem tr_39_5 : dm_AllR (dm_Good dm_tb RX3 cX3_higherFrom 9 none false none) 80 [dm_ii 81 (fun x y => x + y), dm_ins 84 39 6, dm_no, dm_no, dm_ald 85 0, dm_ild 87 8, dm_no, dm_inv 90 82 1 6, dm_no, dm_no, dm_ald 91 0, dm_ald 92 0, dm_ild 93 1, dm_inv 96 80 1 6, dm_no, dm_no] := dr_c (dg_iadd dX3_higherFrom_80) <| dr_c (dg_ins dX3_higherFrom_81 mo_39 wd_518 wd_519 pd_39) <| dr_c (dg_no) <| dr_c (dg_no) <| dr_c (dg_aload_n (k := 0) rfl dX3_higherFrom_84) <| dr_c (dg_iload dX3_higherFrom_85) <| dr_c (dg_no) <| dr_c (dg_inv dX3_higherFrom_87 mo_82 rfl rfl wd_417 wd_418 wd_419 pd_82) <| dr_c (dg_no) <| dr_c (dg_no) <| dr_c (dg_aload_n (k := 0) rfl dX3_higherFrom_90) <| dr_c (dg_aload_n (k := 0) rfl dX3_higherFrom_91) <| dr_c (dg_iload_n (k := 1) rfl dX3_higherFrom_92) <| dr_c (dg_inv dX3_higherFrom_93 mo_80 rfl rfl wd_397 wd_398 wd_399 pd_80) <| dr_c (dg_no) <| dr_c (dg_no) <| dr_n
theorem tr_39_6 : dm_AllR (dm_Good dm_tb RX3 cX3_higherFrom 9 none false none) 96 [dm_ild 98 6, dm_no, dm_ald 99 0, dm_ild 100 3, dm_inv 103 80 1 6, dm_no, dm_no, dm_ild 105 7, dm_no, dm_ild 107 5, dm_no, dm_push 108 (.int 1), dm_ii 109 (fun x y => x + y), dm_ins 112 39 6, dm_no, dm_no] := dr_c (dg_iload dX3_higherFrom_96) <| dr_c (dg_no) <| dr_c (dg_aload_n (k := 0) rfl dX3_higherFrom_98) <| dr_c (dg_iload_n (k := 3) rfl dX3_higherFrom_99) <| dr_c (dg_inv dX3_higherFrom_100 mo_80 rfl rfl wd_397 wd_398 wd_399 pd_80) <| dr_c (dg_no) <| dr_c (dg_no) <| dr_c (dg_iload dX3_higherFrom_103) <| dr_c (dg_no) <| dr_c (dg_iload dX3_higherFrom_105) <| dr_c (dg_no) <| dr_c (dg_iconst (by decide) dX3_higherFrom_107) <| dr_c (dg_iadd dX3_higherFrom_108) <| dr_c (dg_ins dX3_higherFrom_109 mo_39 wd_518 wd_519 pd_39) <| dr_c (dg_no) <| dr_c (dg_no) <| dr_n
theorem tr_39_7 : dm_AllR (dm_Good dm_tb RX3 cX3_higherFrom 9 none false none) 112 [dm_ald 113 0, dm_ild 115 8, dm_no, dm_inv 118 83 1 6, dm_no, dm_no, dm_vret] := dr_c (dg_aload_n (k := 0) rfl dX3_higherFrom_112) <| dr_c (dg_iload dX3_higherFrom_113) <| dr_c (dg_no) <| dr_c (dg_inv dX3_higherFrom_115 mo_83 rfl rfl wd_483 wd_484 wd_485 pd_83) <| dr_c (dg_no) <| dr_c (dg_no) <| dr_c (dg_vret dX3_higherFrom_118) <| dr_n
theorem tk_39 : dm_AllC (dm_Good dm_tb RX3 cX3_higherFrom 9 none false none) 0 cd_39 := dc_c (by decide) tr_39_0 <| dc_c (by decide) tr_39_1 <| dc_c (by decide) tr_39_2 <| dc_c (by decide) tr_39_3 <| dc_c (by decide) tr_39_4 <| dc_c (by decide) tr_39_5 <| dc_c (by decide) tr_39_6 <| dc_c (by decide) tr_39_7 <| dc_n
theorem dX3_after_0 : decode cX3_after 0 = .ok (.aload_n 0, 1) := by decide +kernel
theorem dX3_after_1 : decode cX3_after 1 = .ok (.invokevirtual 32, 3) := by decide +kernel
theorem dX3_after_4 : decode cX3_after 4 = .ok (.istore_n 3, 1) := by decide +kernel
theorem dX3_after_5 : decode cX3_after 5 = .ok (.aload_n 0, 1) := by decide +kernel
theorem dX3_after_6 : decode cX3_after 6 = .ok (.iload_n 1, 1) := by decide +kernel
theorem dX3_after_7 : decode cX3_after 7 = .ok (.iload_n 2, 1) := by decide +kernel
theorem dX3_after_8 : decode cX3_after 8 = .ok (.iconst 0, 1) := by decide +kernel
theorem dX3_after_9 : decode cX3_after 9 = .ok (.invokestatic 66, 3) := by decide +kernel
theorem dX3_after_12 : decode cX3_after 12 = .ok (.aload_n 0, 1) := by decide +kernel
theorem dX3_after_13 : decode cX3_after 13 = .ok (.iload_n 3, 1) := by decide +kernel
theorem dX3_after_14 : decode cX3_after 14 = .ok (.iload_n 2, 1) := by decide +kernel
theorem dX3_after_15 : decode cX3_after 15 = .ok (.invokevirtual 70, 3) := by decide +kernel
theorem dX3_after_18 : decode cX3_after 18 = .ok (.ifCond .eq 15, 3) := by decide +kernel
theorem dX3_after_21 : decode cX3_after 21 = .ok (.aload_n 0, 1) := by decide +kernel
theorem dX3_after_22 : decode cX3_after 22 = .ok (.iload_n 3, 1) := by decide +kernel
theorem dX3_after_23 : decode cX3_after 23 = .ok (.invokevirtual 73, 3) := by decide +kernel
theorem dX3_after_26 : decode cX3_after 26 = .ok (.aload_n 0, 1) := by decide +kernel
theorem dX3_after_27 : decode cX3_after 27 = .ok (.iload_n 1, 1) := by decide +kernel
theorem dX3_after_28 : decode cX3_after 28 = .ok (.iload_n 2, 1) := by decide +kernel
theorem dX3_after_29 : decode cX3_after 29 = .ok (.iconst 0, 1) := by decide +kernel
theorem dX3_after_30 : decode cX3_after 30 = .ok (.invokestatic 76, 3) := by decide +kernel
theorem dX3_after_33 : decode cX3_after 33 = .ok (.iload_n 3, 1) := by decide +kernel
theorem dX3_after_34 : decode cX3_after 34 = .ok (.ireturn, 1) := by decide +kernel
def cd_40 : dm_Code := [[dm_ald 1 0, dm_inv 4 73 0 6, dm_no, dm_no, dm_ist 5 3, dm_ald 6 0, dm_ild 7 1, dm_ild 8 2, dm_push 9 (.int 0), dm_ins 12 41 4, dm_no, dm_no, dm_ald 13 0, dm_ild 14 3, dm_ild 15 2, dm_inv 18 86 2 6],
  [dm_no, dm_no, dm_if_eq 21 33, dm_no, dm_no, dm_ald 22 0, dm_ild 23 3, dm_inv 26 74 1 6, dm_no, dm_no, dm_ald 27 0, dm_ild 28 1, dm_ild 29 2, dm_push 30 (.int 0), dm_ins 33 42 4, dm_no],
  [dm_no, dm_ild 34 3, dm_ret .int]]
theorem tr_40_0 : dm_AllR (dm_Good dm_tb RX3 cX3_after 4 (some .int) false none) 0 [dm_ald 1 0, dm_inv 4 73 0 6, dm_no, dm_no, dm_ist 5 3, dm_ald 6 0, dm_ild 7 1, dm_ild 8 2, dm_push 9 (.int 0), dm_ins 12 41 4, dm_no, dm_no, dm_ald 13 0, dm_ild 14 3, dm_ild 15 2, dm_inv 18 86 2 6] := dr_c (dg_aload_n (k := 0) rfl dX3_after_0) <| dr_c (dg_inv dX3_after_1 mo_73 rfl rfl wd_412 wd_299 wd_300 pd_73) <| dr_c (dg_no) <| dr_c (dg_no) <| dr_c (dg_istore_n (k := 3) rfl (by decide) dX3_after_4) <| dr_c (dg_aload_n (k := 0) rfl dX3_after_5) <| dr_c (dg_iload_n (k := 1) rfl dX3_after_6) <| dr_c (dg_iload_n (k := 2) rfl dX3_after_7) <| dr_c (dg_iconst (by decide) dX3_after_8) <| dr_c (dg_ins dX3_after_9 mo_41 wd_464 wd_465 pd_41) <| dr_c (dg_no) <| dr_c (dg_no) <| dr_c (dg_aload_n (k := 0) rfl dX3_after_12) <| dr_c (dg_iload_n (k := 3) rfl dX3_after_13) <| dr_c (dg_iload_n (k := 2) rfl dX3_after_14) <| dr_c (dg_inv dX3_after_15 mo_86 rfl rfl wd_489 wd_490 wd_491 pd_86) <| dr_n
theorem tr_40_1 : dm_AllR (dm_Good dm_tb RX3 cX3_after 4 (some .int) false none) 16 [dm_no, dm_no, dm_if_eq 21 33, dm_no, dm_no, dm_ald 22 0, dm_ild 23 3, dm_inv 26 74 1 6, dm_no, dm_no, dm_ald 27 0, dm_ild 28 1, dm_ild 29 2, dm_push 30 (.int 0), dm_ins 33 42 4, dm_no] := dr_c (dg_no) <| dr_c (dg_no) <| dr_c (dg_if_eq (by decide) dX3_after_18) <| dr_c (dg_no) <| dr_c (dg_no) <| dr_c (dg_aload_n (k := 0) rfl dX3_after_21) <| dr_c (dg_iload_n (k := 3) rfl dX3_after_22) <| dr_c (dg_inv dX3_after_23 mo_74 rfl rfl wd_493 wd_436 wd_437 pd_74) <| dr_c (dg_no) <| dr_c (dg_no) <| dr_c (dg_aload_n (k := 0) rfl dX3_after_26) <| dr_c (dg_iload_n (k := 1) rfl dX3_after_27) <| dr_c (dg_iload_n (k := 2) rfl dX3_after_28) <| dr_c (dg_iconst (by decide) dX3_after_29) <| dr_c (dg_ins dX3_after_30 mo_42 wd_494 wd_495 pd_42) <| dr_c (dg_no) <| dr_n
theorem tr_40_2 : dm_AllR (dm_Good dm_tb RX3 cX3_after 4 (some .int) false none) 32 [dm_no, dm_ild 34 3, dm_ret .int] := dr_c (dg_no) <| dr_c (dg_iload_n (k := 3) rfl dX3_after_33) <| dr_c (dg_ret dX3_after_34) <| dr_n
theorem tk_40 : dm_AllC (dm_Good dm_tb RX3 cX3_after 4 (some .int) false none) 0 cd_40 := dc_c (by decide) tr_40_0 <| dc_c (by decide) tr_40_1 <| dc_c (by decide) tr_40_2 <| dc_n
theorem dX3_fillFrom_0 : decode cX3_fillFrom 0 = .ok (.aload_n 0, 1) := by decide +kernel
theorem dX3_fillFrom_1 : decode cX3_fillFrom 1 = .ok (.iload_n 1, 1) := by decide +kernel
theorem dX3_fillFrom_2 : decode cX3_fillFrom 2 = .ok (.iconst 1, 1) := by decide +kernel
theorem dX3_fillFrom_3 : decode cX3_fillFrom 3 = .ok (.invokevirtual 21, 3) := by decide +kernel
theorem dX3_fillFrom_6 : decode cX3_fillFrom 6 = .ok (.ifCond .eq 14, 3) := by decide +kernel
theorem dX3_fillFrom_9 : decode cX3_fillFrom 9 = .ok (.aload_n 0, 1) := by decide +kernel
theorem dX3_fillFrom_10 : decode cX3_fillFrom 10 = .ok (.aload_n 0, 1) := by decide +kernel
theorem dX3_fillFrom_11 : decode cX3_fillFrom 11 = .ok (.iload_n 2, 1) := by decide +kernel
theorem dX3_fillFrom_12 : decode cX3_fillFrom 12 = .ok (.invokevirtual 79, 3) := by decide +kernel
theorem dX3_fillFrom_15 : decode cX3_fillFrom 15 = .ok (.invokevirtual 40, 3) := by decide +kernel
theorem dX3_fillFrom_18 : decode cX3_fillFrom 18 = .ok (.pop, 1) := by decide +kernel
theorem dX3_fillFrom_19 : decode cX3_fillFrom 19 = .ok (.return_, 1) := by decide +kernel
theorem dX3_fillFrom_20 : decode cX3_fillFrom 20 = .ok (.aload_n 0, 1) := by decide +kernel
theorem dX3_fillFrom_21 : decode cX3_fillFrom 21 = .ok (.iload_n 1, 1) := by decide +kernel
theorem dX3_fillFrom_22 : decode cX3_fillFrom 22 = .ok (.invokevirtual 28, 3) := by decide +kernel
theorem dX3_fillFrom_25 : decode cX3_fillFrom 25 = .ok (.ifCond .ne 17, 3) := by decide +kernel
theorem dX3_fillFrom_28 : decode cX3_fillFrom 28 = .ok (.aload_n 0, 1) := by decide +kernel
theorem dX3_fillFrom_29 : decode cX3_fillFrom 29 = .ok (.iload_n 2, 1) := by decide +kernel
theorem dX3_fillFrom_30 : decode cX3_fillFrom 30 = .ok (.invokevirtual 28, 3) := by decide +kernel
theorem dX3_fillFrom_33 : decode cX3_fillFrom 33 = .ok (.ifCond .ne 9, 3) := by decide +kernel
theorem dX3_fillFrom_36 : decode cX3_fillFrom 36 = .ok (.iload_n 3, 1) := by decide +kernel
theorem dX3_fillFrom_37 : decode cX3_fillFrom 37 = .ok (.bipush 60, 2) := by decide +kernel
theorem dX3_fillFrom_39 : decode cX3_fillFrom 39 = .ok (.if_icmp .lt 9, 3) := by decide +kernel
theorem dX3_fillFrom_42 : decode cX3_fillFrom 42 = .ok (.aload_n 0, 1) := by decide +kernel
theorem dX3_fillFrom_43 : decode cX3_fillFrom 43 = .ok (.iload_n 2, 1) := by decide +kernel
theorem dX3_fillFrom_44 : decode cX3_fillFrom 44 = .ok (.invokevirtual 47, 3) := by decide +kernel
theorem dX3_fillFrom_47 : decode cX3_fillFrom 47 = .ok (.return_, 1) := by decide +kernel
theorem dX3_fillFrom_48 : decode cX3_fillFrom 48 = .ok (.aload_n 0, 1) := by decide +kernel
theorem dX3_fillFrom_49 : decode cX3_fillFrom 49 = .ok (.aload_n 0, 1) := by decide +kernel
theorem dX3_fillFrom_50 : decode cX3_fillFrom 50 = .ok (.iload_n 2, 1) := by decide +kernel
theorem dX3_fillFrom_51 : decode cX3_fillFrom 51 = .ok (.invokevirtual 54, 3) := by decide +kernel
theorem dX3_fillFrom_54 : decode cX3_fillFrom 54 = .ok (.invokevirtual 40, 3) := by decide +kernel
theorem dX3_fillFrom_57 : decode cX3_fillFrom 57 = .ok (.istore 4, 2) := by decide +kernel
theorem dX3_fillFrom_59 : decode cX3_fillFrom 59 = .ok (.aload_n 0, 1) := by decide +kernel
theorem dX3_fillFrom_60 : decode cX3_fillFrom 60 = .ok (.invokevirtual 32, 3) := by decide +kernel
theorem dX3_fillFrom_63 : decode cX3_fillFrom 63 = .ok (.istore 5, 2) := by decide +kernel
theorem dX3_fillFrom_65 : decode cX3_fillFrom 65 = .ok (.aload_n 0, 1) := by decide +kernel
theorem dX3_fillFrom_66 : decode cX3_fillFrom 66 = .ok (.aload_n 0, 1) := by decide +kernel
theorem dX3_fillFrom_67 : decode cX3_fillFrom 67 = .ok (.iload_n 1, 1) := by decide +kernel
theorem dX3_fillFrom_68 : decode cX3_fillFrom 68 = .ok (.invokevirtual 15, 3) := by decide +kernel
theorem dX3_fillFrom_71 : decode cX3_fillFrom 71 = .ok (.iconst 1, 1) := by decide +kernel
theorem dX3_fillFrom_72 : decode cX3_fillFrom 72 = .ok (.invokevirtual 21, 3) := by decide +kernel
theorem dX3_fillFrom_75 : decode cX3_fillFrom 75 = .ok (.ifCond .eq 20, 3) := by decide +kernel
theorem dX3_fillFrom_78 : decode cX3_fillFrom 78 = .ok (.aload_n 0, 1) := by decide +kernel
theorem dX3_fillFrom_79 : decode cX3_fillFrom 79 = .ok (.aload_n 0, 1) := by decide +kernel
theorem dX3_fillFrom_80 : decode cX3_fillFrom 80 = .ok (.aload_n 0, 1) := by decide +kernel
theorem dX3_fillFrom_81 : decode cX3_fillFrom 81 = .ok (.iload_n 2, 1) := by decide +kernel
theorem dX3_fillFrom_82 : decode cX3_fillFrom 82 = .ok (.invokevirtual 15, 3) := by decide +kernel
theorem dX3_fillFrom_85 : decode cX3_fillFrom 85 = .ok (.invokevirtual 79, 3) := by decide +kernel
theorem dX3_fillFrom_88 : decode cX3_fillFrom 88 = .ok (.invokevirtual 40, 3) := by decide +kernel
theorem dX3_fillFrom_91 : decode cX3_fillFrom 91 = .ok (.pop, 1) := by decide +kernel
theorem dX3_fillFrom_92 : decode cX3_fillFrom 92 = .ok (.goto 20, 3) := by decide +kernel
theorem dX3_fillFrom_95 : decode cX3_fillFrom 95 = .ok (.aload_n 0, 1) := by decide +kernel
theorem dX3_fillFrom_96 : decode cX3_fillFrom 96 = .ok (.aload_n 0, 1) := by decide +kernel
theorem dX3_fillFrom_97 : decode cX3_fillFrom 97 = .ok (.iload_n 1, 1) := by decide +kernel
theorem dX3_fillFrom_98 : decode cX3_fillFrom 98 = .ok (.invokevirtual 15, 3) := by decide +kernel
theorem dX3_fillFrom_101 : decode cX3_fillFrom 101 = .ok (.aload_n 0, 1) := by decide +kernel
theorem dX3_fillFrom_102 : decode cX3_fillFrom 102 = .ok (.iload_n 2, 1) := by decide +kernel
theorem dX3_fillFrom_103 : decode cX3_fillFrom 103 = .ok (.invokevirtual 15, 3) := by decide +kernel
theorem dX3_fillFrom_106 : decode cX3_fillFrom 106 = .ok (.iload_n 3, 1) := by decide +kernel
theorem dX3_fillFrom_107 : decode cX3_fillFrom 107 = .ok (.iconst 1, 1) := by decide +kernel
theorem dX3_fillFrom_108 : decode cX3_fillFrom 108 = .ok (.iadd, 1) := by decide +kernel
theorem dX3_fillFrom_109 : decode cX3_fillFrom 109 = .ok (.invokestatic 66, 3) := by decide +kernel
theorem dX3_fillFrom_112 : decode cX3_fillFrom 112 = .ok (.aload_n 0, 1) := by decide +kernel
theorem dX3_fillFrom_113 : decode cX3_fillFrom 113 = .ok (.iload 4, 2) := by decide +kernel
theorem dX3_fillFrom_115 : decode cX3_fillFrom 115 = .ok (.invokevirtual 43, 3) := by decide +kernel
theorem dX3_fillFrom_118 : decode cX3_fillFrom 118 = .ok (.aload_n 0, 1) := by decide +kernel
theorem dX3_fillFrom_119 : decode cX3_fillFrom 119 = .ok (.invokevirtual 32, 3) := by decide +kernel
theorem dX3_fillFrom_122 : decode cX3_fillFrom 122 = .ok (.istore 6, 2) := by decide +kernel
theorem dX3_fillFrom_124 : decode cX3_fillFrom 124 = .ok (.aload_n 0, 1) := by decide +kernel
theorem dX3_fillFrom_125 : decode cX3_fillFrom 125 = .ok (.aload_n 0, 1) := by decide +kernel
theorem dX3_fillFrom_126 : decode cX3_fillFrom 126 = .ok (.iload_n 1, 1) := by decide +kernel
theorem dX3_fillFrom_127 : decode cX3_fillFrom 127 = .ok (.invokevirtual 25, 3) := by decide +kernel
theorem dX3_fillFrom_130 : decode cX3_fillFrom 130 = .ok (.iconst 1, 1) := by decide +kernel
theorem dX3_fillFrom_131 : decode cX3_fillFrom 131 = .ok (.invokevirtual 21, 3) := by decide +kernel
theorem dX3_fillFrom_134 : decode cX3_fillFrom 134 = .ok (.ifCond .eq 29, 3) := by decide +kernel
theorem dX3_fillFrom_137 : decode cX3_fillFrom 137 = .ok (.aload_n 0, 1) := by decide +kernel
theorem dX3_fillFrom_138 : decode cX3_fillFrom 138 = .ok (.aload_n 0, 1) := by decide +kernel
theorem dX3_fillFrom_139 : decode cX3_fillFrom 139 = .ok (.aload_n 0, 1) := by decide +kernel
theorem dX3_fillFrom_140 : decode cX3_fillFrom 140 = .ok (.iload_n 2, 1) := by decide +kernel
theorem dX3_fillFrom_141 : decode cX3_fillFrom 141 = .ok (.invokevirtual 25, 3) := by decide +kernel
theorem dX3_fillFrom_144 : decode cX3_fillFrom 144 = .ok (.invokevirtual 79, 3) := by decide +kernel
theorem dX3_fillFrom_147 : decode cX3_fillFrom 147 = .ok (.aload_n 0, 1) := by decide +kernel
theorem dX3_fillFrom_148 : decode cX3_fillFrom 148 = .ok (.iload 5, 2) := by decide +kernel
theorem dX3_fillFrom_150 : decode cX3_fillFrom 150 = .ok (.invokevirtual 54, 3) := by decide +kernel
theorem dX3_fillFrom_153 : decode cX3_fillFrom 153 = .ok (.invokestatic 57, 3) := by decide +kernel
theorem dX3_fillFrom_156 : decode cX3_fillFrom 156 = .ok (.invokevirtual 40, 3) := by decide +kernel
theorem dX3_fillFrom_159 : decode cX3_fillFrom 159 = .ok (.pop, 1) := by decide +kernel
theorem dX3_fillFrom_160 : decode cX3_fillFrom 160 = .ok (.goto 20, 3) := by decide +kernel
theorem dX3_fillFrom_163 : decode cX3_fillFrom 163 = .ok (.aload_n 0, 1) := by decide +kernel
theorem dX3_fillFrom_164 : decode cX3_fillFrom 164 = .ok (.aload_n 0, 1) := by decide +kernel
theorem dX3_fillFrom_165 : decode cX3_fillFrom 165 = .ok (.iload_n 1, 1) := by decide +kernel
theorem dX3_fillFrom_166 : decode cX3_fillFrom 166 = .ok (.invokevirtual 25, 3) := by decide +kernel
theorem dX3_fillFrom_169 : decode cX3_fillFrom 169 = .ok (.aload_n 0, 1) := by decide +kernel
theorem dX3_fillFrom_170 : decode cX3_fillFrom 170 = .ok (.iload_n 2, 1) := by decide +kernel
theorem dX3_fillFrom_171 : decode cX3_fillFrom 171 = .ok (.invokevirtual 25, 3) := by decide +kernel
theorem dX3_fillFrom_174 : decode cX3_fillFrom 174 = .ok (.iload_n 3, 1) := by decide +kernel
theorem dX3_fillFrom_175 : decode cX3_fillFrom 175 = .ok (.iconst 1, 1) := by decide +kernel
theorem dX3_fillFrom_176 : decode cX3_fillFrom 176 = .ok (.iadd, 1) := by decide +kernel
theorem dX3_fillFrom_177 : decode cX3_fillFrom 177 = .ok (.invokestatic 66, 3) := by decide +kernel
theorem dX3_fillFrom_180 : decode cX3_fillFrom 180 = .ok (.aload_n 0, 1) := by decide +kernel
theorem dX3_fillFrom_181 : decode cX3_fillFrom 181 = .ok (.aload_n 0, 1) := by decide +kernel
theorem dX3_fillFrom_182 : decode cX3_fillFrom 182 = .ok (.iload_n 1, 1) := by decide +kernel
theorem dX3_fillFrom_183 : decode cX3_fillFrom 183 = .ok (.invokevirtual 15, 3) := by decide +kernel
theorem dX3_fillFrom_186 : decode cX3_fillFrom 186 = .ok (.iconst 1, 1) := by decide +kernel
theorem dX3_fillFrom_187 : decode cX3_fillFrom 187 = .ok (.invokevirtual 21, 3) := by decide +kernel
theorem dX3_fillFrom_190 : decode cX3_fillFrom 190 = .ok (.ifCond .eq 24, 3) := by decide +kernel
theorem dX3_fillFrom_193 : decode cX3_fillFrom 193 = .ok (.aload_n 0, 1) := by decide +kernel
theorem dX3_fillFrom_194 : decode cX3_fillFrom 194 = .ok (.iload 5, 2) := by decide +kernel
theorem dX3_fillFrom_196 : decode cX3_fillFrom 196 = .ok (.aload_n 0, 1) := by decide +kernel
theorem dX3_fillFrom_197 : decode cX3_fillFrom 197 = .ok (.iload 5, 2) := by decide +kernel
theorem dX3_fillFrom_199 : decode cX3_fillFrom 199 = .ok (.invokevirtual 54, 3) := by decide +kernel
theorem dX3_fillFrom_202 : decode cX3_fillFrom 202 = .ok (.aload_n 0, 1) := by decide +kernel
theorem dX3_fillFrom_203 : decode cX3_fillFrom 203 = .ok (.iload 6, 2) := by decide +kernel
theorem dX3_fillFrom_205 : decode cX3_fillFrom 205 = .ok (.invokevirtual 54, 3) := by decide +kernel
theorem dX3_fillFrom_208 : decode cX3_fillFrom 208 = .ok (.invokestatic 57, 3) := by decide +kernel
theorem dX3_fillFrom_211 : decode cX3_fillFrom 211 = .ok (.invokevirtual 82, 3) := by decide +kernel
theorem dX3_fillFrom_214 : decode cX3_fillFrom 214 = .ok (.aload_n 0, 1) := by decide +kernel
theorem dX3_fillFrom_215 : decode cX3_fillFrom 215 = .ok (.iload 4, 2) := by decide +kernel
theorem dX3_fillFrom_217 : decode cX3_fillFrom 217 = .ok (.invokevirtual 63, 3) := by decide +kernel
theorem dX3_fillFrom_220 : decode cX3_fillFrom 220 = .ok (.return_, 1) := by decide +kernel
def cd_41 : dm_Code := [[dm_ald 1 0, dm_ild 2 1, dm_push 3 (.int 1), dm_inv 6 78 2 6, dm_no, dm_no, dm_if_eq 9 20, dm_no, dm_no, dm_ald 10 0, dm_ald 11 0, dm_ild 12 2, dm_inv 15 88 1 6, dm_no, dm_no, dm_inv 18 81 1 6],
  [dm_no, dm_no, dm_pop 19, dm_vret, dm_ald 21 0, dm_ild 22 1, dm_inv 25 77 1 6, dm_no, dm_no, dm_if_ne 28 42, dm_no, dm_no, dm_ald 29 0, dm_ild 30 2, dm_inv 33 77 1 6, dm_no],
  [dm_no, dm_if_ne 36 42, dm_no, dm_no, dm_ild 37 3, dm_push 39 (.int 60), dm_no, dm_ic_lt 42 48, dm_no, dm_no, dm_ald 43 0, dm_ild 44 2, dm_inv 47 85 1 6, dm_no, dm_no, dm_vret],
  [dm_ald 49 0, dm_ald 50 0, dm_ild 51 2, dm_inv 54 75 1 6, dm_no, dm_no, dm_inv 57 81 1 6, dm_no, dm_no, dm_ist 59 4, dm_no, dm_ald 60 0, dm_inv 63 73 0 6, dm_no, dm_no, dm_ist 65 5],
  [dm_no, dm_ald 66 0, dm_ald 67 0, dm_ild 68 1, dm_inv 71 79 1 6, dm_no, dm_no, dm_push 72 (.int 1), dm_inv 75 78 2 6, dm_no, dm_no, dm_if_eq 78 95, dm_no, dm_no, dm_ald 79 0, dm_ald 80 0],
  [dm_ald 81 0, dm_ild 82 2, dm_inv 85 79 1 6, dm_no, dm_no, dm_inv 88 88 1 6, dm_no, dm_no, dm_inv 91 81 1 6, dm_no, dm_no, dm_pop 92, dm_goto 112, dm_no, dm_no, dm_ald 96 0],
  [dm_ald 97 0, dm_ild 98 1, dm_inv 101 79 1 6, dm_no, dm_no, dm_ald 102 0, dm_ild 103 2, dm_inv 106 79 1 6, dm_no, dm_no, dm_ild 107 3, dm_push 108 (.int 1), dm_ii 109 (fun x y => x + y), dm_ins 112 41 4, dm_no, dm_no],
  [dm_ald 113 0, dm_ild 115 4, dm_no, dm_inv 118 82 1 6, dm_no, dm_no, dm_ald 119 0, dm_inv 122 73 0 6, dm_no, dm_no, dm_ist 124 6, dm_no, dm_ald 125 0, dm_ald 126 0, dm_ild 127 1, dm_inv 130 80 1 6],
  [dm_no, dm_no, dm_push 131 (.int 1), dm_inv 134 78 2 6, dm_no, dm_no, dm_if_eq 137 163, dm_no, dm_no, dm_ald 138 0, dm_ald 139 0, dm_ald 140 0, dm_ild 141 2, dm_inv 144 80 1 6, dm_no, dm_no],
  [dm_inv 147 88 1 6, dm_no, dm_no, dm_ald 148 0, dm_ild 150 5, dm_no, dm_inv 153 75 1 6, dm_no, dm_no, dm_mx 156, dm_no, dm_no, dm_inv 159 81 1 6, dm_no, dm_no, dm_pop 160],
  [dm_goto 180, dm_no, dm_no, dm_ald 164 0, dm_ald 165 0, dm_ild 166 1, dm_inv 169 80 1 6, dm_no, dm_no, dm_ald 170 0, dm_ild 171 2, dm_inv 174 80 1 6, dm_no, dm_no, dm_ild 175 3, dm_push 176 (.int 1)],
  [dm_ii 177 (fun x y => x + y), dm_ins 180 41 4, dm_no, dm_no, dm_ald 181 0, dm_ald 182 0, dm_ild 183 1, dm_inv 186 79 1 6, dm_no, dm_no, dm_push 187 (.int 1), dm_inv 190 78 2 6, dm_no, dm_no, dm_if_eq 193 214, dm_no],
  [dm_no, dm_ald 194 0, dm_ild 196 5, dm_no, dm_ald 197 0, dm_ild 199 5, dm_no, dm_inv 202 75 1 6, dm_no, dm_no, dm_ald 203 0, dm_ild 205 6, dm_no, dm_inv 208 75 1 6, dm_no, dm_no],
  [dm_mx 211, dm_no, dm_no, dm_inv 214 76 2 6, dm_no, dm_no, dm_ald 215 0, dm_ild 217 4, dm_no, dm_inv 220 83 1 6, dm_no, dm_no, dm_vret]]
theorem tr_41_0 : dm_AllR (dm_Good dm_tb RX3 cX3_fillFrom 7 none false none) 0 [dm_ald 1 0, dm_ild 2 1, dm_push 3 (.int 1), dm_inv 6 78 2 6, dm_no, dm_no, dm_if_eq 9 20, dm_no, dm_no, dm_ald 10 0, dm_ald 11 0, dm_ild 12 2, dm_inv 15 88 1 6, dm_no, dm_no, dm_inv 18 81 1 6] := dr_c (dg_aload_n (k := 0) rfl dX3_fillFrom_0) <| dr_c (dg_iload_n (k := 1) rfl dX3_fillFrom_1) <| dr_c (dg_iconst (by decide) dX3_fillFrom_2) <| dr_c (dg_inv dX3_fillFrom_3 mo_78 rfl rfl wd_396 wd_377 wd_378 pd_78) <| dr_c (dg_no) <| dr_c (dg_no) <| dr_c (dg_if_eq (by decide) dX3_fillFrom_6) <| dr_c (dg_no) <| dr_c (dg_no) <| dr_c (dg_aload_n (k := 0) rfl dX3_fillFrom_9) <| dr_c (dg_aload_n (k := 0) rfl dX3_fillFrom_10) <| dr_c (dg_iload_n (k := 2) rfl dX3_fillFrom_11) <| dr_c (dg_inv dX3_fillFrom_12 mo_88 rfl rfl wd_467 wd_468 wd_469 pd_88) <| dr_c (dg_no) <| dr_c (dg_no) <| dr_c (dg_inv dX3_fillFrom_15 mo_81 rfl rfl wd_416 wd_248 wd_249 pd_81) <| dr_n
theorem tr_41_1 : dm_AllR (dm_Good dm_tb RX3 cX3_fillFrom 7 none false none) 16 [dm_no, dm_no, dm_pop 19, dm_vret, dm_ald 21 0, dm_ild 22 1, dm_inv 25 77 1 6, dm_no, dm_no, dm_if_ne 28 42, dm_no, dm_no, dm_ald 29 0, dm_ild 30 2, dm_inv 33 77 1 6, dm_no] := dr_c (dg_no) <| dr_c (dg_no) <| dr_c (dg_pop dX3_fillFrom_18) <| dr_c (dg_vret dX3_fillFrom_19) <| dr_c (dg_aload_n (k := 0) rfl dX3_fillFrom_20) <| dr_c (dg_iload_n (k := 1) rfl dX3_fillFrom_21) <| dr_c (dg_inv dX3_fillFrom_22 mo_77 rfl rfl wd_391 wd_293 wd_294 pd_77) <| dr_c (dg_no) <| dr_c (dg_no) <| dr_c (dg_if_ne (by decide) dX3_fillFrom_25) <| dr_c (dg_no) <| dr_c (dg_no) <| dr_c (dg_aload_n (k := 0) rfl dX3_fillFrom_28) <| dr_c (dg_iload_n (k := 2) rfl dX3_fillFrom_29) <| dr_c (dg_inv dX3_fillFrom_30 mo_77 rfl rfl wd_391 wd_293 wd_294 pd_77) <| dr_c (dg_no) <| dr_n
theorem tr_41_2 : dm_AllR (dm_Good dm_tb RX3 cX3_fillFrom 7 none false none) 32 [dm_no, dm_if_ne 36 42, dm_no, dm_no, dm_ild 37 3, dm_push 39 (.int 60), dm_no, dm_ic_lt 42 48, dm_no, dm_no, dm_ald 43 0, dm_ild 44 2, dm_inv 47 85 1 6, dm_no, dm_no, dm_vret] := dr_c (dg_no) <| dr_c (dg_if_ne (by decide) dX3_fillFrom_33) <| dr_c (dg_no) <| dr_c (dg_no) <| dr_c (dg_iload_n (k := 3) rfl dX3_fillFrom_36) <| dr_c (dg_bipush (by decide) dX3_fillFrom_37) <| dr_c (dg_no) <| dr_c (dg_ic_lt (by decide) dX3_fillFrom_39) <| dr_c (dg_no) <| dr_c (dg_no) <| dr_c (dg_aload_n (k := 0) rfl dX3_fillFrom_42) <| dr_c (dg_iload_n (k := 2) rfl dX3_fillFrom_43) <| dr_c (dg_inv dX3_fillFrom_44 mo_85 rfl rfl wd_421 wd_422 wd_423 pd_85) <| dr_c (dg_no) <| dr_c (dg_no) <| dr_c (dg_vret dX3_fillFrom_47) <| dr_n
theorem tr_41_3 : dm_AllR (dm_Good dm_tb RX3 cX3_fillFrom 7 none false none) 48 [dm_ald 49 0, dm_ald 50 0, dm_ild 51 2, dm_inv 54 75 1 6, dm_no, dm_no, dm_inv 57 81 1 6, dm_no, dm_no, dm_ist 59 4, dm_no, dm_ald 60 0, dm_inv 63 73 0 6, dm_no, dm_no, dm_ist 65 5] := dr_c (dg_aload_n (k := 0) rfl dX3_fillFrom_48) <| dr_c (dg_aload_n (k := 0) rfl dX3_fillFrom_49) <| dr_c (dg_iload_n (k := 2) rfl dX3_fillFrom_50) <| dr_c (dg_inv dX3_fillFrom_51 mo_75 rfl rfl wd_477 wd_381 wd_382 pd_75) <| dr_c (dg_no) <| dr_c (dg_no) <| dr_c (dg_inv dX3_fillFrom_54 mo_81 rfl rfl wd_416 wd_248 wd_249 pd_81) <| dr_c (dg_no) <| dr_c (dg_no) <| dr_c (dg_istore (by decide) dX3_fillFrom_57) <| dr_c (dg_no) <| dr_c (dg_aload_n (k := 0) rfl dX3_fillFrom_59) <| dr_c (dg_inv dX3_fillFrom_60 mo_73 rfl rfl wd_412 wd_299 wd_300 pd_73) <| dr_c (dg_no) <| dr_c (dg_no) <| dr_c (dg_istore (by decide) dX3_fillFrom_63) <| dr_n
theorem tr_41_4 : dm_AllR (dm_Good dm_tb RX3 cX3_fillFrom 7 none false none) 64 [dm_no, dm_ald 66 0, dm_ald 67 0, dm_ild 68 1, dm_inv 71 79 1 6, dm_no, dm_no, dm_push 72 (.int 1), dm_inv 75 78 2 6, dm_no, dm_no, dm_if_eq 78 95, dm_no, dm_no, dm_ald 79 0, dm_ald 80 0] := dr_c (dg_no) <| dr_c (dg_aload_n (k := 0) rfl dX3_fillFrom_65) <| dr_c (dg_aload_n (k := 0) rfl dX3_fillFrom_66) <| dr_c (dg_iload_n (k := 1) rfl dX3_fillFrom_67) <| dr_c (dg_inv dX3_fillFrom_68 mo_79 rfl rfl wd_392 wd_393 wd_394 pd_79) <| dr_c (dg_no) <| dr_c (dg_no) <| dr_c (dg_iconst (by decide) dX3_fillFrom_71) <| dr_c (dg_inv dX3_fillFrom_72 mo_78 rfl rfl wd_396 wd_377 wd_378 pd_78) <| dr_c (dg_no) <| dr_c (dg_no) <| dr_c (dg_if_eq (by decide) dX3_fillFrom_75) <| dr_c (dg_no) <| dr_c (dg_no) <| dr_c (dg_aload_n (k := 0) rfl dX3_fillFrom_78) <| dr_c (dg_aload_n (k := 0) rfl dX3_fillFrom_79) <| dr_n
theorem tr_41_5 : dm_AllR (dm_Good dm_tb RX3 cX3_fillFrom 7 none false none) 80 [dm_ald 81 0, dm_ild 82 2, dm_inv 85 79 1 6, dm_no, dm_no, dm_inv 88 88 1 6, dm_no, dm_no, dm_inv 91 81 1 6, dm_no, dm_no, dm_pop 92, dm_goto 112, dm_no, dm_no, dm_ald 96 0] := dr_c (dg_aload_n (k := 0) rfl dX3_fillFrom_80) <| dr_c (dg_iload_n (k := 2) rfl dX3_fillFrom_81) <| dr_c (dg_inv dX3_fillFrom_82 mo_79 rfl rfl wd_392 wd_393 wd_394 pd_79) <| dr_c (dg_no) <| dr_c (dg_no) <| dr_c (dg_inv dX3_fillFrom_85 mo_88 rfl rfl wd_467 wd_468 wd_469 pd_88) <| dr_c (dg_no) <| dr_c (dg_no) <| dr_c (dg_inv dX3_fillFrom_88 mo_81 rfl rfl wd_416 wd_248 wd_249 pd_81) <| dr_c (dg_no) <| dr_c (dg_no) <| dr_c (dg_pop dX3_fillFrom_91) <| dr_c (dg_goto (by decide) dX3_fillFrom_92) <| dr_c (dg_no) <| dr_c (dg_no) <| dr_c (dg_aload_n (k := 0) rfl dX3_fillFrom_95) <| dr_n
theorem tr_41_6 : dm_AllR (dm_Good dm_tb RX3 cX3_fillFrom 7 none false none) 96 [dm_ald 97 0, dm_ild 98 1, dm_inv 101 79 1 6, dm_no, dm_no, dm_ald 102 0, dm_ild 103 2, dm_inv 106 79 1 6, dm_no, dm_no, dm_ild 107 3, dm_push 108 (.int 1), dm_ii 109 (fun x y => x + y), dm_ins 112 41 4, dm_no, dm_no] := dr_c (dg_aload_n (k := 0) rfl dX3_fillFrom_96) <| dr_c (dg_iload_n (k := 1) rfl dX3_fillFrom_97) <| dr_c (dg_inv dX3_fillFrom_98 mo_79 rfl rfl wd_392 wd_393 wd_394 pd_79) <| dr_c (dg_no) <| dr_c (dg_no) <| dr_c (dg_aload_n (k := 0) rfl dX3_fillFrom_101) <| dr_c (dg_iload_n (k := 2) rfl dX3_fillFrom_102) <| dr_c (dg_inv dX3_fillFrom_103 mo_79 rfl rfl wd_392 wd_393 wd_394 pd_79) <| dr_c (dg_no) <| dr_c (dg_no) <| dr_c (dg_iload_n (k := 3) rfl dX3_fillFrom_106) <| dr_c (dg_iconst (by decide) dX3_fillFrom_107) <| dr_c (dg_iadd dX3_fillFrom_108) <| dr_c (dg_ins dX3_fillFrom_109 mo_41 wd_464 wd_465 pd_41) <| dr_c (dg_no) <| dr_c (dg_no) <| dr_n
theorem tr_41_7 : dm_AllR (dm_Good dm_tb RX3 cX3_fillFrom 7 none false none) 112 [dm_ald 113 0, dm_ild 115 4, dm_no, dm_inv 118 82 1 6, dm_no, dm_no, dm_ald 119 0, dm_inv 122 73 0 6, dm_no, dm_no, dm_ist 124 6, dm_no, dm_ald 125 0, dm_ald 126 0, dm_ild 127 1, dm_inv 130 80 1 6] := dr_c (dg_aload_n (k := 0) rfl dX3_fillFrom_112) <| dr_c (dg_iload dX3_fillFrom_113) <| dr_c (dg_no) <| dr_c (dg_inv dX3_fillFrom_115 mo_82 rfl rfl wd_417 wd_418 wd_419 pd_82) <| dr_c (dg_no) <| dr_c (dg_no) <| dr_c (dg_aload_n (k := 0) rfl dX3_fillFrom_118) <| dr_c (dg_inv dX3_fillFrom_119 mo_73 rfl rfl wd_412 wd_299 wd_300 pd_73) <| dr_c (dg_no) <| dr_c (dg_no) <| dr_c (dg_istore (by decide) dX3_fillFrom_122) <| dr_c (dg_no) <| dr_c (dg_aload_n (k := 0) rfl dX3_fillFrom_124) <| dr_c (dg_aload_n (k := 0) rfl dX3_fillFrom_125) <| dr_c (dg_iload_n (k := 1) rfl dX3_fillFrom_126) <| dr_c (dg_inv dX3_fillFrom_127 mo_80 rfl rfl wd_397 wd_398 wd_399 pd_80) <| dr_n
theorem tr_41_8 : dm_AllR (dm_Good dm_tb RX3 cX3_fillFrom 7 none false none) 128 [dm_no, dm_no, dm_push 131 (.int 1), dm_inv 134 78 2 6, dm_no, dm_no, dm_if_eq 137 163, dm_no, dm_no, dm_ald 138 0, dm_ald 139 0, dm_ald 140 0, dm_ild 141 2, dm_inv 144 80 1 6, dm_no, dm_no] := dr_c (dg_no) <| dr_c (dg_no) <| dr_c (dg_iconst (by decide) dX3_fillFrom_130) <| dr_c (dg_inv dX3_fillFrom_131 mo_78 rfl rfl wd_396 wd_377 wd_378 pd_78) <| dr_c (dg_no) <| dr_c (dg_no) <| dr_c (dg_if_eq (by decide) dX3_fillFrom_134) <| dr_c (dg_no) <| dr_c (dg_no) <| dr_c (dg_aload_n (k := 0) rfl dX3_fillFrom_137) <| dr_c (dg_aload_n (k := 0) rfl dX3_fillFrom_138) <| dr_c (dg_aload_n (k := 0) rfl dX3_fillFrom_139) <| dr_c (dg_iload_n (k := 2) rfl dX3_fillFrom_140) <| dr_c (dg_inv dX3_fillFrom_141 mo_80 rfl rfl wd_397 wd_398 wd_399 pd_80) <| dr_c (dg_no) <| dr_c (dg_no) <| dr_n
theorem tr_41_9 : dm_AllR (dm_Good dm_tb RX3 cX3_fillFrom 7 none false none) 144 [dm_inv 147 88 1 6, dm_no, dm_no, dm_ald 148 0, dm_ild 150 5, dm_no, dm_inv 153 75 1 6, dm_no, dm_no, dm_mx 156, dm_no, dm_no, dm_inv 159 81 1 6, dm_no, dm_no, dm_pop 160] := dr_c (dg_inv dX3_fillFrom_144 mo_88 rfl rfl wd_467 wd_468 wd_469 pd_88) <| dr_c (dg_no) <| dr_c (dg_no) <| dr_c (dg_aload_n (k := 0) rfl dX3_fillFrom_147) <| dr_c (dg_iload dX3_fillFrom_148) <| dr_c (dg_no) <| dr_c (dg_inv dX3_fillFrom_150 mo_75 rfl rfl wd_477 wd_381 wd_382 pd_75) <| dr_c (dg_no) <| dr_c (dg_no) <| dr_c (dg_mx dX3_fillFrom_153 wd_478 wd_108 wd_64 wd_109) <| dr_c (dg_no) <| dr_c (dg_no) <| dr_c (dg_inv dX3_fillFrom_156 mo_81 rfl rfl wd_416 wd_248 wd_249 pd_81) <| dr_c (dg_no) <| dr_c (dg_no) <| dr_c (dg_pop dX3_fillFrom_159) <| dr_n
theorem tr_41_10 : dm_AllR (dm_Good dm_tb RX3 cX3_fillFrom 7 none false none) 160 [dm_goto 180, dm_no, dm_no, dm_ald 164 0, dm_ald 165 0, dm_ild 166 1, dm_inv 169 80 1 6, dm_no, dm_no, dm_ald 170 0, dm_ild 171 2, dm_inv 174 80 1 6, dm_no, dm_no, dm_ild 175 3, dm_push 176 (.int 1)] := dr_c (dg_goto (by decide) dX3_fillFrom_160) <| dr_c (dg_no) <| dr_c (dg_no) <| dr_c (dg_aload_n (k := 0) rfl dX3_fillFrom_163) <| dr_c (dg_aload_n (k := 0) rfl dX3_fillFrom_164) <| dr_c (dg_iload_n (k := 1) rfl dX3_fillFrom_165) <| dr_c (dg_inv dX3_fillFrom_166 mo_80 rfl rfl wd_397 wd_398 wd_399 pd_80) <| dr_c (dg_no) <| dr_c (dg_no) <| dr_c (dg_aload_n (k := 0) rfl dX3_fillFrom_169) <| dr_c (dg_iload_n (k := 2) rfl dX3_fillFrom_170) <| dr_c (dg_inv dX3_fillFrom_171 mo_80 rfl rfl wd_397 wd_398 wd_399 pd_80) <| dr_c (dg_no) <| dr_c (dg_no) <| dr_c (dg_iload_n (k := 3) rfl dX3_fillFrom_174) <| dr_c (dg_iconst (by decide) dX3_fillFrom_175) <| dr_n
theorem tr_41_11 : dm_AllR (dm_Good dm_tb RX3 cX3_fillFrom 7 none false none) 176 [dm_ii 177 (fun x y => x + y), dm_ins 180 41 4, dm_no, dm_no, dm_ald 181 0, dm_ald 182 0, dm_ild 183 1, dm_inv 186 79 1 6, dm_no, dm_no, dm_push 187 (.int 1), dm_inv 190 78 2 6, dm_no, dm_no, dm_if_eq 193 214, dm_no] := dr_c (dg_iadd dX3_fillFrom_176) <| dr_c (dg_ins dX3_fillFrom_177 mo_41 wd_464 wd_465 pd_41) <| dr_c (dg_no) <| dr_c (dg_no) <| dr_c (dg_aload_n (k := 0) rfl dX3_fillFrom_180) <| dr_c (dg_aload_n (k := 0) rfl dX3_fillFrom_181) <| dr_c (dg_iload_n (k := 1) rfl dX3_fillFrom_182) <| dr_c (dg_inv dX3_fillFrom_183 mo_79 rfl rfl wd_392 wd_393 wd_394 pd_79) <| dr_c (dg_no) <| dr_c (dg_no) <| dr_c (dg_iconst (by decide) dX3_fillFrom_186) <| dr_c (dg_inv dX3_fillFrom_187 mo_78 rfl rfl wd_396 wd_377 wd_378 pd_78) <| dr_c (dg_no) <| dr_c (dg_no) <| dr_c (dg_if_eq (by decide) dX3_fillFrom_190) <| dr_c (dg_no) <| dr_n
theorem tr_41_12 : dm_AllR (dm_Good dm_tb RX3 cX3_fillFrom 7 none false none) 192 [dm_no, dm_ald 194 0, dm_ild 196 5, dm_no, dm_ald 197 0, dm_ild 199 5, dm_no, dm_inv 202 75 1 6, dm_no, dm_no, dm_ald 203 0, dm_ild 205 6, dm_no, dm_inv 208 75 1 6, dm_no, dm_no] := dr_c (dg_no) <| dr_c (dg_aload_n (k := 0) rfl dX3_fillFrom_193) <| dr_c (dg_iload dX3_fillFrom_194) <| dr_c (dg_no) <| dr_c (dg_aload_n (k := 0) rfl dX3_fillFrom_196) <| dr_c (dg_iload dX3_fillFrom_197) <| dr_c (dg_no) <| dr_c (dg_inv dX3_fillFrom_199 mo_75 rfl rfl wd_477 wd_381 wd_382 pd_75) <| dr_c (dg_no) <| dr_c (dg_no) <| dr_c (dg_aload_n (k := 0) rfl dX3_fillFrom_202) <| dr_c (dg_iload dX3_fillFrom_203) <| dr_c (dg_no) <| dr_c (dg_inv dX3_fillFrom_205 mo_75 rfl rfl wd_477 wd_381 wd_382 pd_75) <| dr_c (dg_no) <| dr_c (dg_no) <| dr_n
theorem tr_41_13 : dm_AllR (dm_Good dm_tb RX3 cX3_fillFrom 7 none false none) 208 [dm_mx 211, dm_no, dm_no, dm_inv 214 76 2 6, dm_no, dm_no, dm_ald 215 0, dm_ild 217 4, dm_no, dm_inv 220 83 1 6, dm_no, dm_no, dm_vret] := dr_c (dg_mx dX3_fillFrom_208 wd_478 wd_108 wd_64 wd_109) <| dr_c (dg_no) <| dr_c (dg_no) <| dr_c (dg_inv dX3_fillFrom_211 mo_76 rfl rfl wd_479 wd_480 wd_481 pd_76) <| dr_c (dg_no) <| dr_c (dg_no) <| dr_c (dg_aload_n (k := 0) rfl dX3_fillFrom_214) <| dr_c (dg_iload dX3_fillFrom_215) <| dr_c (dg_no) <| dr_c (dg_inv dX3_fillFrom_217 mo_83 rfl rfl wd_483 wd_484 wd_485 pd_83) <| dr_c (dg_no) <| dr_c (dg_no) <| dr_c (dg_vret dX3_fillFrom_220) <| dr_n
theorem tk_41 : dm_AllC (dm_Good dm_tb RX3 cX3_fillFrom 7 none false none) 0 cd_41 := dc_c (by decide) tr_41_0 <| dc_c (by decide) tr_41_1 <| dc_c (by decide) tr_41_2 <| dc_c (by decide) tr_41_3 <| dc_c (by decide) tr_41_4 <| dc_c (by decide) tr_41_5 <| dc_c (by decide) tr_41_6 <| dc_c (by decide) tr_41_7 <| dc_c (by decide) tr_41_8 <| dc_c (by decide) tr_41_9 <| dc_c (by decide) tr_41_10 <| dc_c (by decide) tr_41_11 <| dc_c (by decide) tr_41_12 <| dc_c (by decide) tr_41_13 <| dc_n
theorem dX3_growFrom_0 : decode cX3_growFrom 0 = .ok (.aload_n 0, 1) := by decide +kernel
theorem dX3_growFrom_1 : decode cX3_growFrom 1 = .ok (.iload_n 1, 1) := by decide +kernel
theorem dX3_growFrom_2 : decode cX3_growFrom 2 = .ok (.invokevirtual 28, 3) := by decide +kernel
theorem dX3_growFrom_5 : decode cX3_growFrom 5 = .ok (.ifCond .ne 9, 3) := by decide +kernel
theorem dX3_growFrom_8 : decode cX3_growFrom 8 = .ok (.iload_n 3, 1) := by decide +kernel
theorem dX3_growFrom_9 : decode cX3_growFrom 9 = .ok (.bipush 60, 2) := by decide +kernel
theorem dX3_growFrom_11 : decode cX3_growFrom 11 = .ok (.if_icmp .lt 16, 3) := by decide +kernel
theorem dX3_growFrom_14 : decode cX3_growFrom 14 = .ok (.aload_n 0, 1) := by decide +kernel
theorem dX3_growFrom_15 : decode cX3_growFrom 15 = .ok (.aload_n 0, 1) := by decide +kernel
theorem dX3_growFrom_16 : decode cX3_growFrom 16 = .ok (.iload_n 2, 1) := by decide +kernel
theorem dX3_growFrom_17 : decode cX3_growFrom 17 = .ok (.invokevirtual 54, 3) := by decide +kernel
theorem dX3_growFrom_20 : decode cX3_growFrom 20 = .ok (.iconst 1, 1) := by decide +kernel
theorem dX3_growFrom_21 : decode cX3_growFrom 21 = .ok (.iadd, 1) := by decide +kernel
theorem dX3_growFrom_22 : decode cX3_growFrom 22 = .ok (.invokevirtual 40, 3) := by decide +kernel
theorem dX3_growFrom_25 : decode cX3_growFrom 25 = .ok (.pop, 1) := by decide +kernel
theorem dX3_growFrom_26 : decode cX3_growFrom 26 = .ok (.return_, 1) := by decide +kernel
theorem dX3_growFrom_27 : decode cX3_growFrom 27 = .ok (.aload_n 0, 1) := by decide +kernel
theorem dX3_growFrom_28 : decode cX3_growFrom 28 = .ok (.aload_n 0, 1) := by decide +kernel
theorem dX3_growFrom_29 : decode cX3_growFrom 29 = .ok (.iload_n 1, 1) := by decide +kernel
theorem dX3_growFrom_30 : decode cX3_growFrom 30 = .ok (.invokevirtual 15, 3) := by decide +kernel
theorem dX3_growFrom_33 : decode cX3_growFrom 33 = .ok (.aload_n 0, 1) := by decide +kernel
theorem dX3_growFrom_34 : decode cX3_growFrom 34 = .ok (.iload_n 2, 1) := by decide +kernel
theorem dX3_growFrom_35 : decode cX3_growFrom 35 = .ok (.invokevirtual 15, 3) := by decide +kernel
theorem dX3_growFrom_38 : decode cX3_growFrom 38 = .ok (.iload_n 3, 1) := by decide +kernel
theorem dX3_growFrom_39 : decode cX3_growFrom 39 = .ok (.iconst 1, 1) := by decide +kernel
theorem dX3_growFrom_40 : decode cX3_growFrom 40 = .ok (.iadd, 1) := by decide +kernel
theorem dX3_growFrom_41 : decode cX3_growFrom 41 = .ok (.invokestatic 86, 3) := by decide +kernel
theorem dX3_growFrom_44 : decode cX3_growFrom 44 = .ok (.istore 4, 2) := by decide +kernel
theorem dX3_growFrom_46 : decode cX3_growFrom 46 = .ok (.aload_n 0, 1) := by decide +kernel
theorem dX3_growFrom_47 : decode cX3_growFrom 47 = .ok (.aload_n 0, 1) := by decide +kernel
theorem dX3_growFrom_48 : decode cX3_growFrom 48 = .ok (.iload_n 1, 1) := by decide +kernel
theorem dX3_growFrom_49 : decode cX3_growFrom 49 = .ok (.invokevirtual 25, 3) := by decide +kernel
theorem dX3_growFrom_52 : decode cX3_growFrom 52 = .ok (.aload_n 0, 1) := by decide +kernel
theorem dX3_growFrom_53 : decode cX3_growFrom 53 = .ok (.iload_n 2, 1) := by decide +kernel
theorem dX3_growFrom_54 : decode cX3_growFrom 54 = .ok (.invokevirtual 25, 3) := by decide +kernel
theorem dX3_growFrom_57 : decode cX3_growFrom 57 = .ok (.iload_n 3, 1) := by decide +kernel
theorem dX3_growFrom_58 : decode cX3_growFrom 58 = .ok (.iconst 1, 1) := by decide +kernel
theorem dX3_growFrom_59 : decode cX3_growFrom 59 = .ok (.iadd, 1) := by decide +kernel
theorem dX3_growFrom_60 : decode cX3_growFrom 60 = .ok (.invokestatic 86, 3) := by decide +kernel
theorem dX3_growFrom_63 : decode cX3_growFrom 63 = .ok (.istore 5, 2) := by decide +kernel
theorem dX3_growFrom_65 : decode cX3_growFrom 65 = .ok (.aload_n 0, 1) := by decide +kernel
theorem dX3_growFrom_66 : decode cX3_growFrom 66 = .ok (.aload_n 0, 1) := by decide +kernel
theorem dX3_growFrom_67 : decode cX3_growFrom 67 = .ok (.iload_n 2, 1) := by decide +kernel
theorem dX3_growFrom_68 : decode cX3_growFrom 68 = .ok (.invokevirtual 54, 3) := by decide +kernel
theorem dX3_growFrom_71 : decode cX3_growFrom 71 = .ok (.invokevirtual 40, 3) := by decide +kernel
theorem dX3_growFrom_74 : decode cX3_growFrom 74 = .ok (.istore 6, 2) := by decide +kernel
theorem dX3_growFrom_76 : decode cX3_growFrom 76 = .ok (.iload 4, 2) := by decide +kernel
theorem dX3_growFrom_78 : decode cX3_growFrom 78 = .ok (.iload 5, 2) := by decide +kernel
theorem dX3_growFrom_80 : decode cX3_growFrom 80 = .ok (.if_icmp .ge 38, 3) := by decide +kernel
theorem dX3_growFrom_83 : decode cX3_growFrom 83 = .ok (.aload_n 0, 1) := by decide +kernel
theorem dX3_growFrom_84 : decode cX3_growFrom 84 = .ok (.aload_n 0, 1) := by decide +kernel
theorem dX3_growFrom_85 : decode cX3_growFrom 85 = .ok (.iload_n 1, 1) := by decide +kernel
theorem dX3_growFrom_86 : decode cX3_growFrom 86 = .ok (.invokevirtual 15, 3) := by decide +kernel
theorem dX3_growFrom_89 : decode cX3_growFrom 89 = .ok (.aload_n 0, 1) := by decide +kernel
theorem dX3_growFrom_90 : decode cX3_growFrom 90 = .ok (.iload_n 2, 1) := by decide +kernel
theorem dX3_growFrom_91 : decode cX3_growFrom 91 = .ok (.invokevirtual 15, 3) := by decide +kernel
theorem dX3_growFrom_94 : decode cX3_growFrom 94 = .ok (.iload_n 3, 1) := by decide +kernel
theorem dX3_growFrom_95 : decode cX3_growFrom 95 = .ok (.iconst 1, 1) := by decide +kernel
theorem dX3_growFrom_96 : decode cX3_growFrom 96 = .ok (.iadd, 1) := by decide +kernel
theorem dX3_growFrom_97 : decode cX3_growFrom 97 = .ok (.invokestatic 76, 3) := by decide +kernel
theorem dX3_growFrom_100 : decode cX3_growFrom 100 = .ok (.aload_n 0, 1) := by decide +kernel
theorem dX3_growFrom_101 : decode cX3_growFrom 101 = .ok (.iload 6, 2) := by decide +kernel
theorem dX3_growFrom_103 : decode cX3_growFrom 103 = .ok (.invokevirtual 43, 3) := by decide +kernel
theorem dX3_growFrom_106 : decode cX3_growFrom 106 = .ok (.aload_n 0, 1) := by decide +kernel
theorem dX3_growFrom_107 : decode cX3_growFrom 107 = .ok (.aload_n 0, 1) := by decide +kernel
theorem dX3_growFrom_108 : decode cX3_growFrom 108 = .ok (.iload_n 2, 1) := by decide +kernel
theorem dX3_growFrom_109 : decode cX3_growFrom 109 = .ok (.invokevirtual 25, 3) := by decide +kernel
theorem dX3_growFrom_112 : decode cX3_growFrom 112 = .ok (.invokevirtual 47, 3) := by decide +kernel
theorem dX3_growFrom_115 : decode cX3_growFrom 115 = .ok (.goto 35, 3) := by decide +kernel
theorem dX3_growFrom_118 : decode cX3_growFrom 118 = .ok (.aload_n 0, 1) := by decide +kernel
theorem dX3_growFrom_119 : decode cX3_growFrom 119 = .ok (.aload_n 0, 1) := by decide +kernel
theorem dX3_growFrom_120 : decode cX3_growFrom 120 = .ok (.iload_n 2, 1) := by decide +kernel
theorem dX3_growFrom_121 : decode cX3_growFrom 121 = .ok (.invokevirtual 15, 3) := by decide +kernel
theorem dX3_growFrom_124 : decode cX3_growFrom 124 = .ok (.invokevirtual 47, 3) := by decide +kernel
theorem dX3_growFrom_127 : decode cX3_growFrom 127 = .ok (.aload_n 0, 1) := by decide +kernel
theorem dX3_growFrom_128 : decode cX3_growFrom 128 = .ok (.iload 6, 2) := by decide +kernel
theorem dX3_growFrom_130 : decode cX3_growFrom 130 = .ok (.invokevirtual 43, 3) := by decide +kernel
theorem dX3_growFrom_133 : decode cX3_growFrom 133 = .ok (.aload_n 0, 1) := by decide +kernel
theorem dX3_growFrom_134 : decode cX3_growFrom 134 = .ok (.aload_n 0, 1) := by decide +kernel
theorem dX3_growFrom_135 : decode cX3_growFrom 135 = .ok (.iload_n 1, 1) := by decide +kernel
theorem dX3_growFrom_136 : decode cX3_growFrom 136 = .ok (.invokevirtual 25, 3) := by decide +kernel
theorem dX3_growFrom_139 : decode cX3_growFrom 139 = .ok (.aload_n 0, 1) := by decide +kernel
theorem dX3_growFrom_140 : decode cX3_growFrom 140 = .ok (.iload_n 2, 1) := by decide +kernel
theorem dX3_growFrom_141 : decode cX3_growFrom 141 = .ok (.invokevirtual 25, 3) := by decide +kernel
theorem dX3_growFrom_144 : decode cX3_growFrom 144 = .ok (.iload_n 3, 1) := by decide +kernel
theorem dX3_growFrom_145 : decode cX3_growFrom 145 = .ok (.iconst 1, 1) := by decide +kernel
theorem dX3_growFrom_146 : decode cX3_growFrom 146 = .ok (.iadd, 1) := by decide +kernel
theorem dX3_growFrom_147 : decode cX3_growFrom 147 = .ok (.invokestatic 76, 3) := by decide +kernel
theorem dX3_growFrom_150 : decode cX3_growFrom 150 = .ok (.aload_n 0, 1) := by decide +kernel
theorem dX3_growFrom_151 : decode cX3_growFrom 151 = .ok (.iload 6, 2) := by decide +kernel
theorem dX3_growFrom_153 : decode cX3_growFrom 153 = .ok (.invokevirtual 63, 3) := by decide +kernel
theorem dX3_growFrom_156 : decode cX3_growFrom 156 = .ok (.return_, 1) := by decide +kernel
def cd_42 : dm_Code := [[dm_ald 1 0, dm_ild 2 1, dm_inv 5 77 1 6, dm_no, dm_no, dm_if_ne 8 14, dm_no, dm_no, dm_ild 9 3, dm_push 11 (.int 60), dm_no, dm_ic_lt 14 27, dm_no, dm_no, dm_ald 15 0, dm_ald 16 0],
  [dm_ild 17 2, dm_inv 20 75 1 6, dm_no, dm_no, dm_push 21 (.int 1), dm_ii 22 (fun x y => x + y), dm_inv 25 81 1 6, dm_no, dm_no, dm_pop 26, dm_vret, dm_ald 28 0, dm_ald 29 0, dm_ild 30 1, dm_inv 33 79 1 6, dm_no],
  [dm_no, dm_ald 34 0, dm_ild 35 2, dm_inv 38 79 1 6, dm_no, dm_no, dm_ild 39 3, dm_push 40 (.int 1), dm_ii 41 (fun x y => x + y), dm_ins 44 43 4, dm_no, dm_no, dm_ist 46 4, dm_no, dm_ald 47 0, dm_ald 48 0],
  [dm_ild 49 1, dm_inv 52 80 1 6, dm_no, dm_no, dm_ald 53 0, dm_ild 54 2, dm_inv 57 80 1 6, dm_no, dm_no, dm_ild 58 3, dm_push 59 (.int 1), dm_ii 60 (fun x y => x + y), dm_ins 63 43 4, dm_no, dm_no, dm_ist 65 5],
  [dm_no, dm_ald 66 0, dm_ald 67 0, dm_ild 68 2, dm_inv 71 75 1 6, dm_no, dm_no, dm_inv 74 81 1 6, dm_no, dm_no, dm_ist 76 6, dm_no, dm_ild 78 4, dm_no, dm_ild 80 5, dm_no],
  [dm_ic_ge 83 118, dm_no, dm_no, dm_ald 84 0, dm_ald 85 0, dm_ild 86 1, dm_inv 89 79 1 6, dm_no, dm_no, dm_ald 90 0, dm_ild 91 2, dm_inv 94 79 1 6, dm_no, dm_no, dm_ild 95 3, dm_push 96 (.int 1)],
  [dm_ii 97 (fun x y => x + y), dm_ins 100 42 4, dm_no, dm_no, dm_ald 101 0, dm_ild 103 6, dm_no, dm_inv 106 82 1 6, dm_no, dm_no, dm_ald 107 0, dm_ald 108 0, dm_ild 109 2, dm_inv 112 80 1 6, dm_no, dm_no],
  [dm_inv 115 85 1 6, dm_no, dm_no, dm_goto 150, dm_no, dm_no, dm_ald 119 0, dm_ald 120 0, dm_ild 121 2, dm_inv 124 79 1 6, dm_no, dm_no, dm_inv 127 85 1 6, dm_no, dm_no, dm_ald 128 0],
  [dm_ild 130 6, dm_no, dm_inv 133 82 1 6, dm_no, dm_no, dm_ald 134 0, dm_ald 135 0, dm_ild 136 1, dm_inv 139 80 1 6, dm_no, dm_no, dm_ald 140 0, dm_ild 141 2, dm_inv 144 80 1 6, dm_no, dm_no],
  [dm_ild 145 3, dm_push 146 (.int 1), dm_ii 147 (fun x y => x + y), dm_ins 150 42 4, dm_no, dm_no, dm_ald 151 0, dm_ild 153 6, dm_no, dm_inv 156 83 1 6, dm_no, dm_no, dm_vret]]
theorem tr_42_0 : dm_AllR (dm_Good dm_tb RX3 cX3_growFrom 7 none false none) 0 [dm_ald 1 0, dm_ild 2 1, dm_inv 5 77 1 6, dm_no, dm_no, dm_if_ne 8 14, dm_no, dm_no, dm_ild 9 3, dm_push 11 (.int 60), dm_no, dm_ic_lt 14 27, dm_no, dm_no, dm_ald 15 0, dm_ald 16 0] := dr_c (dg_aload_n (k := 0) rfl dX3_growFrom_0) <| dr_c (dg_iload_n (k := 1) rfl dX3_growFrom_1) <| dr_c (dg_inv dX3_growFrom_2 mo_77 rfl rfl wd_391 wd_293 wd_294 pd_77) <| dr_c (dg_no) <| dr_c (dg_no) <| dr_c (dg_if_ne (by decide) dX3_growFrom_5) <| dr_c (dg_no) <| dr_c (dg_no) <| dr_c (dg_iload_n (k := 3) rfl dX3_growFrom_8) <| dr_c (dg_bipush (by decide) dX3_growFrom_9) <| dr_c (dg_no) <| dr_c (dg_ic_lt (by decide) dX3_growFrom_11) <| dr_c (dg_no) <| dr_c (dg_no) <| dr_c (dg_aload_n (k := 0) rfl dX3_growFrom_14) <| dr_c (dg_aload_n (k := 0) rfl dX3_growFrom_15) <| dr_n
theorem tr_42_1 : dm_AllR (dm_Good dm_tb RX3 cX3_growFrom 7 none false none) 16 [dm_ild 17 2, dm_inv 20 75 1 6, dm_no, dm_no, dm_push 21 (.int 1), dm_ii 22 (fun x y => x + y), dm_inv 25 81 1 6, dm_no, dm_no, dm_pop 26, dm_vret, dm_ald 28 0, dm_ald 29 0, dm_ild 30 1, dm_inv 33 79 1 6, dm_no] := dr_c (dg_iload_n (k := 2) rfl dX3_growFrom_16) <| dr_c (dg_inv dX3_growFrom_17 mo_75 rfl rfl wd_477 wd_381 wd_382 pd_75) <| dr_c (dg_no) <| dr_c (dg_no) <| dr_c (dg_iconst (by decide) dX3_growFrom_20) <| dr_c (dg_iadd dX3_growFrom_21) <| dr_c (dg_inv dX3_growFrom_22 mo_81 rfl rfl wd_416 wd_248 wd_249 pd_81) <| dr_c (dg_no) <| dr_c (dg_no) <| dr_c (dg_pop dX3_growFrom_25) <| dr_c (dg_vret dX3_growFrom_26) <| dr_c (dg_aload_n (k := 0) rfl dX3_growFrom_27) <| dr_c (dg_aload_n (k := 0) rfl dX3_growFrom_28) <| dr_c (dg_iload_n (k := 1) rfl dX3_growFrom_29) <| dr_c (dg_inv dX3_growFrom_30 mo_79 rfl rfl wd_392 wd_393 wd_394 pd_79) <| dr_c (dg_no) <| dr_n
theorem tr_42_2 : dm_AllR (dm_Good dm_tb RX3 cX3_growFrom 7 none false none) 32 [dm_no, dm_ald 34 0, dm_ild 35 2, dm_inv 38 79 1 6, dm_no, dm_no, dm_ild 39 3, dm_push 40 (.int 1), dm_ii 41 (fun x y => x + y), dm_ins 44 43 4, dm_no, dm_no, dm_ist 46 4, dm_no, dm_ald 47 0, dm_ald 48 0] := dr_c (dg_no) <| dr_c (dg_aload_n (k := 0) rfl dX3_growFrom_33) <| dr_c (dg_iload_n (k := 2) rfl dX3_growFrom_34) <| dr_c (dg_inv dX3_growFrom_35 mo_79 rfl rfl wd_392 wd_393 wd_394 pd_79) <| dr_c (dg_no) <| dr_c (dg_no) <| dr_c (dg_iload_n (k := 3) rfl dX3_growFrom_38) <| dr_c (dg_iconst (by decide) dX3_growFrom_39) <| dr_c (dg_iadd dX3_growFrom_40) <| dr_c (dg_ins dX3_growFrom_41 mo_43 wd_497 wd_498 pd_43) <| dr_c (dg_no) <| dr_c (dg_no) <| dr_c (dg_istore (by decide) dX3_growFrom_44) <| dr_c (dg_no) <| dr_c (dg_aload_n (k := 0) rfl dX3_growFrom_46) <| dr_c (dg_aload_n (k := 0) rfl dX3_growFrom_47) <| dr_n
theorem tr_42_3 : dm_AllR (dm_Good dm_tb RX3 cX3_growFrom 7 none false none) 48 [dm_ild 49 1, dm_inv 52 80 1 6, dm_no, dm_no, dm_ald 53 0, dm_ild 54 2, dm_inv 57 80 1 6, dm_no, dm_no, dm_ild 58 3, dm_push 59 (.int 1), dm_ii 60 (fun x y => x + y), dm_ins 63 43 4, dm_no, dm_no, dm_ist 65 5] := dr_c (dg_iload_n (k := 1) rfl dX3_growFrom_48) <| dr_c (dg_inv dX3_growFrom_49 mo_80 rfl rfl wd_397 wd_398 wd_399 pd_80) <| dr_c (dg_no) <| dr_c (dg_no) <| dr_c (dg_aload_n (k := 0) rfl dX3_growFrom_52) <| dr_c (dg_iload_n (k := 2) rfl dX3_growFrom_53) <| dr_c (dg_inv dX3_growFrom_54 mo_80 rfl rfl wd_397 wd_398 wd_399 pd_80) <| dr_c (dg_no) <| dr_c (dg_no) <| dr_c (dg_iload_n (k := 3) rfl dX3_growFrom_57) <| dr_c (dg_iconst (by decide) dX3_growFrom_58) <| dr_c (dg_iadd dX3_growFrom_59) <| dr_c (dg_ins dX3_growFrom_60 mo_43 wd_497 wd_498 pd_43) <| dr_c (dg_no) <| dr_c (dg_no) <| dr_c (dg_istore (by decide) dX3_growFrom_63) <| dr_n
theorem tr_42_4 : dm_AllR (dm_Good dm_tb RX3 cX3_growFrom 7 none false none) 64 [dm_no, dm_ald 66 0, dm_ald 67 0, dm_ild 68 2, dm_inv 71 75 1 6, dm_no, dm_no, dm_inv 74 81 1 6, dm_no, dm_no, dm_ist 76 6, dm_no, dm_ild 78 4, dm_no, dm_ild 80 5, dm_no] := dr_c (dg_no) <| dr_c (dg_aload_n (k := 0) rfl dX3_growFrom_65) <| dr_c (dg_aload_n (k := 0) rfl dX3_growFrom_66) <| dr_c (dg_iload_n (k := 2) rfl dX3_growFrom_67) <| dr_c (dg_inv dX3_growFrom_68 mo_75 rfl rfl wd_477 wd_381 wd_382 pd_75) <| dr_c (dg_no) <| dr_c (dg_no) <| dr_c (dg_inv dX3_growFrom_71 mo_81 rfl rfl wd_416 wd_248 wd_249 pd_81) <| dr_c (dg_no) <| dr_c (dg_no) <| dr_c (dg_istore (by decide) dX3_growFrom_74) <| dr_c (dg_no) <| dr_c (dg_iload dX3_growFrom_76) <| dr_c (dg_no) <| dr_c (dg_iload dX3_growFrom_78) <| dr_c (dg_no) <| dr_n
theorem tr_42_5 : dm_AllR (dm_Good dm_tb RX3 cX3_growFrom 7 none false none) 80 [dm_ic_ge 83 118, dm_no, dm_no, dm_ald 84 0, dm_ald 85 0, dm_ild 86 1, dm_inv 89 79 1 6, dm_no, dm_no, dm_ald 90 0, dm_ild 91 2, dm_inv 94 79 1 6, dm_no, dm_no, dm_ild 95 3, dm_push 96 (.int 1)] := dr_c (dg_ic_ge (by decide) dX3_growFrom_80) <| dr_c (dg_no) <| dr_c (dg_no) <| dr_c (dg_aload_n (k := 0) rfl dX3_growFrom_83) <| dr_c (dg_aload_n (k := 0) rfl dX3_growFrom_84) <| dr_c (dg_iload_n (k := 1) rfl dX3_growFrom_85) <| dr_c (dg_inv dX3_growFrom_86 mo_79 rfl rfl wd_392 wd_393 wd_394 pd_79) <| dr_c (dg_no) <| dr_c (dg_no) <| dr_c (dg_aload_n (k := 0) rfl dX3_growFrom_89) <| dr_c (dg_iload_n (k := 2) rfl dX3_growFrom_90) <| dr_c (dg_inv dX3_growFrom_91 mo_79 rfl rfl wd_392 wd_393 wd_394 pd_79) <| dr_c (dg_no) <| dr_c (dg_no) <| dr_c (dg_iload_n (k := 3) rfl dX3_growFrom_94) <| dr_c (dg_iconst (by decide) dX3_growFrom_95) <| dr_n
theorem tr_42_6 : dm_AllR (dm_Good dm_tb RX3 cX3_growFrom 7 none false none) 96 [dm_ii 97 (fun x y => x + y), dm_ins 100 42 4, dm_no, dm_no, dm_ald 101 0, dm_ild 103 6, dm_no, dm_inv 106 82 1 6, dm_no, dm_no, dm_ald 107 0, dm_ald 108 0, dm_ild 109 2, dm_inv 112 80 1 6, dm_no, dm_no] := dr_c (dg_iadd dX3_growFrom_96) <| dr_c (dg_ins dX3_growFrom_97 mo_42 wd_494 wd_495 pd_42) <| dr_c (dg_no) <| dr_c (dg_no) <| dr_c (dg_aload_n (k := 0) rfl dX3_growFrom_100) <| dr_c (dg_iload dX3_growFrom_101) <| dr_c (dg_no) <| dr_c (dg_inv dX3_growFrom_103 mo_82 rfl rfl wd_417 wd_418 wd_419 pd_82) <| dr_c (dg_no) <| dr_c (dg_no) <| dr_c (dg_aload_n (k := 0) rfl dX3_growFrom_106) <| dr_c (dg_aload_n (k := 0) rfl dX3_growFrom_107) <| dr_c (dg_iload_n (k := 2) rfl dX3_growFrom_108) <| dr_c (dg_inv dX3_growFrom_109 mo_80 rfl rfl wd_397 wd_398 wd_399 pd_80) <| dr_c (dg_no) <| dr_c (dg_no) <| dr_n
theorem tr_42_7 : dm_AllR (dm_Good dm_tb RX3 cX3_growFrom 7 none false none) 112 [dm_inv 115 85 1 6, dm_no, dm_no, dm_goto 150, dm_no, dm_no, dm_ald 119 0, dm_ald 120 0, dm_ild 121 2, dm_inv 124 79 1 6, dm_no, dm_no, dm_inv 127 85 1 6, dm_no, dm_no, dm_ald 128 0] := dr_c (dg_inv dX3_growFrom_112 mo_85 rfl rfl wd_421 wd_422 wd_423 pd_85) <| dr_c (dg_no) <| dr_c (dg_no) <| dr_c (dg_goto (by decide) dX3_growFrom_115) <| dr_c (dg_no) <| dr_c (dg_no) <| dr_c (dg_aload_n (k := 0) rfl dX3_growFrom_118) <| dr_c (dg_aload_n (k := 0) rfl dX3_growFrom_119) <| dr_c (dg_iload_n (k := 2) rfl dX3_growFrom_120) <| dr_c (dg_inv dX3_growFrom_121 mo_79 rfl rfl wd_392 wd_393 wd_394 pd_79) <| dr_c (dg_no) <| dr_c (dg_no) <| dr_c (dg_inv dX3_growFrom_124 mo_85 rfl rfl wd_421 wd_422 wd_423 pd_85) <| dr_c (dg_no) <| dr_c (dg_no) <| dr_c (dg_aload_n (k := 0) rfl dX3_growFrom_127) <| dr_n
theorem tr_42_8 : dm_AllR (dm_Good dm_tb RX3 cX3_growFrom 7 none false none) 128 [dm_ild 130 6, dm_no, dm_inv 133 82 1 6, dm_no, dm_no, dm_ald 134 0, dm_ald 135 0, dm_ild 136 1, dm_inv 139 80 1 6, dm_no, dm_no, dm_ald 140 0, dm_ild 141 2, dm_inv 144 80 1 6, dm_no, dm_no] := dr_c (dg_iload dX3_growFrom_128) <| dr_c (dg_no) <| dr_c (dg_inv dX3_growFrom_130 mo_82 rfl rfl wd_417 wd_418 wd_419 pd_82) <| dr_c (dg_no) <| dr_c (dg_no) <| dr_c (dg_aload_n (k := 0) rfl dX3_growFrom_133) <| dr_c (dg_aload_n (k := 0) rfl dX3_growFrom_134) <| dr_c (dg_iload_n (k := 1) rfl dX3_growFrom_135) <| dr_c (dg_inv dX3_growFrom_136 mo_80 rfl rfl wd_397 wd_398 wd_399 pd_80) <| dr_c (dg_no) <| dr_c (dg_no) <| dr_c (dg_aload_n (k := 0) rfl dX3_growFrom_139) <| dr_c (dg_iload_n (k := 2) rfl dX3_growFrom_140) <| dr_c (dg_inv dX3_growFrom_141 mo_80 rfl rfl wd_397 wd_398 wd_399 pd_80) <| dr_c (dg_no) <| dr_c (dg_no) <| dr_n
theorem tr_42_9 : dm_AllR (dm_Good dm_tb RX3 cX3_growFrom 7 none false none) 144 [dm_ild 145 3, dm_push 146 (.int 1), dm_ii 147 (fun x y => x + y), dm_ins 150 42 4, dm_no, dm_no, dm_ald 151 0, dm_ild 153 6, dm_no, dm_inv 156 83 1 6, dm_no, dm_no, dm_vret] := dr_c (dg_iload_n (k := 3) rfl dX3_growFrom_144) <| dr_c (dg_iconst (by decide) dX3_growFrom_145) <| dr_c (dg_iadd dX3_growFrom_146) <| dr_c (dg_ins dX3_growFrom_147 mo_42 wd_494 wd_495 pd_42) <| dr_c (dg_no) <| dr_c (dg_no) <| dr_c (dg_aload_n (k := 0) rfl dX3_growFrom_150) <| dr_c (dg_iload dX3_growFrom_151) <| dr_c (dg_no) <| dr_c (dg_inv dX3_growFrom_153 mo_83 rfl rfl wd_483 wd_484 wd_485 pd_83) <| dr_c (dg_no) <| dr_c (dg_no) <| dr_c (dg_vret dX3_growFrom_156) <| dr_n
theorem tk_42 : dm_AllC (dm_Good dm_tb RX3 cX3_growFrom 7 none false none) 0 cd_42 := dc_c (by decide) tr_42_0 <| dc_c (by decide) tr_42_1 <| dc_c (by decide) tr_42_2 <| dc_c (by decide) tr_42_3 <| dc_c (by decide) tr_42_4 <| dc_c (by decide) tr_42_5 <| dc_c (by decide) tr_42_6 <| dc_c (by decide) tr_42_7 <| dc_c (by decide) tr_42_8 <| dc_c (by decide) tr_42_9 <| dc_n
theorem dX3_cost_0 : decode cX3_cost 0 = .ok (.aload_n 0, 1) := by decide +kernel
theorem dX3_cost_1 : decode cX3_cost 1 = .ok (.iload_n 1, 1) := by decide +kernel
theorem dX3_cost_2 : decode cX3_cost 2 = .ok (.invokevirtual 28, 3) := by decide +kernel
theorem dX3_cost_5 : decode cX3_cost 5 = .ok (.ifCond .ne 9, 3) := by decide +kernel
theorem dX3_cost_8 : decode cX3_cost 8 = .ok (.iload_n 3, 1) := by decide +kernel
theorem dX3_cost_9 : decode cX3_cost 9 = .ok (.bipush 60, 2) := by decide +kernel
theorem dX3_cost_11 : decode cX3_cost 11 = .ok (.if_icmp .lt 19, 3) := by decide +kernel
theorem dX3_cost_14 : decode cX3_cost 14 = .ok (.aload_n 0, 1) := by decide +kernel
theorem dX3_cost_15 : decode cX3_cost 15 = .ok (.iload_n 1, 1) := by decide +kernel
theorem dX3_cost_16 : decode cX3_cost 16 = .ok (.invokevirtual 54, 3) := by decide +kernel
theorem dX3_cost_19 : decode cX3_cost 19 = .ok (.iconst 1, 1) := by decide +kernel
theorem dX3_cost_20 : decode cX3_cost 20 = .ok (.if_icmp .ne 7, 3) := by decide +kernel
theorem dX3_cost_23 : decode cX3_cost 23 = .ok (.iconst 0, 1) := by decide +kernel
theorem dX3_cost_24 : decode cX3_cost 24 = .ok (.goto 5, 3) := by decide +kernel
theorem dX3_cost_27 : decode cX3_cost 27 = .ok (.ldc 90, 2) := by decide +kernel
theorem dX3_cost_29 : decode cX3_cost 29 = .ok (.ireturn, 1) := by decide +kernel
theorem dX3_cost_30 : decode cX3_cost 30 = .ok (.aload_n 0, 1) := by decide +kernel
theorem dX3_cost_31 : decode cX3_cost 31 = .ok (.aload_n 0, 1) := by decide +kernel
theorem dX3_cost_32 : decode cX3_cost 32 = .ok (.iload_n 1, 1) := by decide +kernel
theorem dX3_cost_33 : decode cX3_cost 33 = .ok (.invokevirtual 15, 3) := by decide +kernel
theorem dX3_cost_36 : decode cX3_cost 36 = .ok (.aload_n 0, 1) := by decide +kernel
theorem dX3_cost_37 : decode cX3_cost 37 = .ok (.iload_n 2, 1) := by decide +kernel
theorem dX3_cost_38 : decode cX3_cost 38 = .ok (.invokevirtual 15, 3) := by decide +kernel
theorem dX3_cost_41 : decode cX3_cost 41 = .ok (.iload_n 3, 1) := by decide +kernel
theorem dX3_cost_42 : decode cX3_cost 42 = .ok (.iconst 1, 1) := by decide +kernel
theorem dX3_cost_43 : decode cX3_cost 43 = .ok (.iadd, 1) := by decide +kernel
theorem dX3_cost_44 : decode cX3_cost 44 = .ok (.invokestatic 86, 3) := by decide +kernel
theorem dX3_cost_47 : decode cX3_cost 47 = .ok (.istore 4, 2) := by decide +kernel
theorem dX3_cost_49 : decode cX3_cost 49 = .ok (.aload_n 0, 1) := by decide +kernel
theorem dX3_cost_50 : decode cX3_cost 50 = .ok (.aload_n 0, 1) := by decide +kernel
theorem dX3_cost_51 : decode cX3_cost 51 = .ok (.iload_n 1, 1) := by decide +kernel
theorem dX3_cost_52 : decode cX3_cost 52 = .ok (.invokevirtual 25, 3) := by decide +kernel
theorem dX3_cost_55 : decode cX3_cost 55 = .ok (.aload_n 0, 1) := by decide +kernel
theorem dX3_cost_56 : decode cX3_cost 56 = .ok (.iload_n 2, 1) := by decide +kernel
theorem dX3_cost_57 : decode cX3_cost 57 = .ok (.invokevirtual 25, 3) := by decide +kernel
theorem dX3_cost_60 : decode cX3_cost 60 = .ok (.iload_n 3, 1) := by decide +kernel
theorem dX3_cost_61 : decode cX3_cost 61 = .ok (.iconst 1, 1) := by decide +kernel
theorem dX3_cost_62 : decode cX3_cost 62 = .ok (.iadd, 1) := by decide +kernel
theorem dX3_cost_63 : decode cX3_cost 63 = .ok (.invokestatic 86, 3) := by decide +kernel
theorem dX3_cost_66 : decode cX3_cost 66 = .ok (.istore 5, 2) := by decide +kernel
theorem dX3_cost_68 : decode cX3_cost 68 = .ok (.iconst 1, 1) := by decide +kernel
theorem dX3_cost_69 : decode cX3_cost 69 = .ok (.aload_n 0, 1) := by decide +kernel
theorem dX3_cost_70 : decode cX3_cost 70 = .ok (.iload_n 2, 1) := by decide +kernel
theorem dX3_cost_71 : decode cX3_cost 71 = .ok (.invokevirtual 28, 3) := by decide +kernel
theorem dX3_cost_74 : decode cX3_cost 74 = .ok (.ifCond .eq 9, 3) := by decide +kernel
theorem dX3_cost_77 : decode cX3_cost 77 = .ok (.sipush 1000, 3) := by decide +kernel
theorem dX3_cost_80 : decode cX3_cost 80 = .ok (.goto 4, 3) := by decide +kernel
theorem dX3_cost_83 : decode cX3_cost 83 = .ok (.iconst 0, 1) := by decide +kernel
theorem dX3_cost_84 : decode cX3_cost 84 = .ok (.iadd, 1) := by decide +kernel
theorem dX3_cost_85 : decode cX3_cost 85 = .ok (.iload 4, 2) := by decide +kernel
theorem dX3_cost_87 : decode cX3_cost 87 = .ok (.iload 5, 2) := by decide +kernel
theorem dX3_cost_89 : decode cX3_cost 89 = .ok (.invokestatic 91, 3) := by decide +kernel
theorem dX3_cost_92 : decode cX3_cost 92 = .ok (.iadd, 1) := by decide +kernel
theorem dX3_cost_93 : decode cX3_cost 93 = .ok (.ireturn, 1) := by decide +kernel
def cd_43 : dm_Code := [[dm_ald 1 0, dm_ild 2 1, dm_inv 5 77 1 6, dm_no, dm_no, dm_if_ne 8 14, dm_no, dm_no, dm_ild 9 3, dm_push 11 (.int 60), dm_no, dm_ic_lt 14 30, dm_no, dm_no, dm_ald 15 0, dm_ild 16 1],
  [dm_inv 19 75 1 6, dm_no, dm_no, dm_push 20 (.int 1), dm_ic_ne 23 27, dm_no, dm_no, dm_push 24 (.int 0), dm_goto 29, dm_no, dm_no, dm_push 29 (.int 1000000), dm_no, dm_ret .int, dm_ald 31 0, dm_ald 32 0],
  [dm_ild 33 1, dm_inv 36 79 1 6, dm_no, dm_no, dm_ald 37 0, dm_ild 38 2, dm_inv 41 79 1 6, dm_no, dm_no, dm_ild 42 3, dm_push 43 (.int 1), dm_ii 44 (fun x y => x + y), dm_ins 47 43 4, dm_no, dm_no, dm_ist 49 4],
  [dm_no, dm_ald 50 0, dm_ald 51 0, dm_ild 52 1, dm_inv 55 80 1 6, dm_no, dm_no, dm_ald 56 0, dm_ild 57 2, dm_inv 60 80 1 6, dm_no, dm_no, dm_ild 61 3, dm_push 62 (.int 1), dm_ii 63 (fun x y => x + y), dm_ins 66 43 4],
  [dm_no, dm_no, dm_ist 68 5, dm_no, dm_push 69 (.int 1), dm_ald 70 0, dm_ild 71 2, dm_inv 74 77 1 6, dm_no, dm_no, dm_if_eq 77 83, dm_no, dm_no, dm_push 80 (.int 1000), dm_no, dm_no],
  [dm_goto 84, dm_no, dm_no, dm_push 84 (.int 0), dm_ii 85 (fun x y => x + y), dm_ild 87 4, dm_no, dm_ild 89 5, dm_no, dm_mn 92, dm_no, dm_no, dm_ii 93 (fun x y => x + y), dm_ret .int]]
theorem tr_43_0 : dm_AllR (dm_Good dm_tb RX3 cX3_cost 6 (some .int) false none) 0 [dm_ald 1 0, dm_ild 2 1, dm_inv 5 77 1 6, dm_no, dm_no, dm_if_ne 8 14, dm_no, dm_no, dm_ild 9 3, dm_push 11 (.int 60), dm_no, dm_ic_lt 14 30, dm_no, dm_no, dm_ald 15 0, dm_ild 16 1] := dr_c (dg_aload_n (k := 0) rfl dX3_cost_0) <| dr_c (dg_iload_n (k := 1) rfl dX3_cost_1) <| dr_c (dg_inv dX3_cost_2 mo_77 rfl rfl wd_391 wd_293 wd_294 pd_77) <| dr_c (dg_no) <| dr_c (dg_no) <| dr_c (dg_if_ne (by decide) dX3_cost_5) <| dr_c (dg_no) <| dr_c (dg_no) <| dr_c (dg_iload_n (k := 3) rfl dX3_cost_8) <| dr_c (dg_bipush (by decide) dX3_cost_9) <| dr_c (dg_no) <| dr_c (dg_ic_lt (by decide) dX3_cost_11) <| dr_c (dg_no) <| dr_c (dg_no) <| dr_c (dg_aload_n (k := 0) rfl dX3_cost_14) <| dr_c (dg_iload_n (k := 1) rfl dX3_cost_15) <| dr_n
theorem tr_43_1 : dm_AllR (dm_Good dm_tb RX3 cX3_cost 6 (some .int) false none) 16 [dm_inv 19 75 1 6, dm_no, dm_no, dm_push 20 (.int 1), dm_ic_ne 23 27, dm_no, dm_no, dm_push 24 (.int 0), dm_goto 29, dm_no, dm_no, dm_push 29 (.int 1000000), dm_no, dm_ret .int, dm_ald 31 0, dm_ald 32 0] := dr_c (dg_inv dX3_cost_16 mo_75 rfl rfl wd_477 wd_381 wd_382 pd_75) <| dr_c (dg_no) <| dr_c (dg_no) <| dr_c (dg_iconst (by decide) dX3_cost_19) <| dr_c (dg_ic_ne (by decide) dX3_cost_20) <| dr_c (dg_no) <| dr_c (dg_no) <| dr_c (dg_iconst (by decide) dX3_cost_23) <| dr_c (dg_goto (by decide) dX3_cost_24) <| dr_c (dg_no) <| dr_c (dg_no) <| dr_c (dg_ldc wd_500 dX3_cost_27) <| dr_c (dg_no) <| dr_c (dg_ret dX3_cost_29) <| dr_c (dg_aload_n (k := 0) rfl dX3_cost_30) <| dr_c (dg_aload_n (k := 0) rfl dX3_cost_31) <| dr_n
theorem tr_43_2 : dm_AllR (dm_Good dm_tb RX3 cX3_cost 6 (some .int) false none) 32 [dm_ild 33 1, dm_inv 36 79 1 6, dm_no, dm_no, dm_ald 37 0, dm_ild 38 2, dm_inv 41 79 1 6, dm_no, dm_no, dm_ild 42 3, dm_push 43 (.int 1), dm_ii 44 (fun x y => x + y), dm_ins 47 43 4, dm_no, dm_no, dm_ist 49 4] := dr_c (dg_iload_n (k := 1) rfl dX3_cost_32) <| dr_c (dg_inv dX3_cost_33 mo_79 rfl rfl wd_392 wd_393 wd_394 pd_79) <| dr_c (dg_no) <| dr_c (dg_no) <| dr_c (dg_aload_n (k := 0) rfl dX3_cost_36) <| dr_c (dg_iload_n (k := 2) rfl dX3_cost_37) <| dr_c (dg_inv dX3_cost_38 mo_79 rfl rfl wd_392 wd_393 wd_394 pd_79) <| dr_c (dg_no) <| dr_c (dg_no) <| dr_c (dg_iload_n (k := 3) rfl dX3_cost_41) <| dr_c (dg_iconst (by decide) dX3_cost_42) <| dr_c (dg_iadd dX3_cost_43) <| dr_c (dg_ins dX3_cost_44 mo_43 wd_497 wd_498 pd_43) <| dr_c (dg_no) <| dr_c (dg_no) <| dr_c (dg_istore (by decide) dX3_cost_47) <| dr_n
theorem tr_43_3 : dm_AllR (dm_Good dm_tb RX3 cX3_cost 6 (some .int) false none) 48 [dm_no, dm_ald 50 0, dm_ald 51 0, dm_ild 52 1, dm_inv 55 80 1 6, dm_no, dm_no, dm_ald 56 0, dm_ild 57 2, dm_inv 60 80 1 6, dm_no, dm_no, dm_ild 61 3, dm_push 62 (.int 1), dm_ii 63 (fun x y => x + y), dm_ins 66 43 4] := dr_c (dg_no) <| dr_c (dg_aload_n (k := 0) rfl dX3_cost_49) <| dr_c (dg_aload_n (k := 0) rfl dX3_cost_50) <| dr_c (dg_iload_n (k := 1) rfl dX3_cost_51) <| dr_c (dg_inv dX3_cost_52 mo_80 rfl rfl wd_397 wd_398 wd_399 pd_80) <| dr_c (dg_no) <| dr_c (dg_no) <| dr_c (dg_aload_n (k := 0) rfl dX3_cost_55) <| dr_c (dg_iload_n (k := 2) rfl dX3_cost_56) <| dr_c (dg_inv dX3_cost_57 mo_80 rfl rfl wd_397 wd_398 wd_399 pd_80) <| dr_c (dg_no) <| dr_c (dg_no) <| dr_c (dg_iload_n (k := 3) rfl dX3_cost_60) <| dr_c (dg_iconst (by decide) dX3_cost_61) <| dr_c (dg_iadd dX3_cost_62) <| dr_c (dg_ins dX3_cost_63 mo_43 wd_497 wd_498 pd_43) <| dr_n
theorem tr_43_4 : dm_AllR (dm_Good dm_tb RX3 cX3_cost 6 (some .int) false none) 64 [dm_no, dm_no, dm_ist 68 5, dm_no, dm_push 69 (.int 1), dm_ald 70 0, dm_ild 71 2, dm_inv 74 77 1 6, dm_no, dm_no, dm_if_eq 77 83, dm_no, dm_no, dm_push 80 (.int 1000), dm_no, dm_no] := dr_c (dg_no) <| dr_c (dg_no) <| dr_c (dg_istore (by decide) dX3_cost_66) <| dr_c (dg_no) <| dr_c (dg_iconst (by decide) dX3_cost_68) <| dr_c (dg_aload_n (k := 0) rfl dX3_cost_69) <| dr_c (dg_iload_n (k := 2) rfl dX3_cost_70) <| dr_c (dg_inv dX3_cost_71 mo_77 rfl rfl wd_391 wd_293 wd_294 pd_77) <| dr_c (dg_no) <| dr_c (dg_no) <| dr_c (dg_if_eq (by decide) dX3_cost_74) <| dr_c (dg_no) <| dr_c (dg_no) <| dr_c (dg_sipush (by decide) dX3_cost_77) <| dr_c (dg_no) <| dr_c (dg_no) <| dr_n
theorem tr_43_5 : dm_AllR (dm_Good dm_tb RX3 cX3_cost 6 (some .int) false none) 80 [dm_goto 84, dm_no, dm_no, dm_push 84 (.int 0), dm_ii 85 (fun x y => x + y), dm_ild 87 4, dm_no, dm_ild 89 5, dm_no, dm_mn 92, dm_no, dm_no, dm_ii 93 (fun x y => x + y), dm_ret .int] := dr_c (dg_goto (by decide) dX3_cost_80) <| dr_c (dg_no) <| dr_c (dg_no) <| dr_c (dg_iconst (by decide) dX3_cost_83) <| dr_c (dg_iadd dX3_cost_84) <| dr_c (dg_iload dX3_cost_85) <| dr_c (dg_no) <| dr_c (dg_iload dX3_cost_87) <| dr_c (dg_no) <| dr_c (dg_mn dX3_cost_89 wd_501 wd_260 wd_64 wd_261) <| dr_c (dg_no) <| dr_c (dg_no) <| dr_c (dg_iadd dX3_cost_92) <| dr_c (dg_ret dX3_cost_93) <| dr_n
theorem tk_43 : dm_AllC (dm_Good dm_tb RX3 cX3_cost 6 (some .int) false none) 0 cd_43 := dc_c (by decide) tr_43_0 <| dc_c (by decide) tr_43_1 <| dc_c (by decide) tr_43_2 <| dc_c (by decide) tr_43_3 <| dc_c (by decide) tr_43_4 <| dc_c (by decide) tr_43_5 <| dc_n
theorem dX4_init_0 : decode cX4_init 0 = .ok (.aload_n 0, 1) := by decide +kernel
theorem dX4_init_1 : decode cX4_init 1 = .ok (.invokespecial 1, 3) := by decide +kernel
theorem dX4_init_4 : decode cX4_init 4 = .ok (.aload_n 0, 1) := by decide +kernel
theorem dX4_init_5 : decode cX4_init 5 = .ok (.iload_n 1, 1) := by decide +kernel
theorem dX4_init_6 : decode cX4_init 6 = .ok (.bipush 32, 2) := by decide +kernel
theorem dX4_init_8 : decode cX4_init 8 = .ok (.invokestatic 9, 3) := by decide +kernel
theorem dX4_init_11 : decode cX4_init 11 = .ok (.putfield 15, 3) := by decide +kernel
theorem dX4_init_14 : decode cX4_init 14 = .ok (.aload_n 0, 1) := by decide +kernel
theorem dX4_init_15 : decode cX4_init 15 = .ok (.bipush 32, 2) := by decide +kernel
theorem dX4_init_17 : decode cX4_init 17 = .ok (.newarray .int, 2) := by decide +kernel
theorem dX4_init_19 : decode cX4_init 19 = .ok (.putfield 19, 3) := by decide +kernel
theorem dX4_init_22 : decode cX4_init 22 = .ok (.return_, 1) := by decide +kernel
def cd_44 : dm_Code := [[dm_ald 1 0, dm_oin 4, dm_no, dm_no, dm_ald 5 0, dm_ild 6 1, dm_push 8 (.int 32), dm_no, dm_mx 11, dm_no, dm_no, dm_putf 14 3 0 .int, dm_no, dm_no, dm_ald 15 0, dm_push 17 (.int 32)],
  [dm_no, dm_newa 19 .int, dm_no, dm_putf 22 3 1 (.array .int), dm_no, dm_no, dm_vret]]
theorem tr_44_0 : dm_AllR (dm_Good dm_tb RX4 cX4_init 2 none true none) 0 [dm_ald 1 0, dm_oin 4, dm_no, dm_no, dm_ald 5 0, dm_ild 6 1, dm_push 8 (.int 32), dm_no, dm_mx 11, dm_no, dm_no, dm_putf 14 3 0 .int, dm_no, dm_no, dm_ald 15 0, dm_push 17 (.int 32)] := dr_c (dg_aload_n (k := 0) rfl dX4_init_0) <| dr_c (dg_oin dX4_init_1 wd_106 wd_86 wd_87) <| dr_c (dg_no) <| dr_c (dg_no) <| dr_c (dg_aload_n (k := 0) rfl dX4_init_4) <| dr_c (dg_iload_n (k := 1) rfl dX4_init_5) <| dr_c (dg_bipush (by decide) dX4_init_6) <| dr_c (dg_no) <| dr_c (dg_mx dX4_init_8 wd_107 wd_108 wd_64 wd_109) <| dr_c (dg_no) <| dr_c (dg_no) <| dr_c (dg_putF (T := TX4) (C := RX4) (N := 2) dX4_init_11 rfl (by decide) iw_X4 tyX4_ok nmX4 wd_110 rfl rfl rfl) <| dr_c (dg_no) <| dr_c (dg_no) <| dr_c (dg_aload_n (k := 0) rfl dX4_init_14) <| dr_c (dg_bipush (by decide) dX4_init_15) <| dr_n
theorem tr_44_1 : dm_AllR (dm_Good dm_tb RX4 cX4_init 2 none true none) 16 [dm_no, dm_newa 19 .int, dm_no, dm_putf 22 3 1 (.array .int), dm_no, dm_no, dm_vret] := dr_c (dg_no) <| dr_c (dg_newa dX4_init_17 rfl rfl wd_117) <| dr_c (dg_no) <| dr_c (dg_putf (T := TX4) (C := RX4) (N := 2) dX4_init_19 rfl (by decide) iw_X4 tyX4_ok nmX4 wd_111 rfl rfl) <| dr_c (dg_no) <| dr_c (dg_no) <| dr_c (dg_vret dX4_init_22) <| dr_n
theorem tk_44 : dm_AllC (dm_Good dm_tb RX4 cX4_init 2 none true none) 0 cd_44 := dc_c (by decide) tr_44_0 <| dc_c (by decide) tr_44_1 <| dc_n
theorem dX4_at_0 : decode cX4_at 0 = .ok (.iload_n 1, 1) := by decide +kernel
theorem dX4_at_1 : decode cX4_at 1 = .ok (.ifCond .lt 21, 3) := by decide +kernel
theorem dX4_at_4 : decode cX4_at 4 = .ok (.iload_n 1, 1) := by decide +kernel
theorem dX4_at_5 : decode cX4_at 5 = .ok (.aload_n 0, 1) := by decide +kernel
theorem dX4_at_6 : decode cX4_at 6 = .ok (.getfield 19, 3) := by decide +kernel
theorem dX4_at_9 : decode cX4_at 9 = .ok (.arraylength, 1) := by decide +kernel
theorem dX4_at_10 : decode cX4_at 10 = .ok (.if_icmp .ge 12, 3) := by decide +kernel
theorem dX4_at_13 : decode cX4_at 13 = .ok (.aload_n 0, 1) := by decide +kernel
theorem dX4_at_14 : decode cX4_at 14 = .ok (.getfield 19, 3) := by decide +kernel
theorem dX4_at_17 : decode cX4_at 17 = .ok (.iload_n 1, 1) := by decide +kernel
theorem dX4_at_18 : decode cX4_at 18 = .ok (.iaload, 1) := by decide +kernel
theorem dX4_at_19 : decode cX4_at 19 = .ok (.goto 4, 3) := by decide +kernel
theorem dX4_at_22 : decode cX4_at 22 = .ok (.iconst 0, 1) := by decide +kernel
theorem dX4_at_23 : decode cX4_at 23 = .ok (.ireturn, 1) := by decide +kernel
def cd_45 : dm_Code := [[dm_ild 1 1, dm_if_lt 4 22, dm_no, dm_no, dm_ild 5 1, dm_ald 6 0, dm_getf 9 3 1, dm_no, dm_no, dm_alen 10, dm_ic_ge 13 22, dm_no, dm_no, dm_ald 14 0, dm_getf 17 3 1, dm_no],
  [dm_no, dm_ild 18 1, dm_iald 19, dm_goto 23, dm_no, dm_no, dm_push 23 (.int 0), dm_ret .int]]
theorem tr_45_0 : dm_AllR (dm_Good dm_tb RX4 cX4_at 2 (some .int) false none) 0 [dm_ild 1 1, dm_if_lt 4 22, dm_no, dm_no, dm_ild 5 1, dm_ald 6 0, dm_getf 9 3 1, dm_no, dm_no, dm_alen 10, dm_ic_ge 13 22, dm_no, dm_no, dm_ald 14 0, dm_getf 17 3 1, dm_no] := dr_c (dg_iload_n (k := 1) rfl dX4_at_0) <| dr_c (dg_if_lt (by decide) dX4_at_1) <| dr_c (dg_no) <| dr_c (dg_no) <| dr_c (dg_iload_n (k := 1) rfl dX4_at_4) <| dr_c (dg_aload_n (k := 0) rfl dX4_at_5) <| dr_c (dg_getf (T := TX4) (C := RX4) (N := 2) dX4_at_6 rfl (by decide) iw_X4 wd_111) <| dr_c (dg_no) <| dr_c (dg_no) <| dr_c (dg_alen dX4_at_9) <| dr_c (dg_ic_ge (by decide) dX4_at_10) <| dr_c (dg_no) <| dr_c (dg_no) <| dr_c (dg_aload_n (k := 0) rfl dX4_at_13) <| dr_c (dg_getf (T := TX4) (C := RX4) (N := 2) dX4_at_14 rfl (by decide) iw_X4 wd_111) <| dr_c (dg_no) <| dr_n
theorem tr_45_1 : dm_AllR (dm_Good dm_tb RX4 cX4_at 2 (some .int) false none) 16 [dm_no, dm_ild 18 1, dm_iald 19, dm_goto 23, dm_no, dm_no, dm_push 23 (.int 0), dm_ret .int] := dr_c (dg_no) <| dr_c (dg_iload_n (k := 1) rfl dX4_at_17) <| dr_c (dg_iald dX4_at_18) <| dr_c (dg_goto (by decide) dX4_at_19) <| dr_c (dg_no) <| dr_c (dg_no) <| dr_c (dg_iconst (by decide) dX4_at_22) <| dr_c (dg_ret dX4_at_23) <| dr_n
theorem tk_45 : dm_AllC (dm_Good dm_tb RX4 cX4_at 2 (some .int) false none) 0 cd_45 := dc_c (by decide) tr_45_0 <| dc_c (by decide) tr_45_1 <| dc_n
theorem dX4_put_0 : decode cX4_put 0 = .ok (.iload_n 1, 1) := by decide +kernel
theorem dX4_put_1 : decode cX4_put 1 = .ok (.aload_n 0, 1) := by decide +kernel
theorem dX4_put_2 : decode cX4_put 2 = .ok (.getfield 19, 3) := by decide +kernel
theorem dX4_put_5 : decode cX4_put 5 = .ok (.arraylength, 1) := by decide +kernel
theorem dX4_put_6 : decode cX4_put 6 = .ok (.if_icmp .lt 18, 3) := by decide +kernel
theorem dX4_put_9 : decode cX4_put 9 = .ok (.iload_n 1, 1) := by decide +kernel
theorem dX4_put_10 : decode cX4_put 10 = .ok (.aload_n 0, 1) := by decide +kernel
theorem dX4_put_11 : decode cX4_put 11 = .ok (.getfield 15, 3) := by decide +kernel
theorem dX4_put_14 : decode cX4_put 14 = .ok (.if_icmp .ge 10, 3) := by decide +kernel
theorem dX4_put_17 : decode cX4_put 17 = .ok (.aload_n 0, 1) := by decide +kernel
theorem dX4_put_18 : decode cX4_put 18 = .ok (.iload_n 1, 1) := by decide +kernel
theorem dX4_put_19 : decode cX4_put 19 = .ok (.iconst 1, 1) := by decide +kernel
theorem dX4_put_20 : decode cX4_put 20 = .ok (.iadd, 1) := by decide +kernel
theorem dX4_put_21 : decode cX4_put 21 = .ok (.invokevirtual 23, 3) := by decide +kernel
theorem dX4_put_24 : decode cX4_put 24 = .ok (.iload_n 1, 1) := by decide +kernel
theorem dX4_put_25 : decode cX4_put 25 = .ok (.ifCond .lt 19, 3) := by decide +kernel
theorem dX4_put_28 : decode cX4_put 28 = .ok (.iload_n 1, 1) := by decide +kernel
theorem dX4_put_29 : decode cX4_put 29 = .ok (.aload_n 0, 1) := by decide +kernel
theorem dX4_put_30 : decode cX4_put 30 = .ok (.getfield 19, 3) := by decide +kernel
theorem dX4_put_33 : decode cX4_put 33 = .ok (.arraylength, 1) := by decide +kernel
theorem dX4_put_34 : decode cX4_put 34 = .ok (.if_icmp .ge 10, 3) := by decide +kernel
theorem dX4_put_37 : decode cX4_put 37 = .ok (.aload_n 0, 1) := by decide +kernel
theorem dX4_put_38 : decode cX4_put 38 = .ok (.getfield 19, 3) := by decide +kernel
theorem dX4_put_41 : decode cX4_put 41 = .ok (.iload_n 1, 1) := by decide +kernel
theorem dX4_put_42 : decode cX4_put 42 = .ok (.iload_n 2, 1) := by decide +kernel
theorem dX4_put_43 : decode cX4_put 43 = .ok (.iastore, 1) := by decide +kernel
theorem dX4_put_44 : decode cX4_put 44 = .ok (.return_, 1) := by decide +kernel
def cd_46 : dm_Code := [[dm_ild 1 1, dm_ald 2 0, dm_getf 5 3 1, dm_no, dm_no, dm_alen 6, dm_ic_lt 9 24, dm_no, dm_no, dm_ild 10 1, dm_ald 11 0, dm_getf 14 3 0, dm_no, dm_no, dm_ic_ge 17 24, dm_no],
  [dm_no, dm_ald 18 0, dm_ild 19 1, dm_push 20 (.int 1), dm_ii 21 (fun x y => x + y), dm_inv 24 48 1 3, dm_no, dm_no, dm_ild 25 1, dm_if_lt 28 44, dm_no, dm_no, dm_ild 29 1, dm_ald 30 0, dm_getf 33 3 1, dm_no],
  [dm_no, dm_alen 34, dm_ic_ge 37 44, dm_no, dm_no, dm_ald 38 0, dm_getf 41 3 1, dm_no, dm_no, dm_ild 42 1, dm_ild 43 2, dm_iast 44, dm_vret]]
theorem tr_46_0 : dm_AllR (dm_Good dm_tb RX4 cX4_put 3 none false none) 0 [dm_ild 1 1, dm_ald 2 0, dm_getf 5 3 1, dm_no, dm_no, dm_alen 6, dm_ic_lt 9 24, dm_no, dm_no, dm_ild 10 1, dm_ald 11 0, dm_getf 14 3 0, dm_no, dm_no, dm_ic_ge 17 24, dm_no] := dr_c (dg_iload_n (k := 1) rfl dX4_put_0) <| dr_c (dg_aload_n (k := 0) rfl dX4_put_1) <| dr_c (dg_getf (T := TX4) (C := RX4) (N := 2) dX4_put_2 rfl (by decide) iw_X4 wd_111) <| dr_c (dg_no) <| dr_c (dg_no) <| dr_c (dg_alen dX4_put_5) <| dr_c (dg_ic_lt (by decide) dX4_put_6) <| dr_c (dg_no) <| dr_c (dg_no) <| dr_c (dg_iload_n (k := 1) rfl dX4_put_9) <| dr_c (dg_aload_n (k := 0) rfl dX4_put_10) <| dr_c (dg_getf (T := TX4) (C := RX4) (N := 2) dX4_put_11 rfl (by decide) iw_X4 wd_110) <| dr_c (dg_no) <| dr_c (dg_no) <| dr_c (dg_ic_ge (by decide) dX4_put_14) <| dr_c (dg_no) <| dr_n
theorem tr_46_1 : dm_AllR (dm_Good dm_tb RX4 cX4_put 3 none false none) 16 [dm_no, dm_ald 18 0, dm_ild 19 1, dm_push 20 (.int 1), dm_ii 21 (fun x y => x + y), dm_inv 24 48 1 3, dm_no, dm_no, dm_ild 25 1, dm_if_lt 28 44, dm_no, dm_no, dm_ild 29 1, dm_ald 30 0, dm_getf 33 3 1, dm_no] := dr_c (dg_no) <| dr_c (dg_aload_n (k := 0) rfl dX4_put_17) <| dr_c (dg_iload_n (k := 1) rfl dX4_put_18) <| dr_c (dg_iconst (by decide) dX4_put_19) <| dr_c (dg_iadd dX4_put_20) <| dr_c (dg_inv dX4_put_21 mo_48 rfl rfl wd_255 wd_257 wd_1 pd_48) <| dr_c (dg_no) <| dr_c (dg_no) <| dr_c (dg_iload_n (k := 1) rfl dX4_put_24) <| dr_c (dg_if_lt (by decide) dX4_put_25) <| dr_c (dg_no) <| dr_c (dg_no) <| dr_c (dg_iload_n (k := 1) rfl dX4_put_28) <| dr_c (dg_aload_n (k := 0) rfl dX4_put_29) <| dr_c (dg_getf (T := TX4) (C := RX4) (N := 2) dX4_put_30 rfl (by decide) iw_X4 wd_111) <| dr_c (dg_no) <| dr_n
theorem tr_46_2 : dm_AllR (dm_Good dm_tb RX4 cX4_put 3 none false none) 32 [dm_no, dm_alen 34, dm_ic_ge 37 44, dm_no, dm_no, dm_ald 38 0, dm_getf 41 3 1, dm_no, dm_no, dm_ild 42 1, dm_ild 43 2, dm_iast 44, dm_vret] := dr_c (dg_no) <| dr_c (dg_alen dX4_put_33) <| dr_c (dg_ic_ge (by decide) dX4_put_34) <| dr_c (dg_no) <| dr_c (dg_no) <| dr_c (dg_aload_n (k := 0) rfl dX4_put_37) <| dr_c (dg_getf (T := TX4) (C := RX4) (N := 2) dX4_put_38 rfl (by decide) iw_X4 wd_111) <| dr_c (dg_no) <| dr_c (dg_no) <| dr_c (dg_iload_n (k := 1) rfl dX4_put_41) <| dr_c (dg_iload_n (k := 2) rfl dX4_put_42) <| dr_c (dg_iast dX4_put_43) <| dr_c (dg_vret dX4_put_44) <| dr_n
theorem tk_46 : dm_AllC (dm_Good dm_tb RX4 cX4_put 3 none false none) 0 cd_46 := dc_c (by decide) tr_46_0 <| dc_c (by decide) tr_46_1 <| dc_c (by decide) tr_46_2 <| dc_n
theorem dX4_copyFrom_0 : decode cX4_copyFrom 0 = .ok (.iload_n 2, 1) := by decide +kernel
theorem dX4_copyFrom_1 : decode cX4_copyFrom 1 = .ok (.aload_n 1, 1) := by decide +kernel
theorem dX4_copyFrom_2 : decode cX4_copyFrom 2 = .ok (.getfield 19, 3) := by decide +kernel
theorem dX4_copyFrom_5 : decode cX4_copyFrom 5 = .ok (.arraylength, 1) := by decide +kernel
theorem dX4_copyFrom_6 : decode cX4_copyFrom 6 = .ok (.invokestatic 27, 3) := by decide +kernel
theorem dX4_copyFrom_9 : decode cX4_copyFrom 9 = .ok (.aload_n 0, 1) := by decide +kernel
theorem dX4_copyFrom_10 : decode cX4_copyFrom 10 = .ok (.getfield 15, 3) := by decide +kernel
theorem dX4_copyFrom_13 : decode cX4_copyFrom 13 = .ok (.invokestatic 27, 3) := by decide +kernel
theorem dX4_copyFrom_16 : decode cX4_copyFrom 16 = .ok (.istore_n 3, 1) := by decide +kernel
theorem dX4_copyFrom_17 : decode cX4_copyFrom 17 = .ok (.iload_n 3, 1) := by decide +kernel
theorem dX4_copyFrom_18 : decode cX4_copyFrom 18 = .ok (.aload_n 0, 1) := by decide +kernel
theorem dX4_copyFrom_19 : decode cX4_copyFrom 19 = .ok (.getfield 19, 3) := by decide +kernel
theorem dX4_copyFrom_22 : decode cX4_copyFrom 22 = .ok (.arraylength, 1) := by decide +kernel
theorem dX4_copyFrom_23 : decode cX4_copyFrom 23 = .ok (.if_icmp .le 8, 3) := by decide +kernel
theorem dX4_copyFrom_26 : decode cX4_copyFrom 26 = .ok (.aload_n 0, 1) := by decide +kernel
theorem dX4_copyFrom_27 : decode cX4_copyFrom 27 = .ok (.iload_n 3, 1) := by decide +kernel
theorem dX4_copyFrom_28 : decode cX4_copyFrom 28 = .ok (.invokevirtual 23, 3) := by decide +kernel
theorem dX4_copyFrom_31 : decode cX4_copyFrom 31 = .ok (.iload_n 3, 1) := by decide +kernel
theorem dX4_copyFrom_32 : decode cX4_copyFrom 32 = .ok (.ifCond .le 26, 3) := by decide +kernel
theorem dX4_copyFrom_35 : decode cX4_copyFrom 35 = .ok (.iload_n 3, 1) := by decide +kernel
theorem dX4_copyFrom_36 : decode cX4_copyFrom 36 = .ok (.aload_n 0, 1) := by decide +kernel
theorem dX4_copyFrom_37 : decode cX4_copyFrom 37 = .ok (.getfield 19, 3) := by decide +kernel
theorem dX4_copyFrom_40 : decode cX4_copyFrom 40 = .ok (.arraylength, 1) := by decide +kernel
theorem dX4_copyFrom_41 : decode cX4_copyFrom 41 = .ok (.if_icmp .gt 17, 3) := by decide +kernel
theorem dX4_copyFrom_44 : decode cX4_copyFrom 44 = .ok (.aload_n 1, 1) := by decide +kernel
theorem dX4_copyFrom_45 : decode cX4_copyFrom 45 = .ok (.getfield 19, 3) := by decide +kernel
theorem dX4_copyFrom_48 : decode cX4_copyFrom 48 = .ok (.iconst 0, 1) := by decide +kernel
theorem dX4_copyFrom_49 : decode cX4_copyFrom 49 = .ok (.aload_n 0, 1) := by decide +kernel
theorem dX4_copyFrom_50 : decode cX4_copyFrom 50 = .ok (.getfield 19, 3) := by decide +kernel
theorem dX4_copyFrom_53 : decode cX4_copyFrom 53 = .ok (.iconst 0, 1) := by decide +kernel
theorem dX4_copyFrom_54 : decode cX4_copyFrom 54 = .ok (.iload_n 3, 1) := by decide +kernel
theorem dX4_copyFrom_55 : decode cX4_copyFrom 55 = .ok (.invokestatic 30, 3) := by decide +kernel
theorem dX4_copyFrom_58 : decode cX4_copyFrom 58 = .ok (.return_, 1) := by decide +kernel
def cd_47 : dm_Code := [[dm_ild 1 2, dm_ald 2 1, dm_getf 5 3 1, dm_no, dm_no, dm_alen 6, dm_mn 9, dm_no, dm_no, dm_ald 10 0, dm_getf 13 3 0, dm_no, dm_no, dm_mn 16, dm_no, dm_no],
  [dm_ist 17 3, dm_ild 18 3, dm_ald 19 0, dm_getf 22 3 1, dm_no, dm_no, dm_alen 23, dm_ic_le 26 31, dm_no, dm_no, dm_ald 27 0, dm_ild 28 3, dm_inv 31 48 1 3, dm_no, dm_no, dm_ild 32 3],
  [dm_if_le 35 58, dm_no, dm_no, dm_ild 36 3, dm_ald 37 0, dm_getf 40 3 1, dm_no, dm_no, dm_alen 41, dm_ic_gt 44 58, dm_no, dm_no, dm_ald 45 1, dm_getf 48 3 1, dm_no, dm_no],
  [dm_push 49 (.int 0), dm_ald 50 0, dm_getf 53 3 1, dm_no, dm_no, dm_push 54 (.int 0), dm_ild 55 3, dm_acp 58, dm_no, dm_no, dm_vret]]
theorem tr_47_0 : dm_AllR (dm_Good dm_tb RX4 cX4_copyFrom 4 none false none) 0 [dm_ild 1 2, dm_ald 2 1, dm_getf 5 3 1, dm_no, dm_no, dm_alen 6, dm_mn 9, dm_no, dm_no, dm_ald 10 0, dm_getf 13 3 0, dm_no, dm_no, dm_mn 16, dm_no, dm_no] := dr_c (dg_iload_n (k := 2) rfl dX4_copyFrom_0) <| dr_c (dg_aload_n (k := 1) rfl dX4_copyFrom_1) <| dr_c (dg_getf (T := TX4) (C := RX4) (N := 2) dX4_copyFrom_2 rfl (by decide) iw_X4 wd_111) <| dr_c (dg_no) <| dr_c (dg_no) <| dr_c (dg_alen dX4_copyFrom_5) <| dr_c (dg_mn dX4_copyFrom_6 wd_259 wd_260 wd_64 wd_261) <| dr_c (dg_no) <| dr_c (dg_no) <| dr_c (dg_aload_n (k := 0) rfl dX4_copyFrom_9) <| dr_c (dg_getf (T := TX4) (C := RX4) (N := 2) dX4_copyFrom_10 rfl (by decide) iw_X4 wd_110) <| dr_c (dg_no) <| dr_c (dg_no) <| dr_c (dg_mn dX4_copyFrom_13 wd_259 wd_260 wd_64 wd_261) <| dr_c (dg_no) <| dr_c (dg_no) <| dr_n
theorem tr_47_1 : dm_AllR (dm_Good dm_tb RX4 cX4_copyFrom 4 none false none) 16 [dm_ist 17 3, dm_ild 18 3, dm_ald 19 0, dm_getf 22 3 1, dm_no, dm_no, dm_alen 23, dm_ic_le 26 31, dm_no, dm_no, dm_ald 27 0, dm_ild 28 3, dm_inv 31 48 1 3, dm_no, dm_no, dm_ild 32 3] := dr_c (dg_istore_n (k := 3) rfl (by decide) dX4_copyFrom_16) <| dr_c (dg_iload_n (k := 3) rfl dX4_copyFrom_17) <| dr_c (dg_aload_n (k := 0) rfl dX4_copyFrom_18) <| dr_c (dg_getf (T := TX4) (C := RX4) (N := 2) dX4_copyFrom_19 rfl (by decide) iw_X4 wd_111) <| dr_c (dg_no) <| dr_c (dg_no) <| dr_c (dg_alen dX4_copyFrom_22) <| dr_c (dg_ic_le (by decide) dX4_copyFrom_23) <| dr_c (dg_no) <| dr_c (dg_no) <| dr_c (dg_aload_n (k := 0) rfl dX4_copyFrom_26) <| dr_c (dg_iload_n (k := 3) rfl dX4_copyFrom_27) <| dr_c (dg_inv dX4_copyFrom_28 mo_48 rfl rfl wd_255 wd_257 wd_1 pd_48) <| dr_c (dg_no) <| dr_c (dg_no) <| dr_c (dg_iload_n (k := 3) rfl dX4_copyFrom_31) <| dr_n
theorem tr_47_2 : dm_AllR (dm_Good dm_tb RX4 cX4_copyFrom 4 none false none) 32 [dm_if_le 35 58, dm_no, dm_no, dm_ild 36 3, dm_ald 37 0, dm_getf 40 3 1, dm_no, dm_no, dm_alen 41, dm_ic_gt 44 58, dm_no, dm_no, dm_ald 45 1, dm_getf 48 3 1, dm_no, dm_no] := dr_c (dg_if_le (by decide) dX4_copyFrom_32) <| dr_c (dg_no) <| dr_c (dg_no) <| dr_c (dg_iload_n (k := 3) rfl dX4_copyFrom_35) <| dr_c (dg_aload_n (k := 0) rfl dX4_copyFrom_36) <| dr_c (dg_getf (T := TX4) (C := RX4) (N := 2) dX4_copyFrom_37 rfl (by decide) iw_X4 wd_111) <| dr_c (dg_no) <| dr_c (dg_no) <| dr_c (dg_alen dX4_copyFrom_40) <| dr_c (dg_ic_gt (by decide) dX4_copyFrom_41) <| dr_c (dg_no) <| dr_c (dg_no) <| dr_c (dg_aload_n (k := 1) rfl dX4_copyFrom_44) <| dr_c (dg_getf (T := TX4) (C := RX4) (N := 2) dX4_copyFrom_45 rfl (by decide) iw_X4 wd_111) <| dr_c (dg_no) <| dr_c (dg_no) <| dr_n
theorem tr_47_3 : dm_AllR (dm_Good dm_tb RX4 cX4_copyFrom 4 none false none) 48 [dm_push 49 (.int 0), dm_ald 50 0, dm_getf 53 3 1, dm_no, dm_no, dm_push 54 (.int 0), dm_ild 55 3, dm_acp 58, dm_no, dm_no, dm_vret] := dr_c (dg_iconst (by decide) dX4_copyFrom_48) <| dr_c (dg_aload_n (k := 0) rfl dX4_copyFrom_49) <| dr_c (dg_getf (T := TX4) (C := RX4) (N := 2) dX4_copyFrom_50 rfl (by decide) iw_X4 wd_111) <| dr_c (dg_no) <| dr_c (dg_no) <| dr_c (dg_iconst (by decide) dX4_copyFrom_53) <| dr_c (dg_iload_n (k := 3) rfl dX4_copyFrom_54) <| dr_c (dg_acp dX4_copyFrom_55 wd_711 wd_275 wd_274 wd_70) <| dr_c (dg_no) <| dr_c (dg_no) <| dr_c (dg_vret dX4_copyFrom_58) <| dr_n
theorem tk_47 : dm_AllC (dm_Good dm_tb RX4 cX4_copyFrom 4 none false none) 0 cd_47 := dc_c (by decide) tr_47_0 <| dc_c (by decide) tr_47_1 <| dc_c (by decide) tr_47_2 <| dc_c (by decide) tr_47_3 <| dc_n
theorem dX4_widen_0 : decode cX4_widen 0 = .ok (.aload_n 0, 1) := by decide +kernel
theorem dX4_widen_1 : decode cX4_widen 1 = .ok (.getfield 15, 3) := by decide +kernel
theorem dX4_widen_4 : decode cX4_widen 4 = .ok (.iload_n 1, 1) := by decide +kernel
theorem dX4_widen_5 : decode cX4_widen 5 = .ok (.iconst 2, 1) := by decide +kernel
theorem dX4_widen_6 : decode cX4_widen 6 = .ok (.aload_n 0, 1) := by decide +kernel
theorem dX4_widen_7 : decode cX4_widen 7 = .ok (.getfield 19, 3) := by decide +kernel
theorem dX4_widen_10 : decode cX4_widen 10 = .ok (.arraylength, 1) := by decide +kernel
theorem dX4_widen_11 : decode cX4_widen 11 = .ok (.imul, 1) := by decide +kernel
theorem dX4_widen_12 : decode cX4_widen 12 = .ok (.invokestatic 9, 3) := by decide +kernel
theorem dX4_widen_15 : decode cX4_widen 15 = .ok (.invokestatic 27, 3) := by decide +kernel
theorem dX4_widen_18 : decode cX4_widen 18 = .ok (.istore_n 2, 1) := by decide +kernel
theorem dX4_widen_19 : decode cX4_widen 19 = .ok (.iload_n 2, 1) := by decide +kernel
theorem dX4_widen_20 : decode cX4_widen 20 = .ok (.aload_n 0, 1) := by decide +kernel
theorem dX4_widen_21 : decode cX4_widen 21 = .ok (.getfield 19, 3) := by decide +kernel
theorem dX4_widen_24 : decode cX4_widen 24 = .ok (.arraylength, 1) := by decide +kernel
theorem dX4_widen_25 : decode cX4_widen 25 = .ok (.if_icmp .le 15, 3) := by decide +kernel
theorem dX4_widen_28 : decode cX4_widen 28 = .ok (.aload_n 0, 1) := by decide +kernel
theorem dX4_widen_29 : decode cX4_widen 29 = .ok (.aload_n 0, 1) := by decide +kernel
theorem dX4_widen_30 : decode cX4_widen 30 = .ok (.getfield 19, 3) := by decide +kernel
theorem dX4_widen_33 : decode cX4_widen 33 = .ok (.iload_n 2, 1) := by decide +kernel
theorem dX4_widen_34 : decode cX4_widen 34 = .ok (.invokestatic 36, 3) := by decide +kernel
theorem dX4_widen_37 : decode cX4_widen 37 = .ok (.putfield 19, 3) := by decide +kernel
theorem dX4_widen_40 : decode cX4_widen 40 = .ok (.return_, 1) := by decide +kernel
def cd_48 : dm_Code := [[dm_ald 1 0, dm_getf 4 3 0, dm_no, dm_no, dm_ild 5 1, dm_push 6 (.int 2), dm_ald 7 0, dm_getf 10 3 1, dm_no, dm_no, dm_alen 11, dm_ii 12 (fun x y => x * y), dm_mx 15, dm_no, dm_no, dm_mn 18],
  [dm_no, dm_no, dm_ist 19 2, dm_ild 20 2, dm_ald 21 0, dm_getf 24 3 1, dm_no, dm_no, dm_alen 25, dm_ic_le 28 40, dm_no, dm_no, dm_ald 29 0, dm_ald 30 0, dm_getf 33 3 1, dm_no],
  [dm_no, dm_ild 34 2, dm_ins 37 209 2, dm_no, dm_no, dm_putf 40 3 1 (.array .int), dm_no, dm_no, dm_vret]]
theorem tr_48_0 : dm_AllR (dm_Good dm_tb RX4 cX4_widen 3 none false none) 0 [dm_ald 1 0, dm_getf 4 3 0, dm_no, dm_no, dm_ild 5 1, dm_push 6 (.int 2), dm_ald 7 0, dm_getf 10 3 1, dm_no, dm_no, dm_alen 11, dm_ii 12 (fun x y => x * y), dm_mx 15, dm_no, dm_no, dm_mn 18] := dr_c (dg_aload_n (k := 0) rfl dX4_widen_0) <| dr_c (dg_getf (T := TX4) (C := RX4) (N := 2) dX4_widen_1 rfl (by decide) iw_X4 wd_110) <| dr_c (dg_no) <| dr_c (dg_no) <| dr_c (dg_iload_n (k := 1) rfl dX4_widen_4) <| dr_c (dg_iconst (by decide) dX4_widen_5) <| dr_c (dg_aload_n (k := 0) rfl dX4_widen_6) <| dr_c (dg_getf (T := TX4) (C := RX4) (N := 2) dX4_widen_7 rfl (by decide) iw_X4 wd_111) <| dr_c (dg_no) <| dr_c (dg_no) <| dr_c (dg_alen dX4_widen_10) <| dr_c (dg_imul dX4_widen_11) <| dr_c (dg_mx dX4_widen_12 wd_107 wd_108 wd_64 wd_109) <| dr_c (dg_no) <| dr_c (dg_no) <| dr_c (dg_mn dX4_widen_15 wd_259 wd_260 wd_64 wd_261) <| dr_n
theorem tr_48_1 : dm_AllR (dm_Good dm_tb RX4 cX4_widen 3 none false none) 16 [dm_no, dm_no, dm_ist 19 2, dm_ild 20 2, dm_ald 21 0, dm_getf 24 3 1, dm_no, dm_no, dm_alen 25, dm_ic_le 28 40, dm_no, dm_no, dm_ald 29 0, dm_ald 30 0, dm_getf 33 3 1, dm_no] := dr_c (dg_no) <| dr_c (dg_no) <| dr_c (dg_istore_n (k := 2) rfl (by decide) dX4_widen_18) <| dr_c (dg_iload_n (k := 2) rfl dX4_widen_19) <| dr_c (dg_aload_n (k := 0) rfl dX4_widen_20) <| dr_c (dg_getf (T := TX4) (C := RX4) (N := 2) dX4_widen_21 rfl (by decide) iw_X4 wd_111) <| dr_c (dg_no) <| dr_c (dg_no) <| dr_c (dg_alen dX4_widen_24) <| dr_c (dg_ic_le (by decide) dX4_widen_25) <| dr_c (dg_no) <| dr_c (dg_no) <| dr_c (dg_aload_n (k := 0) rfl dX4_widen_28) <| dr_c (dg_aload_n (k := 0) rfl dX4_widen_29) <| dr_c (dg_getf (T := TX4) (C := RX4) (N := 2) dX4_widen_30 rfl (by decide) iw_X4 wd_111) <| dr_c (dg_no) <| dr_n
theorem tr_48_2 : dm_AllR (dm_Good dm_tb RX4 cX4_widen 3 none false none) 32 [dm_no, dm_ild 34 2, dm_ins 37 209 2, dm_no, dm_no, dm_putf 40 3 1 (.array .int), dm_no, dm_no, dm_vret] := dr_c (dg_no) <| dr_c (dg_iload_n (k := 2) rfl dX4_widen_33) <| dr_c (dg_ins dX4_widen_34 mo_209 wd_262 wd_263 pd_209) <| dr_c (dg_no) <| dr_c (dg_no) <| dr_c (dg_putf (T := TX4) (C := RX4) (N := 2) dX4_widen_37 rfl (by decide) iw_X4 tyX4_ok nmX4 wd_111 rfl rfl) <| dr_c (dg_no) <| dr_c (dg_no) <| dr_c (dg_vret dX4_widen_40) <| dr_n
theorem tk_48 : dm_AllC (dm_Good dm_tb RX4 cX4_widen 3 none false none) 0 cd_48 := dc_c (by decide) tr_48_0 <| dc_c (by decide) tr_48_1 <| dc_c (by decide) tr_48_2 <| dc_n
theorem dX5_init_0 : decode cX5_init 0 = .ok (.aload_n 0, 1) := by decide +kernel
theorem dX5_init_1 : decode cX5_init 1 = .ok (.invokespecial 3, 3) := by decide +kernel
theorem dX5_init_4 : decode cX5_init 4 = .ok (.aload_n 0, 1) := by decide +kernel
theorem dX5_init_5 : decode cX5_init 5 = .ok (.new 9, 3) := by decide +kernel
theorem dX5_init_8 : decode cX5_init 8 = .ok (.dup, 1) := by decide +kernel
theorem dX5_init_9 : decode cX5_init 9 = .ok (.sipush 1000, 3) := by decide +kernel
theorem dX5_init_12 : decode cX5_init 12 = .ok (.invokespecial 11, 3) := by decide +kernel
theorem dX5_init_15 : decode cX5_init 15 = .ok (.putfield 14, 3) := by decide +kernel
theorem dX5_init_18 : decode cX5_init 18 = .ok (.aload_n 0, 1) := by decide +kernel
theorem dX5_init_19 : decode cX5_init 19 = .ok (.new 9, 3) := by decide +kernel
theorem dX5_init_22 : decode cX5_init 22 = .ok (.dup, 1) := by decide +kernel
theorem dX5_init_23 : decode cX5_init 23 = .ok (.sipush 1000, 3) := by decide +kernel
theorem dX5_init_26 : decode cX5_init 26 = .ok (.invokespecial 11, 3) := by decide +kernel
theorem dX5_init_29 : decode cX5_init 29 = .ok (.putfield 20, 3) := by decide +kernel
theorem dX5_init_32 : decode cX5_init 32 = .ok (.return_, 1) := by decide +kernel
def cd_49 : dm_Code := [[dm_ald 1 0, dm_oin 4, dm_no, dm_no, dm_ald 5 0, dm_new 8 3 nf_X4, dm_no, dm_no, dm_dup 9, dm_push 12 (.int 1000), dm_no, dm_no, dm_ini 15 44 1, dm_no, dm_no, dm_putf 18 4 0 (.object "SplitClocks$Numbers")],
  [dm_no, dm_no, dm_ald 19 0, dm_new 22 3 nf_X4, dm_no, dm_no, dm_dup 23, dm_push 26 (.int 1000), dm_no, dm_no, dm_ini 29 44 1, dm_no, dm_no, dm_putf 32 4 1 (.object "SplitClocks$Numbers"), dm_no, dm_no],
  [dm_vret]]
theorem tr_49_0 : dm_AllR (dm_Good dm_tb RX5 cX5_init 1 none true none) 0 [dm_ald 1 0, dm_oin 4, dm_no, dm_no, dm_ald 5 0, dm_new 8 3 nf_X4, dm_no, dm_no, dm_dup 9, dm_push 12 (.int 1000), dm_no, dm_no, dm_ini 15 44 1, dm_no, dm_no, dm_putf 18 4 0 (.object "SplitClocks$Numbers")] := dr_c (dg_aload_n (k := 0) rfl dX5_init_0) <| dr_c (dg_oin dX5_init_1 wd_194 wd_86 wd_87) <| dr_c (dg_no) <| dr_c (dg_no) <| dr_c (dg_aload_n (k := 0) rfl dX5_init_4) <| dr_c (dg_new (T := TX4) (C := RX4) (N := 2) (ty := tyX4) dX5_init_5 rfl iw_X4 tyX4_ok wd_195 wd_101 wd_63 rfl nv_X4 nz_X4) <| dr_c (dg_no) <| dr_c (dg_no) <| dr_c (dg_dup dX5_init_8) <| dr_c (dg_sipush (by decide) dX5_init_9) <| dr_c (dg_no) <| dr_c (dg_no) <| dr_c (dg_ini dX5_init_12 mo_44 rfl rfl wd_196 wd_104 pd_44) <| dr_c (dg_no) <| dr_c (dg_no) <| dr_c (dg_putF (T := TX5) (C := RX5) (N := 2) dX5_init_15 rfl (by decide) iw_X5 tyX5_ok nmX5 wd_197 rfl rfl rfl) <| dr_n
theorem tr_49_1 : dm_AllR (dm_Good dm_tb RX5 cX5_init 1 none true none) 16 [dm_no, dm_no, dm_ald 19 0, dm_new 22 3 nf_X4, dm_no, dm_no, dm_dup 23, dm_push 26 (.int 1000), dm_no, dm_no, dm_ini 29 44 1, dm_no, dm_no, dm_putf 32 4 1 (.object "SplitClocks$Numbers"), dm_no, dm_no] := dr_c (dg_no) <| dr_c (dg_no) <| dr_c (dg_aload_n (k := 0) rfl dX5_init_18) <| dr_c (dg_new (T := TX4) (C := RX4) (N := 2) (ty := tyX4) dX5_init_19 rfl iw_X4 tyX4_ok wd_195 wd_101 wd_63 rfl nv_X4 nz_X4) <| dr_c (dg_no) <| dr_c (dg_no) <| dr_c (dg_dup dX5_init_22) <| dr_c (dg_sipush (by decide) dX5_init_23) <| dr_c (dg_no) <| dr_c (dg_no) <| dr_c (dg_ini dX5_init_26 mo_44 rfl rfl wd_196 wd_104 pd_44) <| dr_c (dg_no) <| dr_c (dg_no) <| dr_c (dg_putF (T := TX5) (C := RX5) (N := 2) dX5_init_29 rfl (by decide) iw_X5 tyX5_ok nmX5 wd_198 rfl rfl rfl) <| dr_c (dg_no) <| dr_c (dg_no) <| dr_n
theorem tr_49_2 : dm_AllR (dm_Good dm_tb RX5 cX5_init 1 none true none) 32 [dm_vret] := dr_c (dg_vret dX5_init_32) <| dr_n
theorem tk_49 : dm_AllC (dm_Good dm_tb RX5 cX5_init 1 none true none) 0 cd_49 := dc_c (by decide) tr_49_0 <| dc_c (by decide) tr_49_1 <| dc_c (by decide) tr_49_2 <| dc_n
theorem dX5_seen_0 : decode cX5_seen 0 = .ok (.aload_n 1, 1) := by decide +kernel
theorem dX5_seen_1 : decode cX5_seen 1 = .ok (.iload_n 2, 1) := by decide +kernel
theorem dX5_seen_2 : decode cX5_seen 2 = .ok (.aload_n 0, 1) := by decide +kernel
theorem dX5_seen_3 : decode cX5_seen 3 = .ok (.getfield 14, 3) := by decide +kernel
theorem dX5_seen_6 : decode cX5_seen 6 = .ok (.invokestatic 23, 3) := by decide +kernel
theorem dX5_seen_9 : decode cX5_seen 9 = .ok (.ifCond .eq 14, 3) := by decide +kernel
theorem dX5_seen_12 : decode cX5_seen 12 = .ok (.aload_n 1, 1) := by decide +kernel
theorem dX5_seen_13 : decode cX5_seen 13 = .ok (.aload_n 0, 1) := by decide +kernel
theorem dX5_seen_14 : decode cX5_seen 14 = .ok (.getfield 14, 3) := by decide +kernel
theorem dX5_seen_17 : decode cX5_seen 17 = .ok (.invokestatic 27, 3) := by decide +kernel
theorem dX5_seen_20 : decode cX5_seen 20 = .ok (.goto 4, 3) := by decide +kernel
theorem dX5_seen_23 : decode cX5_seen 23 = .ok (.iconst (-1), 1) := by decide +kernel
theorem dX5_seen_24 : decode cX5_seen 24 = .ok (.ireturn, 1) := by decide +kernel
def cd_50 : dm_Code := [[dm_ald 1 1, dm_ild 2 2, dm_ald 3 0, dm_getf 6 4 0, dm_no, dm_no, dm_ins 9 53 3, dm_no, dm_no, dm_if_eq 12 23, dm_no, dm_no, dm_ald 13 1, dm_ald 14 0, dm_getf 17 4 0, dm_no],
  [dm_no, dm_ins 20 52 2, dm_no, dm_no, dm_goto 24, dm_no, dm_no, dm_push 24 (.int (-1)), dm_ret .int]]
theorem tr_50_0 : dm_AllR (dm_Good dm_tb RX5 cX5_seen 3 (some .int) false none) 0 [dm_ald 1 1, dm_ild 2 2, dm_ald 3 0, dm_getf 6 4 0, dm_no, dm_no, dm_ins 9 53 3, dm_no, dm_no, dm_if_eq 12 23, dm_no, dm_no, dm_ald 13 1, dm_ald 14 0, dm_getf 17 4 0, dm_no] := dr_c (dg_aload_n (k := 1) rfl dX5_seen_0) <| dr_c (dg_iload_n (k := 2) rfl dX5_seen_1) <| dr_c (dg_aload_n (k := 0) rfl dX5_seen_2) <| dr_c (dg_getf (T := TX5) (C := RX5) (N := 2) dX5_seen_3 rfl (by decide) iw_X5 wd_197) <| dr_c (dg_no) <| dr_c (dg_no) <| dr_c (dg_ins dX5_seen_6 mo_53 wd_588 wd_589 pd_53) <| dr_c (dg_no) <| dr_c (dg_no) <| dr_c (dg_if_eq (by decide) dX5_seen_9) <| dr_c (dg_no) <| dr_c (dg_no) <| dr_c (dg_aload_n (k := 1) rfl dX5_seen_12) <| dr_c (dg_aload_n (k := 0) rfl dX5_seen_13) <| dr_c (dg_getf (T := TX5) (C := RX5) (N := 2) dX5_seen_14 rfl (by decide) iw_X5 wd_197) <| dr_c (dg_no) <| dr_n
theorem tr_50_1 : dm_AllR (dm_Good dm_tb RX5 cX5_seen 3 (some .int) false none) 16 [dm_no, dm_ins 20 52 2, dm_no, dm_no, dm_goto 24, dm_no, dm_no, dm_push 24 (.int (-1)), dm_ret .int] := dr_c (dg_no) <| dr_c (dg_ins dX5_seen_17 mo_52 wd_606 wd_607 pd_52) <| dr_c (dg_no) <| dr_c (dg_no) <| dr_c (dg_goto (by decide) dX5_seen_20) <| dr_c (dg_no) <| dr_c (dg_no) <| dr_c (dg_iconst (by decide) dX5_seen_23) <| dr_c (dg_ret dX5_seen_24) <| dr_n
theorem tk_50 : dm_AllC (dm_Good dm_tb RX5 cX5_seen 3 (some .int) false none) 0 cd_50 := dc_c (by decide) tr_50_0 <| dc_c (by decide) tr_50_1 <| dc_n
