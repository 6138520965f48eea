/-! Law.height and Law.owns as steps -/
theorem wd_831 : Cond.methodLink RL 7 yX10_height ∈ dm_W := dm_in (List.mem_append_right _ (dt_4 (List.mem_of_getElem? (i := 52) (by decide +kernel)))) (by decide +kernel)
theorem wd_832 : Cond.instanceMethod yX10_height ∈ dm_W := dm_in (List.mem_append_right _ (dt_4 (List.mem_of_getElem? (i := 53) (by decide +kernel)))) (by decide +kernel)
theorem wd_833 : Cond.selects RX10 yX10_height yX10_height ∈ dm_W := dm_in (List.mem_append_right _ (dt_4 (List.mem_of_getElem? (i := 54) (by decide +kernel)))) (by decide +kernel)
theorem wd_904 : Cond.methodLink RL 15 yX10_owns ∈ dm_W := dm_in (List.mem_append_right _ (dt_4 (List.mem_of_getElem? (i := 125) (by decide +kernel)))) (by decide +kernel)
theorem wd_905 : Cond.instanceMethod yX10_owns ∈ dm_W := dm_in (List.mem_append_right _ (dt_4 (List.mem_of_getElem? (i := 126) (by decide +kernel)))) (by decide +kernel)
theorem wd_906 : Cond.selects RX10 yX10_owns yX10_owns ∈ dm_W := dm_in (List.mem_append_right _ (dt_4 (List.mem_of_getElem? (i := 127) (by decide +kernel)))) (by decide +kernel)
theorem dL_height_0 : decode cL_height 0 = .ok (.aload 5, 2) := by decide +kernel
theorem dL_height_2 : decode cL_height 2 = .ok (.iconst 0, 1) := by decide +kernel
theorem dL_height_3 : decode cL_height 3 = .ok (.aload_n 0, 1) := by decide +kernel
theorem dL_height_4 : decode cL_height 4 = .ok (.iload_n 1, 1) := by decide +kernel
theorem dL_height_5 : decode cL_height 5 = .ok (.lload_n 2, 1) := by decide +kernel
theorem dL_height_6 : decode cL_height 6 = .ok (.iload 4, 2) := by decide +kernel
theorem dL_height_8 : decode cL_height 8 = .ok (.invokevirtual 7, 3) := by decide +kernel
theorem dL_height_11 : decode cL_height 11 = .ok (.i2l, 1) := by decide +kernel
theorem dL_height_12 : decode cL_height 12 = .ok (.lastore, 1) := by decide +kernel
theorem dL_height_13 : decode cL_height 13 = .ok (.goto 7, 3) := by decide +kernel
theorem dL_height_16 : decode cL_height 16 = .ok (.astore 6, 2) := by decide +kernel
theorem dL_height_18 : decode cL_height 18 = .ok (.iconst 1, 1) := by decide +kernel
theorem dL_height_19 : decode cL_height 19 = .ok (.ireturn, 1) := by decide +kernel
theorem dL_height_20 : decode cL_height 20 = .ok (.iconst 0, 1) := by decide +kernel
theorem dL_height_21 : decode cL_height 21 = .ok (.ireturn, 1) := by decide +kernel
def cdLH : dm_Code := [[dm_ald 2 5, dm_no, dm_push 3 (.int 0), dm_ald 4 0, dm_ild 5 1, dm_lld 6 2, dm_ild 8 4, dm_no, dm_inv 11 108 3 7, dm_no, dm_no, dm_i1 12 (fun x => .long x.toInt64), dm_last 13, dm_goto 20, dm_no, dm_no],
  [dm_ast 18 6, dm_no, dm_push 19 (.int 1), dm_ret .int, dm_push 21 (.int 0), dm_ret .int]]
theorem tr_LH_0 : dm_AllR (dm_Good dm_tb RL cL_height 7 (some .int) false none) 0 [dm_ald 2 5, dm_no, dm_push 3 (.int 0), dm_ald 4 0, dm_ild 5 1, dm_lld 6 2, dm_ild 8 4, dm_no, dm_inv 11 108 3 7, dm_no, dm_no, dm_i1 12 (fun x => .long x.toInt64), dm_last 13, dm_goto 20, dm_no, dm_no] := dr_c (dg_aload dL_height_0) <| dr_c (dg_no) <| dr_c (dg_iconst (by decide) dL_height_2) <| dr_c (dg_aload_n (k := 0) rfl dL_height_3) <| dr_c (dg_iload_n (k := 1) rfl dL_height_4) <| dr_c (dg_lload_n (k := 2) rfl dL_height_5) <| dr_c (dg_iload dL_height_6) <| dr_c (dg_no) <| dr_c (dg_inv dL_height_8 mo_108 rfl rfl wd_831 wd_832 wd_833 pd_108) <| dr_c (dg_no) <| dr_c (dg_no) <| dr_c (dg_i2l dL_height_11) <| dr_c (dg_last dL_height_12) <| dr_c (dg_goto (by decide) dL_height_13) <| dr_c (dg_no) <| dr_c (dg_no) <| dr_n
theorem tr_LH_1 : dm_AllR (dm_Good dm_tb RL cL_height 7 (some .int) false none) 16 [dm_ast 18 6, dm_no, dm_push 19 (.int 1), dm_ret .int, dm_push 21 (.int 0), dm_ret .int] := dr_c (dg_astore (by decide) dL_height_16) <| dr_c (dg_no) <| dr_c (dg_iconst (by decide) dL_height_18) <| dr_c (dg_ret dL_height_19) <| dr_c (dg_iconst (by decide) dL_height_20) <| dr_c (dg_ret dL_height_21) <| dr_n
theorem tk_LH : dm_AllC (dm_Good dm_tb RL cL_height 7 (some .int) false none) 0 cdLH := dc_c (by simp) tr_LH_0 <| dc_c (by simp) tr_LH_1 <| dc_n
theorem dL_owns_0 : decode cL_owns 0 = .ok (.aload 5, 2) := by decide +kernel
theorem dL_owns_2 : decode cL_owns 2 = .ok (.iconst 0, 1) := by decide +kernel
theorem dL_owns_3 : decode cL_owns 3 = .ok (.aload_n 0, 1) := by decide +kernel
theorem dL_owns_4 : decode cL_owns 4 = .ok (.iload_n 1, 1) := by decide +kernel
theorem dL_owns_5 : decode cL_owns 5 = .ok (.lload_n 2, 1) := by decide +kernel
theorem dL_owns_6 : decode cL_owns 6 = .ok (.iload 4, 2) := by decide +kernel
theorem dL_owns_8 : decode cL_owns 8 = .ok (.invokevirtual 15, 3) := by decide +kernel
theorem dL_owns_11 : decode cL_owns 11 = .ok (.ifCond .eq 7, 3) := by decide +kernel
theorem dL_owns_14 : decode cL_owns 14 = .ok (.lconst 1, 1) := by decide +kernel
theorem dL_owns_15 : decode cL_owns 15 = .ok (.goto 4, 3) := by decide +kernel
theorem dL_owns_18 : decode cL_owns 18 = .ok (.lconst 0, 1) := by decide +kernel
theorem dL_owns_19 : decode cL_owns 19 = .ok (.lastore, 1) := by decide +kernel
theorem dL_owns_20 : decode cL_owns 20 = .ok (.goto 7, 3) := by decide +kernel
theorem dL_owns_23 : decode cL_owns 23 = .ok (.astore 6, 2) := by decide +kernel
theorem dL_owns_25 : decode cL_owns 25 = .ok (.iconst 1, 1) := by decide +kernel
theorem dL_owns_26 : decode cL_owns 26 = .ok (.ireturn, 1) := by decide +kernel
theorem dL_owns_27 : decode cL_owns 27 = .ok (.iconst 0, 1) := by decide +kernel
theorem dL_owns_28 : decode cL_owns 28 = .ok (.ireturn, 1) := by decide +kernel
def cdLO : dm_Code := [[dm_ald 2 5, dm_no, dm_push 3 (.int 0), dm_ald 4 0, dm_ild 5 1, dm_lld 6 2, dm_ild 8 4, dm_no, dm_inv 11 109 3 7, dm_no, dm_no, dm_if_eq 14 18, dm_no, dm_no, dm_push 15 (.long 1), dm_goto 19],
  [dm_no, dm_no, dm_push 19 (.long 0), dm_last 20, dm_goto 27, dm_no, dm_no, dm_ast 25 6, dm_no, dm_push 26 (.int 1), dm_ret .int, dm_push 28 (.int 0), dm_ret .int]]
theorem tr_LO_0 : dm_AllR (dm_Good dm_tb RL cL_owns 7 (some .int) false none) 0 [dm_ald 2 5, dm_no, dm_push 3 (.int 0), dm_ald 4 0, dm_ild 5 1, dm_lld 6 2, dm_ild 8 4, dm_no, dm_inv 11 109 3 7, dm_no, dm_no, dm_if_eq 14 18, dm_no, dm_no, dm_push 15 (.long 1), dm_goto 19] := dr_c (dg_aload dL_owns_0) <| dr_c (dg_no) <| dr_c (dg_iconst (by decide) dL_owns_2) <| dr_c (dg_aload_n (k := 0) rfl dL_owns_3) <| dr_c (dg_iload_n (k := 1) rfl dL_owns_4) <| dr_c (dg_lload_n (k := 2) rfl dL_owns_5) <| dr_c (dg_iload dL_owns_6) <| dr_c (dg_no) <| dr_c (dg_inv dL_owns_8 mo_109 rfl rfl wd_904 wd_905 wd_906 pd_109) <| dr_c (dg_no) <| dr_c (dg_no) <| dr_c (dg_if_eq (by decide) dL_owns_11) <| dr_c (dg_no) <| dr_c (dg_no) <| dr_c (dg_lconst (by decide) dL_owns_14) <| dr_c (dg_goto (by decide) dL_owns_15) <| dr_n
theorem tr_LO_1 : dm_AllR (dm_Good dm_tb RL cL_owns 7 (some .int) false none) 16 [dm_no, dm_no, dm_push 19 (.long 0), dm_last 20, dm_goto 27, dm_no, dm_no, dm_ast 25 6, dm_no, dm_push 26 (.int 1), dm_ret .int, dm_push 28 (.int 0), dm_ret .int] := dr_c (dg_no) <| dr_c (dg_no) <| dr_c (dg_lconst (by decide) dL_owns_18) <| dr_c (dg_last dL_owns_19) <| dr_c (dg_goto (by decide) dL_owns_20) <| dr_c (dg_no) <| dr_c (dg_no) <| dr_c (dg_astore (by decide) dL_owns_23) <| dr_c (dg_no) <| dr_c (dg_iconst (by decide) dL_owns_25) <| dr_c (dg_ret dL_owns_26) <| dr_c (dg_iconst (by decide) dL_owns_27) <| dr_c (dg_ret dL_owns_28) <| dr_n
theorem tk_LO : dm_AllC (dm_Good dm_tb RL cL_owns 7 (some .int) false none) 0 cdLO := dc_c (by simp) tr_LO_0 <| dc_c (by simp) tr_LO_1 <| dc_n
