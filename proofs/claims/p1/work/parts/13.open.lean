/-! calls with unknown arguments on the fresh objects -/
noncomputable def mm_1 : dm_Mem := ev_M (dm_ex dm_tb dm_cd 2000000 39 17 [.ref 1, .int 0] ev_3)
noncomputable def mm_2 : dm_Mem := ev_M (dm_ex dm_tb dm_cd 2000000 39 137 [.ref 68, .int 0] mm_1)
noncomputable def mm_3 : dm_Mem := ev_M (dm_ex dm_tb dm_cd 2000000 38 26 [.ref 1, .int 0] ev_3)
noncomputable def mm_4 : dm_Mem := ev_M (dm_ex dm_tb dm_cd 2000000 39 138 [.ref 68, .int 0] mm_3)
noncomputable def mm_5 : dm_Mem := ev_M (dm_ex dm_tb dm_cd 2000000 39 26 [.ref 1, .int 0] ev_3)
noncomputable def mm_6 : dm_Mem := ev_M (dm_ex dm_tb dm_cd 2000000 39 138 [.ref 68, .int 0] mm_5)
noncomputable def mm_7 : dm_Mem := ev_M (dm_ex dm_tb dm_cd 2000000 38 17 [.ref 1, .int 0] ev_3)
noncomputable def mm_8 : dm_Mem := ev_M (dm_ex dm_tb dm_cd 2000000 39 137 [.ref 68, .int 0] mm_7)
noncomputable def mm_9 : dm_Mem := ev_M (dm_ex dm_tb dm_cd 2000000 39 105 [.ref 0, .int 0, .int 0] ev_3)
noncomputable def mm_10 : dm_Mem := ev_M (dm_ex dm_tb dm_cd 2000000 39 137 [.ref 68, .int 0] mm_9)
noncomputable def mm_11 : dm_Mem := ev_M (dm_ex dm_tb dm_cd 2000000 39 137 [.ref 68, .int 0] mm_10)
noncomputable def mm_12 : dm_Mem := ev_M (dm_ex dm_tb dm_cd 2000000 39 174 [.ref 68, .int 0, .int 0] mm_11)
noncomputable def mm_13 : dm_Mem := ev_M (dm_ex dm_tb dm_cd 2000000 39 142 [.ref 68, .int 0] mm_2)
noncomputable def mm_14 : dm_Mem := ev_M (dm_ex dm_tb dm_cd 2000000 39 143 [.ref 68, .int 0] mm_13)
noncomputable def mm_15 : dm_Mem := ev_M (dm_ex dm_tb dm_cd 2000000 39 17 [.ref 1, .int 0] mm_1)
noncomputable def mm_16 : dm_Mem := ev_M (dm_ex dm_tb dm_cd 2000000 39 137 [.ref 68, .int 0] mm_15)
noncomputable def mm_17 : dm_Mem := ev_M (dm_ex dm_tb dm_cd 2000000 39 137 [.ref 68, .int 0] mm_16)
noncomputable def mm_18 : dm_Mem := ev_M (dm_ex dm_tb dm_cd 2000000 38 19 [.ref 1, .int 0] mm_15)
noncomputable def mm_19 : dm_Mem := ev_M (dm_ex dm_tb dm_cd 2000000 37 75 [.ref 2, .int 0] mm_18)
noncomputable def mm_20 : dm_Mem := ev_M (dm_ex dm_tb dm_cd 2000000 37 77 [.ref 2, .int 0] mm_19)
noncomputable def mm_21 : dm_Mem := ev_M (dm_ex dm_tb dm_cd 2000000 38 19 [.ref 1, .int 0] mm_20)
noncomputable def mm_22 : dm_Mem := ev_M (dm_ex dm_tb dm_cd 2000000 37 75 [.ref 2, .int 0] mm_21)
noncomputable def mm_23 : dm_Mem := ev_M (dm_ex dm_tb dm_cd 2000000 37 77 [.ref 2, .int 0] mm_22)
noncomputable def mm_24 : dm_Mem := ev_M (dm_ex dm_tb dm_cd 2000000 39 137 [.ref 68, .int 0] mm_23)
noncomputable def mm_25 : dm_Mem := ev_M (dm_ex dm_tb dm_cd 2000000 39 137 [.ref 68, .int 0] mm_24)
set_option maxRecDepth 100000 in
theorem fa_0 : (dm_fld ev_3 0 7 0 = some (.ref 1)) ∧ (dm_fld ev_3 1 2 9 = some (.int 1)) ∧ (dm_isO ev_3 1 2 = true) ∧ (dm_fld ev_3 68 8 40 = some (.int 0)) ∧ (dm_fld ev_3 68 8 15 = some (.int 1)) ∧ (dm_isO ev_3 68 8 = true) ∧ ((dm_ex dm_tb dm_cd 2000000 39 17 [.ref 1, .int 0] ev_3).map (fun q => q.1) = some (some (.int 1))) ∧ (dm_fld mm_1 0 7 0 = some (.ref 1)) ∧ (dm_fld mm_1 1 2 9 = some (.int 1)) ∧ (dm_isO mm_1 1 2 = true) ∧ (dm_fld mm_1 68 8 40 = some (.int 0)) ∧ ((dm_ex dm_tb dm_cd 2000000 39 137 [.ref 68, .int 0] mm_1).map (fun q => q.1) = some (some (.int 1))) ∧ (dm_isO mm_1 68 8 = true) ∧ (dm_fld mm_2 68 8 15 = some (.int 1)) ∧ (dm_isO mm_2 68 8 = true) ∧ (dm_isO ev_3 0 7 = true) ∧ ((dm_ex dm_tb dm_cd 2000000 38 26 [.ref 1, .int 0] ev_3).map (fun q => q.1) = some (some (.int 1))) ∧ (dm_fld mm_3 0 7 0 = some (.ref 1)) ∧ (dm_fld mm_3 1 2 9 = some (.int 1)) ∧ (dm_isO mm_3 1 2 = true) ∧ (dm_fld mm_3 68 8 40 = some (.int 0)) ∧ ((dm_ex dm_tb dm_cd 2000000 39 138 [.ref 68, .int 0] mm_3).map (fun q => q.1) = some (some (.int 1))) ∧ (dm_isO mm_3 68 8 = true) ∧ (dm_fld mm_4 68 8 15 = some (.int 1)) ∧ (dm_isO mm_4 68 8 = true) ∧ ((dm_ex dm_tb dm_cd 2000000 39 26 [.ref 1, .int 0] ev_3).map (fun q => q.1) = some (some (.int 1))) ∧ (dm_fld mm_5 0 7 0 = some (.ref 1)) ∧ (dm_fld mm_5 1 2 9 = some (.int 1)) ∧ (dm_isO mm_5 1 2 = true) ∧ (dm_fld mm_5 68 8 40 = some (.int 0)) ∧ ((dm_ex dm_tb dm_cd 2000000 39 138 [.ref 68, .int 0] mm_5).map (fun q => q.1) = some (some (.int 1))) ∧ (dm_isO mm_5 68 8 = true) ∧ (dm_fld mm_6 68 8 15 = some (.int 1)) ∧ (dm_isO mm_6 68 8 = true) ∧ ((dm_ex dm_tb dm_cd 2000000 38 17 [.ref 1, .int 0] ev_3).map (fun q => q.1) = some (some (.int 1))) ∧ (dm_fld mm_7 0 7 0 = some (.ref 1)) ∧ (dm_fld mm_7 1 2 9 = some (.int 1)) ∧ (dm_isO mm_7 1 2 = true) ∧ (dm_fld mm_7 68 8 40 = some (.int 0)) ∧ ((dm_ex dm_tb dm_cd 2000000 39 137 [.ref 68, .int 0] mm_7).map (fun q => q.1) = some (some (.int 1))) := by decide +kernel
theorem ff_1 : dm_fld ev_3 0 7 0 = some (.ref 1) := fa_0.1
theorem ff_2 : dm_fld ev_3 1 2 9 = some (.int 1) := fa_0.2.1
theorem ff_3 : dm_isO ev_3 1 2 = true := fa_0.2.2.1
theorem ff_4 : dm_fld ev_3 68 8 40 = some (.int 0) := fa_0.2.2.2.1
theorem ff_5 : dm_fld ev_3 68 8 15 = some (.int 1) := fa_0.2.2.2.2.1
theorem ff_6 : dm_isO ev_3 68 8 = true := fa_0.2.2.2.2.2.1
theorem mc_1 : (dm_ex dm_tb dm_cd 2000000 39 17 [.ref 1, .int 0] ev_3).map (fun q => q.1) = some (some (.int 1)) := fa_0.2.2.2.2.2.2.1
theorem ff_7 : dm_fld mm_1 0 7 0 = some (.ref 1) := fa_0.2.2.2.2.2.2.2.1
theorem ff_8 : dm_fld mm_1 1 2 9 = some (.int 1) := fa_0.2.2.2.2.2.2.2.2.1
theorem ff_9 : dm_isO mm_1 1 2 = true := fa_0.2.2.2.2.2.2.2.2.2.1
theorem ff_10 : dm_fld mm_1 68 8 40 = some (.int 0) := fa_0.2.2.2.2.2.2.2.2.2.2.1
theorem mc_2 : (dm_ex dm_tb dm_cd 2000000 39 137 [.ref 68, .int 0] mm_1).map (fun q => q.1) = some (some (.int 1)) := fa_0.2.2.2.2.2.2.2.2.2.2.2.1
theorem ff_11 : dm_isO mm_1 68 8 = true := fa_0.2.2.2.2.2.2.2.2.2.2.2.2.1
theorem ff_12 : dm_fld mm_2 68 8 15 = some (.int 1) := fa_0.2.2.2.2.2.2.2.2.2.2.2.2.2.1
theorem ff_13 : dm_isO mm_2 68 8 = true := fa_0.2.2.2.2.2.2.2.2.2.2.2.2.2.2.1
theorem ff_14 : dm_isO ev_3 0 7 = true := fa_0.2.2.2.2.2.2.2.2.2.2.2.2.2.2.2.1
theorem mc_3 : (dm_ex dm_tb dm_cd 2000000 38 26 [.ref 1, .int 0] ev_3).map (fun q => q.1) = some (some (.int 1)) := fa_0.2.2.2.2.2.2.2.2.2.2.2.2.2.2.2.2.1
theorem ff_15 : dm_fld mm_3 0 7 0 = some (.ref 1) := fa_0.2.2.2.2.2.2.2.2.2.2.2.2.2.2.2.2.2.1
theorem ff_16 : dm_fld mm_3 1 2 9 = some (.int 1) := fa_0.2.2.2.2.2.2.2.2.2.2.2.2.2.2.2.2.2.2.1
theorem ff_17 : dm_isO mm_3 1 2 = true := fa_0.2.2.2.2.2.2.2.2.2.2.2.2.2.2.2.2.2.2.2.1
theorem ff_18 : dm_fld mm_3 68 8 40 = some (.int 0) := fa_0.2.2.2.2.2.2.2.2.2.2.2.2.2.2.2.2.2.2.2.2.1
theorem mc_4 : (dm_ex dm_tb dm_cd 2000000 39 138 [.ref 68, .int 0] mm_3).map (fun q => q.1) = some (some (.int 1)) := fa_0.2.2.2.2.2.2.2.2.2.2.2.2.2.2.2.2.2.2.2.2.2.1
theorem ff_19 : dm_isO mm_3 68 8 = true := fa_0.2.2.2.2.2.2.2.2.2.2.2.2.2.2.2.2.2.2.2.2.2.2.1
theorem ff_20 : dm_fld mm_4 68 8 15 = some (.int 1) := fa_0.2.2.2.2.2.2.2.2.2.2.2.2.2.2.2.2.2.2.2.2.2.2.2.1
theorem ff_21 : dm_isO mm_4 68 8 = true := fa_0.2.2.2.2.2.2.2.2.2.2.2.2.2.2.2.2.2.2.2.2.2.2.2.2.1
theorem mc_5 : (dm_ex dm_tb dm_cd 2000000 39 26 [.ref 1, .int 0] ev_3).map (fun q => q.1) = some (some (.int 1)) := fa_0.2.2.2.2.2.2.2.2.2.2.2.2.2.2.2.2.2.2.2.2.2.2.2.2.2.1
theorem ff_22 : dm_fld mm_5 0 7 0 = some (.ref 1) := fa_0.2.2.2.2.2.2.2.2.2.2.2.2.2.2.2.2.2.2.2.2.2.2.2.2.2.2.1
theorem ff_23 : dm_fld mm_5 1 2 9 = some (.int 1) := fa_0.2.2.2.2.2.2.2.2.2.2.2.2.2.2.2.2.2.2.2.2.2.2.2.2.2.2.2.1
theorem ff_24 : dm_isO mm_5 1 2 = true := fa_0.2.2.2.2.2.2.2.2.2.2.2.2.2.2.2.2.2.2.2.2.2.2.2.2.2.2.2.2.1
theorem ff_25 : dm_fld mm_5 68 8 40 = some (.int 0) := fa_0.2.2.2.2.2.2.2.2.2.2.2.2.2.2.2.2.2.2.2.2.2.2.2.2.2.2.2.2.2.1
theorem mc_6 : (dm_ex dm_tb dm_cd 2000000 39 138 [.ref 68, .int 0] mm_5).map (fun q => q.1) = some (some (.int 1)) := fa_0.2.2.2.2.2.2.2.2.2.2.2.2.2.2.2.2.2.2.2.2.2.2.2.2.2.2.2.2.2.2.1
theorem ff_26 : dm_isO mm_5 68 8 = true := fa_0.2.2.2.2.2.2.2.2.2.2.2.2.2.2.2.2.2.2.2.2.2.2.2.2.2.2.2.2.2.2.2.1
theorem ff_27 : dm_fld mm_6 68 8 15 = some (.int 1) := fa_0.2.2.2.2.2.2.2.2.2.2.2.2.2.2.2.2.2.2.2.2.2.2.2.2.2.2.2.2.2.2.2.2.1
theorem ff_28 : dm_isO mm_6 68 8 = true := fa_0.2.2.2.2.2.2.2.2.2.2.2.2.2.2.2.2.2.2.2.2.2.2.2.2.2.2.2.2.2.2.2.2.2.1
theorem mc_7 : (dm_ex dm_tb dm_cd 2000000 38 17 [.ref 1, .int 0] ev_3).map (fun q => q.1) = some (some (.int 1)) := fa_0.2.2.2.2.2.2.2.2.2.2.2.2.2.2.2.2.2.2.2.2.2.2.2.2.2.2.2.2.2.2.2.2.2.2.1
theorem ff_29 : dm_fld mm_7 0 7 0 = some (.ref 1) := fa_0.2.2.2.2.2.2.2.2.2.2.2.2.2.2.2.2.2.2.2.2.2.2.2.2.2.2.2.2.2.2.2.2.2.2.2.1
theorem ff_30 : dm_fld mm_7 1 2 9 = some (.int 1) := fa_0.2.2.2.2.2.2.2.2.2.2.2.2.2.2.2.2.2.2.2.2.2.2.2.2.2.2.2.2.2.2.2.2.2.2.2.2.1
theorem ff_31 : dm_isO mm_7 1 2 = true := fa_0.2.2.2.2.2.2.2.2.2.2.2.2.2.2.2.2.2.2.2.2.2.2.2.2.2.2.2.2.2.2.2.2.2.2.2.2.2.1
theorem ff_32 : dm_fld mm_7 68 8 40 = some (.int 0) := fa_0.2.2.2.2.2.2.2.2.2.2.2.2.2.2.2.2.2.2.2.2.2.2.2.2.2.2.2.2.2.2.2.2.2.2.2.2.2.2.1
theorem mc_8 : (dm_ex dm_tb dm_cd 2000000 39 137 [.ref 68, .int 0] mm_7).map (fun q => q.1) = some (some (.int 1)) := fa_0.2.2.2.2.2.2.2.2.2.2.2.2.2.2.2.2.2.2.2.2.2.2.2.2.2.2.2.2.2.2.2.2.2.2.2.2.2.2.2
set_option maxRecDepth 100000 in
theorem fa_1 : (dm_isO mm_7 68 8 = true) ∧ (dm_fld mm_8 68 8 15 = some (.int 1)) ∧ (dm_isO mm_8 68 8 = true) ∧ ((dm_ex dm_tb dm_cd 2000000 39 105 [.ref 0, .int 0, .int 0] ev_3).map (fun q => q.1) = some (some (.int 0))) ∧ (dm_fld mm_9 68 8 40 = some (.int 0)) ∧ ((dm_ex dm_tb dm_cd 2000000 39 137 [.ref 68, .int 0] mm_9).map (fun q => q.1) = some (some (.int 1))) ∧ (dm_isO mm_9 68 8 = true) ∧ ((dm_ex dm_tb dm_cd 2000000 39 137 [.ref 68, .int 0] mm_10).map (fun q => q.1) = some (some (.int 1))) ∧ (dm_isO mm_10 68 8 = true) ∧ ((dm_ex dm_tb dm_cd 2000000 39 174 [.ref 68, .int 0, .int 0] mm_11).map (fun q => q.1) = some (some (.int 1))) ∧ (dm_isO mm_11 68 8 = true) ∧ ((dm_ex dm_tb dm_cd 2000000 39 142 [.ref 68, .int 0] mm_2).map (fun q => q.1) = some (none)) ∧ ((dm_ex dm_tb dm_cd 2000000 39 143 [.ref 68, .int 0] mm_13).map (fun q => q.1) = some (none)) ∧ (dm_isO mm_13 68 8 = true) ∧ (dm_fld ev_3 0 7 4 = some (.ref 61)) ∧ (dm_fld ev_3 61 1 1 = some (.int 0)) ∧ (dm_isO ev_3 61 1 = true) ∧ (dm_fld ev_3 68 8 36 = some (.int 0)) ∧ ((dm_ex dm_tb dm_cd 2000000 39 17 [.ref 1, .int 0] mm_1).map (fun q => q.1) = some (some (.int 1))) ∧ (dm_fld mm_15 68 8 40 = some (.int 0)) ∧ ((dm_ex dm_tb dm_cd 2000000 39 137 [.ref 68, .int 0] mm_15).map (fun q => q.1) = some (some (.int 1))) ∧ (dm_isO mm_15 68 8 = true) ∧ ((dm_ex dm_tb dm_cd 2000000 39 137 [.ref 68, .int 0] mm_16).map (fun q => q.1) = some (some (.int 1))) ∧ (dm_isO mm_16 68 8 = true) ∧ (dm_fld mm_15 0 7 0 = some (.ref 1)) ∧ (dm_fld mm_15 1 2 0 = some (.ref 2)) ∧ ((dm_ex dm_tb dm_cd 2000000 38 19 [.ref 1, .int 0] mm_15).map (fun q => q.1) = some (some (.int 0))) ∧ (dm_isO mm_15 1 2 = true) ∧ ((dm_ex dm_tb dm_cd 2000000 37 75 [.ref 2, .int 0] mm_18).map (fun q => q.1) = some (some (.int 0))) ∧ (dm_isO mm_18 2 6 = true) ∧ ((dm_ex dm_tb dm_cd 2000000 37 77 [.ref 2, .int 0] mm_19).map (fun q => q.1) = some (some (.int 1))) ∧ (dm_isO mm_19 2 6 = true) ∧ (dm_fld mm_20 0 7 0 = some (.ref 1)) ∧ (dm_fld mm_20 1 2 0 = some (.ref 2)) ∧ ((dm_ex dm_tb dm_cd 2000000 38 19 [.ref 1, .int 0] mm_20).map (fun q => q.1) = some (some (.int 0))) ∧ (dm_isO mm_20 1 2 = true) ∧ ((dm_ex dm_tb dm_cd 2000000 37 75 [.ref 2, .int 0] mm_21).map (fun q => q.1) = some (some (.int 0))) ∧ (dm_isO mm_21 2 6 = true) ∧ ((dm_ex dm_tb dm_cd 2000000 37 77 [.ref 2, .int 0] mm_22).map (fun q => q.1) = some (some (.int 1))) ∧ (dm_isO mm_22 2 6 = true) := by decide +kernel
theorem ff_33 : dm_isO mm_7 68 8 = true := fa_1.1
theorem ff_34 : dm_fld mm_8 68 8 15 = some (.int 1) := fa_1.2.1
theorem ff_35 : dm_isO mm_8 68 8 = true := fa_1.2.2.1
theorem mc_9 : (dm_ex dm_tb dm_cd 2000000 39 105 [.ref 0, .int 0, .int 0] ev_3).map (fun q => q.1) = some (some (.int 0)) := fa_1.2.2.2.1
theorem ff_36 : dm_fld mm_9 68 8 40 = some (.int 0) := fa_1.2.2.2.2.1
theorem mc_10 : (dm_ex dm_tb dm_cd 2000000 39 137 [.ref 68, .int 0] mm_9).map (fun q => q.1) = some (some (.int 1)) := fa_1.2.2.2.2.2.1
theorem ff_37 : dm_isO mm_9 68 8 = true := fa_1.2.2.2.2.2.2.1
theorem mc_11 : (dm_ex dm_tb dm_cd 2000000 39 137 [.ref 68, .int 0] mm_10).map (fun q => q.1) = some (some (.int 1)) := fa_1.2.2.2.2.2.2.2.1
theorem ff_38 : dm_isO mm_10 68 8 = true := fa_1.2.2.2.2.2.2.2.2.1
theorem mc_12 : (dm_ex dm_tb dm_cd 2000000 39 174 [.ref 68, .int 0, .int 0] mm_11).map (fun q => q.1) = some (some (.int 1)) := fa_1.2.2.2.2.2.2.2.2.2.1
theorem ff_39 : dm_isO mm_11 68 8 = true := fa_1.2.2.2.2.2.2.2.2.2.2.1
theorem mc_13 : (dm_ex dm_tb dm_cd 2000000 39 142 [.ref 68, .int 0] mm_2).map (fun q => q.1) = some (none) := fa_1.2.2.2.2.2.2.2.2.2.2.2.1
theorem mc_14 : (dm_ex dm_tb dm_cd 2000000 39 143 [.ref 68, .int 0] mm_13).map (fun q => q.1) = some (none) := fa_1.2.2.2.2.2.2.2.2.2.2.2.2.1
theorem ff_40 : dm_isO mm_13 68 8 = true := fa_1.2.2.2.2.2.2.2.2.2.2.2.2.2.1
theorem ff_41 : dm_fld ev_3 0 7 4 = some (.ref 61) := fa_1.2.2.2.2.2.2.2.2.2.2.2.2.2.2.1
theorem ff_42 : dm_fld ev_3 61 1 1 = some (.int 0) := fa_1.2.2.2.2.2.2.2.2.2.2.2.2.2.2.2.1
theorem ff_43 : dm_isO ev_3 61 1 = true := fa_1.2.2.2.2.2.2.2.2.2.2.2.2.2.2.2.2.1
theorem ff_44 : dm_fld ev_3 68 8 36 = some (.int 0) := fa_1.2.2.2.2.2.2.2.2.2.2.2.2.2.2.2.2.2.1
theorem mc_15 : (dm_ex dm_tb dm_cd 2000000 39 17 [.ref 1, .int 0] mm_1).map (fun q => q.1) = some (some (.int 1)) := fa_1.2.2.2.2.2.2.2.2.2.2.2.2.2.2.2.2.2.2.1
theorem ff_45 : dm_fld mm_15 68 8 40 = some (.int 0) := fa_1.2.2.2.2.2.2.2.2.2.2.2.2.2.2.2.2.2.2.2.1
theorem mc_16 : (dm_ex dm_tb dm_cd 2000000 39 137 [.ref 68, .int 0] mm_15).map (fun q => q.1) = some (some (.int 1)) := fa_1.2.2.2.2.2.2.2.2.2.2.2.2.2.2.2.2.2.2.2.2.1
theorem ff_46 : dm_isO mm_15 68 8 = true := fa_1.2.2.2.2.2.2.2.2.2.2.2.2.2.2.2.2.2.2.2.2.2.1
theorem mc_17 : (dm_ex dm_tb dm_cd 2000000 39 137 [.ref 68, .int 0] mm_16).map (fun q => q.1) = some (some (.int 1)) := fa_1.2.2.2.2.2.2.2.2.2.2.2.2.2.2.2.2.2.2.2.2.2.2.1
theorem ff_47 : dm_isO mm_16 68 8 = true := fa_1.2.2.2.2.2.2.2.2.2.2.2.2.2.2.2.2.2.2.2.2.2.2.2.1
theorem ff_48 : dm_fld mm_15 0 7 0 = some (.ref 1) := fa_1.2.2.2.2.2.2.2.2.2.2.2.2.2.2.2.2.2.2.2.2.2.2.2.2.1
theorem ff_49 : dm_fld mm_15 1 2 0 = some (.ref 2) := fa_1.2.2.2.2.2.2.2.2.2.2.2.2.2.2.2.2.2.2.2.2.2.2.2.2.2.1
theorem mc_18 : (dm_ex dm_tb dm_cd 2000000 38 19 [.ref 1, .int 0] mm_15).map (fun q => q.1) = some (some (.int 0)) := fa_1.2.2.2.2.2.2.2.2.2.2.2.2.2.2.2.2.2.2.2.2.2.2.2.2.2.2.1
theorem ff_50 : dm_isO mm_15 1 2 = true := fa_1.2.2.2.2.2.2.2.2.2.2.2.2.2.2.2.2.2.2.2.2.2.2.2.2.2.2.2.1
theorem mc_19 : (dm_ex dm_tb dm_cd 2000000 37 75 [.ref 2, .int 0] mm_18).map (fun q => q.1) = some (some (.int 0)) := fa_1.2.2.2.2.2.2.2.2.2.2.2.2.2.2.2.2.2.2.2.2.2.2.2.2.2.2.2.2.1
theorem ff_51 : dm_isO mm_18 2 6 = true := fa_1.2.2.2.2.2.2.2.2.2.2.2.2.2.2.2.2.2.2.2.2.2.2.2.2.2.2.2.2.2.1
theorem mc_20 : (dm_ex dm_tb dm_cd 2000000 37 77 [.ref 2, .int 0] mm_19).map (fun q => q.1) = some (some (.int 1)) := fa_1.2.2.2.2.2.2.2.2.2.2.2.2.2.2.2.2.2.2.2.2.2.2.2.2.2.2.2.2.2.2.1
theorem ff_52 : dm_isO mm_19 2 6 = true := fa_1.2.2.2.2.2.2.2.2.2.2.2.2.2.2.2.2.2.2.2.2.2.2.2.2.2.2.2.2.2.2.2.1
theorem ff_53 : dm_fld mm_20 0 7 0 = some (.ref 1) := fa_1.2.2.2.2.2.2.2.2.2.2.2.2.2.2.2.2.2.2.2.2.2.2.2.2.2.2.2.2.2.2.2.2.1
theorem ff_54 : dm_fld mm_20 1 2 0 = some (.ref 2) := fa_1.2.2.2.2.2.2.2.2.2.2.2.2.2.2.2.2.2.2.2.2.2.2.2.2.2.2.2.2.2.2.2.2.2.1
theorem mc_21 : (dm_ex dm_tb dm_cd 2000000 38 19 [.ref 1, .int 0] mm_20).map (fun q => q.1) = some (some (.int 0)) := fa_1.2.2.2.2.2.2.2.2.2.2.2.2.2.2.2.2.2.2.2.2.2.2.2.2.2.2.2.2.2.2.2.2.2.2.1
theorem ff_55 : dm_isO mm_20 1 2 = true := fa_1.2.2.2.2.2.2.2.2.2.2.2.2.2.2.2.2.2.2.2.2.2.2.2.2.2.2.2.2.2.2.2.2.2.2.2.1
theorem mc_22 : (dm_ex dm_tb dm_cd 2000000 37 75 [.ref 2, .int 0] mm_21).map (fun q => q.1) = some (some (.int 0)) := fa_1.2.2.2.2.2.2.2.2.2.2.2.2.2.2.2.2.2.2.2.2.2.2.2.2.2.2.2.2.2.2.2.2.2.2.2.2.1
theorem ff_56 : dm_isO mm_21 2 6 = true := fa_1.2.2.2.2.2.2.2.2.2.2.2.2.2.2.2.2.2.2.2.2.2.2.2.2.2.2.2.2.2.2.2.2.2.2.2.2.2.1
theorem mc_23 : (dm_ex dm_tb dm_cd 2000000 37 77 [.ref 2, .int 0] mm_22).map (fun q => q.1) = some (some (.int 1)) := fa_1.2.2.2.2.2.2.2.2.2.2.2.2.2.2.2.2.2.2.2.2.2.2.2.2.2.2.2.2.2.2.2.2.2.2.2.2.2.2.1
theorem ff_57 : dm_isO mm_22 2 6 = true := fa_1.2.2.2.2.2.2.2.2.2.2.2.2.2.2.2.2.2.2.2.2.2.2.2.2.2.2.2.2.2.2.2.2.2.2.2.2.2.2.2
set_option maxRecDepth 100000 in
theorem fa_2 : (dm_isO mm_15 0 7 = true) ∧ (dm_fld mm_23 68 8 40 = some (.int 0)) ∧ ((dm_ex dm_tb dm_cd 2000000 39 137 [.ref 68, .int 0] mm_23).map (fun q => q.1) = some (some (.int 1))) ∧ (dm_isO mm_23 68 8 = true) ∧ ((dm_ex dm_tb dm_cd 2000000 39 137 [.ref 68, .int 0] mm_24).map (fun q => q.1) = some (some (.int 1))) ∧ (dm_isO mm_24 68 8 = true) ∧ (dm_fld mm_25 68 8 4 = some (.ref 73)) ∧ (dm_ari mm_25 73 0 = some 0) ∧ (dm_ari mm_25 73 1 = some 1) ∧ (dm_fld mm_25 68 8 1 = some (.ref 70)) ∧ (dm_ari mm_25 70 0 = some 0) ∧ (dm_isO mm_25 68 8 = true) := by decide +kernel
theorem ff_58 : dm_isO mm_15 0 7 = true := fa_2.1
theorem ff_59 : dm_fld mm_23 68 8 40 = some (.int 0) := fa_2.2.1
theorem mc_24 : (dm_ex dm_tb dm_cd 2000000 39 137 [.ref 68, .int 0] mm_23).map (fun q => q.1) = some (some (.int 1)) := fa_2.2.2.1
theorem ff_60 : dm_isO mm_23 68 8 = true := fa_2.2.2.2.1
theorem mc_25 : (dm_ex dm_tb dm_cd 2000000 39 137 [.ref 68, .int 0] mm_24).map (fun q => q.1) = some (some (.int 1)) := fa_2.2.2.2.2.1
theorem ff_61 : dm_isO mm_24 68 8 = true := fa_2.2.2.2.2.2.1
theorem ff_62 : dm_fld mm_25 68 8 4 = some (.ref 73) := fa_2.2.2.2.2.2.2.1
theorem ff_63 : dm_ari mm_25 73 0 = some 0 := fa_2.2.2.2.2.2.2.2.1
theorem ff_64 : dm_ari mm_25 73 1 = some 1 := fa_2.2.2.2.2.2.2.2.2.1
theorem ff_65 : dm_fld mm_25 68 8 1 = some (.ref 70) := fa_2.2.2.2.2.2.2.2.2.2.1
theorem ff_66 : dm_ari mm_25 70 0 = some 0 := fa_2.2.2.2.2.2.2.2.2.2.2.1
theorem ff_67 : dm_isO mm_25 68 8 = true := fa_2.2.2.2.2.2.2.2.2.2.2.2
set_option maxRecDepth 100000 in
theorem sy_1 (s : Int32) (hs : ¬ s = 0) : dm_ex dm_tb dm_cd 2000000 37 17 [.ref 1, .int s] ev_3 = some (some (.int 0), ev_3) := by
  refine rx (Nat.le_of_ble_eq_true rfl) ?_
  refine qs (f := dm_ild 1 1) rfl rfl ?_
  by_cases hp11 : s < (0 : Int32)
  · refine qs (f := dm_if_lt 4 16) rfl (dm_if_lt_t hp11) ?_
    refine qs (f := dm_push 17 (.int 0)) rfl rfl ?_
    exact qr (f := dm_ret .boolean) rfl rfl
  · refine qs (f := dm_if_lt 4 16) rfl (dm_if_lt_f hp11) ?_
    refine qs (f := dm_ild 5 1) rfl rfl ?_
    refine qs (f := dm_ald 6 0) rfl rfl ?_
    refine qs (f := dm_getf 9 2 9) rfl (dm_getf_ok ff_2) ?_
    refine qs (f := dm_ic_ge 12 16) rfl (dm_ic_ge_t (i_01 hp11 hs)) ?_
    refine qs (f := dm_push 17 (.int 0)) rfl rfl ?_
    exact qr (f := dm_ret .boolean) rfl rfl
set_option maxRecDepth 100000 in
theorem sy_2 (s : Int32) (hs : ¬ s = 0) : dm_ex dm_tb dm_cd 2000000 38 26 [.ref 1, .int s] ev_3 = some (some (.int 0), ev_3) := by
  refine rx (Nat.le_of_ble_eq_true rfl) ?_
  refine qs (f := dm_ald 1 0) rfl rfl ?_
  refine qs (f := dm_ild 2 1) rfl rfl ?_
  refine qc (f := dm_inv 5 17 1 2) rfl (dm_inv_ok ff_3 rfl (Nat.le_of_ble_eq_true rfl)) (sy_1 s hs) ?_
  refine qs (f := dm_if_eq 8 21) rfl (dm_if_eq_t (by decide)) ?_
  refine qs (f := dm_push 22 (.int 0)) rfl rfl ?_
  exact qr (f := dm_ret .boolean) rfl rfl
set_option maxRecDepth 100000 in
theorem sy_3 (s : Int32) (hs : ¬ s = 0) : dm_ex dm_tb dm_cd 2000000 39 27 [.ref 1, .int s] ev_3 = some (some (.int 0), ev_3) := by
  refine rx (Nat.le_of_ble_eq_true rfl) ?_
  refine qs (f := dm_ald 1 0) rfl rfl ?_
  refine qs (f := dm_ild 2 1) rfl rfl ?_
  refine qc (f := dm_inv 5 26 1 2) rfl (dm_inv_ok ff_3 rfl (Nat.le_of_ble_eq_true rfl)) (sy_2 s hs) ?_
  refine qs (f := dm_if_eq 8 20) rfl (dm_if_eq_t (by decide)) ?_
  refine qs (f := dm_push 21 (.int 0)) rfl rfl ?_
  exact qr (f := dm_ret .boolean) rfl rfl
set_option maxRecDepth 100000 in
theorem sy_4 (s : Int32) (hs : ¬ s = 0) : dm_ex dm_tb dm_cd 2000000 40 96 [.ref 0, .int s] ev_3 = some (some (.int (-1)), ev_3) := by
  refine rx (Nat.le_of_ble_eq_true rfl) ?_
  refine qs (f := dm_ald 1 0) rfl rfl ?_
  refine qs (f := dm_getf 4 7 0) rfl (dm_getf_ok ff_1) ?_
  refine qs (f := dm_ild 5 1) rfl rfl ?_
  refine qc (f := dm_inv 8 27 1 2) rfl (dm_inv_ok ff_3 rfl (Nat.le_of_ble_eq_true rfl)) (sy_3 s hs) ?_
  refine qs (f := dm_if_eq 11 32) rfl (dm_if_eq_t (by decide)) ?_
  refine qs (f := dm_push 33 (.int (-1))) rfl rfl ?_
  exact qr (f := dm_ret .int) rfl rfl
set_option maxRecDepth 100000 in
theorem sy_5 (s : Int32) (hs : ¬ s = 0) : dm_ex dm_tb dm_cd 2000000 38 137 [.ref 68, .int s] ev_3 = some (some (.int 0), ev_3) := by
  refine rx (Nat.le_of_ble_eq_true rfl) ?_
  refine qs (f := dm_ild 1 1) rfl rfl ?_
  by_cases hp11 : s < (0 : Int32)
  · refine qs (f := dm_if_lt 4 16) rfl (dm_if_lt_t hp11) ?_
    refine qs (f := dm_push 17 (.int 0)) rfl rfl ?_
    exact qr (f := dm_ret .boolean) rfl rfl
  · refine qs (f := dm_if_lt 4 16) rfl (dm_if_lt_f hp11) ?_
    refine qs (f := dm_ild 5 1) rfl rfl ?_
    refine qs (f := dm_ald 6 0) rfl rfl ?_
    refine qs (f := dm_getf 9 8 15) rfl (dm_getf_ok ff_5) ?_
    refine qs (f := dm_ic_ge 12 16) rfl (dm_ic_ge_t (i_01 hp11 hs)) ?_
    refine qs (f := dm_push 17 (.int 0)) rfl rfl ?_
    exact qr (f := dm_ret .boolean) rfl rfl
set_option maxRecDepth 100000 in
theorem sy_6 (s : Int32) (hs : ¬ s = 0) : dm_ex dm_tb dm_cd 2000000 39 138 [.ref 68, .int s] ev_3 = some (some (.int 0), ev_3) := by
  refine rx (Nat.le_of_ble_eq_true rfl) ?_
  refine qs (f := dm_ald 1 0) rfl rfl ?_
  refine qs (f := dm_ild 2 1) rfl rfl ?_
  refine qc (f := dm_inv 5 137 1 8) rfl (dm_inv_ok ff_6 rfl (Nat.le_of_ble_eq_true rfl)) (sy_5 s hs) ?_
  refine qs (f := dm_if_eq 8 21) rfl (dm_if_eq_t (by decide)) ?_
  refine qs (f := dm_push 22 (.int 0)) rfl rfl ?_
  exact qr (f := dm_ret .boolean) rfl rfl
set_option maxRecDepth 100000 in
theorem sy_7 (s : Int32) (hs : ¬ s = 0) : dm_ex dm_tb dm_cd 2000000 40 158 [.ref 68, .int s] ev_3 = some (some (.int (-1)), ev_3) := by
  refine rx (Nat.le_of_ble_eq_true rfl) ?_
  refine qs (f := dm_ald 1 0) rfl rfl ?_
  refine qs (f := dm_push 2 (.int 0)) rfl rfl ?_
  refine qs (f := dm_putf 5 8 40 .int) rfl (dm_putf_same ff_4 rfl) ?_
  refine qs (f := dm_ald 6 0) rfl rfl ?_
  refine qs (f := dm_ild 7 1) rfl rfl ?_
  refine qc (f := dm_inv 10 138 1 8) rfl (dm_inv_ok ff_6 rfl (Nat.le_of_ble_eq_true rfl)) (sy_6 s hs) ?_
  refine qs (f := dm_if_eq 13 21) rfl (dm_if_eq_t (by decide)) ?_
  refine qs (f := dm_push 22 (.int (-1))) rfl rfl ?_
  exact qr (f := dm_ret .int) rfl rfl
set_option maxRecDepth 100000 in
theorem sy_8 (s : Int32) (hs : ¬ s = 0) : dm_ex dm_tb dm_cd 2000000 40 97 [.ref 0, .int s] ev_3 = some (some (.int (-1)), ev_3) := by
  refine rx (Nat.le_of_ble_eq_true rfl) ?_
  refine qs (f := dm_ald 1 0) rfl rfl ?_
  refine qs (f := dm_getf 4 7 0) rfl (dm_getf_ok ff_1) ?_
  refine qs (f := dm_ild 5 1) rfl rfl ?_
  refine qc (f := dm_inv 8 27 1 2) rfl (dm_inv_ok ff_3 rfl (Nat.le_of_ble_eq_true rfl)) (sy_3 s hs) ?_
  refine qs (f := dm_if_ne 11 13) rfl (dm_if_ne_f (by decide)) ?_
  refine qs (f := dm_push 12 (.int (-1))) rfl rfl ?_
  exact qr (f := dm_ret .int) rfl rfl
set_option maxRecDepth 100000 in
theorem sy_9 (s : Int32) (hs : ¬ s = 0) : dm_ex dm_tb dm_cd 2000000 40 163 [.ref 68, .int s] ev_3 = some (some (.int (-1)), ev_3) := by
  refine rx (Nat.le_of_ble_eq_true rfl) ?_
  refine qs (f := dm_ald 1 0) rfl rfl ?_
  refine qs (f := dm_push 2 (.int 0)) rfl rfl ?_
  refine qs (f := dm_putf 5 8 40 .int) rfl (dm_putf_same ff_4 rfl) ?_
  refine qs (f := dm_ald 6 0) rfl rfl ?_
  refine qs (f := dm_ild 7 1) rfl rfl ?_
  refine qc (f := dm_inv 10 138 1 8) rfl (dm_inv_ok ff_6 rfl (Nat.le_of_ble_eq_true rfl)) (sy_6 s hs) ?_
  refine qs (f := dm_if_eq 13 21) rfl (dm_if_eq_t (by decide)) ?_
  refine qs (f := dm_push 22 (.int (-1))) rfl rfl ?_
  exact qr (f := dm_ret .int) rfl rfl
set_option maxRecDepth 100000 in
theorem sy_10 (s : Int32) (hs : ¬ s = 0) : dm_ex dm_tb dm_cd 2000000 38 17 [.ref 1, .int s] ev_3 = some (some (.int 0), ev_3) := by
  refine rx (Nat.le_of_ble_eq_true rfl) ?_
  refine qs (f := dm_ild 1 1) rfl rfl ?_
  by_cases hp11 : s < (0 : Int32)
  · refine qs (f := dm_if_lt 4 16) rfl (dm_if_lt_t hp11) ?_
    refine qs (f := dm_push 17 (.int 0)) rfl rfl ?_
    exact qr (f := dm_ret .boolean) rfl rfl
  · refine qs (f := dm_if_lt 4 16) rfl (dm_if_lt_f hp11) ?_
    refine qs (f := dm_ild 5 1) rfl rfl ?_
    refine qs (f := dm_ald 6 0) rfl rfl ?_
    refine qs (f := dm_getf 9 2 9) rfl (dm_getf_ok ff_2) ?_
    refine qs (f := dm_ic_ge 12 16) rfl (dm_ic_ge_t (i_01 hp11 hs)) ?_
    refine qs (f := dm_push 17 (.int 0)) rfl rfl ?_
    exact qr (f := dm_ret .boolean) rfl rfl
set_option maxRecDepth 100000 in
theorem sy_11 (s : Int32) (hs : ¬ s = 0) : dm_ex dm_tb dm_cd 2000000 39 26 [.ref 1, .int s] ev_3 = some (some (.int 0), ev_3) := by
  refine rx (Nat.le_of_ble_eq_true rfl) ?_
  refine qs (f := dm_ald 1 0) rfl rfl ?_
  refine qs (f := dm_ild 2 1) rfl rfl ?_
  refine qc (f := dm_inv 5 17 1 2) rfl (dm_inv_ok ff_3 rfl (Nat.le_of_ble_eq_true rfl)) (sy_10 s hs) ?_
  refine qs (f := dm_if_eq 8 21) rfl (dm_if_eq_t (by decide)) ?_
  refine qs (f := dm_push 22 (.int 0)) rfl rfl ?_
  exact qr (f := dm_ret .boolean) rfl rfl
set_option maxRecDepth 100000 in
theorem sy_12 (s : Int32) (hs : ¬ s = 0) : dm_ex dm_tb dm_cd 2000000 40 99 [.ref 0, .int s] ev_3 = some (some (.int (-1)), ev_3) := by
  refine rx (Nat.le_of_ble_eq_true rfl) ?_
  refine qs (f := dm_ald 1 0) rfl rfl ?_
  refine qs (f := dm_getf 4 7 0) rfl (dm_getf_ok ff_1) ?_
  refine qs (f := dm_ild 5 1) rfl rfl ?_
  refine qc (f := dm_inv 8 26 1 2) rfl (dm_inv_ok ff_3 rfl (Nat.le_of_ble_eq_true rfl)) (sy_11 s hs) ?_
  refine qs (f := dm_if_ne 11 13) rfl (dm_if_ne_f (by decide)) ?_
  refine qs (f := dm_push 12 (.int (-1))) rfl rfl ?_
  exact qr (f := dm_ret .int) rfl rfl
set_option maxRecDepth 100000 in
theorem sy_13 (s : Int32) (hs : ¬ s = 0) : dm_ex dm_tb dm_cd 2000000 40 168 [.ref 68, .int s] ev_3 = some (some (.int (-1)), ev_3) := by
  refine rx (Nat.le_of_ble_eq_true rfl) ?_
  refine qs (f := dm_ald 1 0) rfl rfl ?_
  refine qs (f := dm_push 2 (.int 0)) rfl rfl ?_
  refine qs (f := dm_putf 5 8 40 .int) rfl (dm_putf_same ff_4 rfl) ?_
  refine qs (f := dm_ald 6 0) rfl rfl ?_
  refine qs (f := dm_ild 7 1) rfl rfl ?_
  refine qc (f := dm_inv 10 138 1 8) rfl (dm_inv_ok ff_6 rfl (Nat.le_of_ble_eq_true rfl)) (sy_6 s hs) ?_
  refine qs (f := dm_if_eq 13 29) rfl (dm_if_eq_t (by decide)) ?_
  refine qs (f := dm_push 30 (.int (-1))) rfl rfl ?_
  exact qr (f := dm_ret .int) rfl rfl
set_option maxRecDepth 100000 in
theorem sy_14 (s : Int32) (hs : ¬ s = 0) : dm_ex dm_tb dm_cd 2000000 40 100 [.ref 0, .int s] ev_3 = some (some (.int (-1)), ev_3) := by
  refine rx (Nat.le_of_ble_eq_true rfl) ?_
  refine qs (f := dm_ald 1 0) rfl rfl ?_
  refine qs (f := dm_getf 4 7 0) rfl (dm_getf_ok ff_1) ?_
  refine qs (f := dm_ild 5 1) rfl rfl ?_
  refine qc (f := dm_inv 8 27 1 2) rfl (dm_inv_ok ff_3 rfl (Nat.le_of_ble_eq_true rfl)) (sy_3 s hs) ?_
  refine qs (f := dm_if_ne 11 13) rfl (dm_if_ne_f (by decide)) ?_
  refine qs (f := dm_push 12 (.int (-1))) rfl rfl ?_
  exact qr (f := dm_ret .int) rfl rfl
set_option maxRecDepth 100000 in
theorem sy_15 (s : Int32) (hs : ¬ s = 0) : dm_ex dm_tb dm_cd 2000000 40 169 [.ref 68, .int s] ev_3 = some (some (.int (-1)), ev_3) := by
  refine rx (Nat.le_of_ble_eq_true rfl) ?_
  refine qs (f := dm_ald 1 0) rfl rfl ?_
  refine qs (f := dm_push 2 (.int 0)) rfl rfl ?_
  refine qs (f := dm_putf 5 8 40 .int) rfl (dm_putf_same ff_4 rfl) ?_
  refine qs (f := dm_ald 6 0) rfl rfl ?_
  refine qs (f := dm_ild 7 1) rfl rfl ?_
  refine qc (f := dm_inv 10 138 1 8) rfl (dm_inv_ok ff_6 rfl (Nat.le_of_ble_eq_true rfl)) (sy_6 s hs) ?_
  refine qs (f := dm_if_eq 13 21) rfl (dm_if_eq_t (by decide)) ?_
  refine qs (f := dm_push 22 (.int (-1))) rfl rfl ?_
  exact qr (f := dm_ret .int) rfl rfl
set_option maxRecDepth 100000 in
theorem sy_16 (s : Int32) (hs : ¬ s = 0) : dm_ex dm_tb dm_cd 2000000 40 102 [.ref 0, .int s] ev_3 = some (some (.int 0), ev_3) := by
  refine rx (Nat.le_of_ble_eq_true rfl) ?_
  refine qs (f := dm_ald 1 0) rfl rfl ?_
  refine qs (f := dm_getf 4 7 0) rfl (dm_getf_ok ff_1) ?_
  refine qs (f := dm_ild 5 1) rfl rfl ?_
  refine qc (f := dm_inv 8 27 1 2) rfl (dm_inv_ok ff_3 rfl (Nat.le_of_ble_eq_true rfl)) (sy_3 s hs) ?_
  refine qs (f := dm_if_ne 11 13) rfl (dm_if_ne_f (by decide)) ?_
  refine qs (f := dm_push 12 (.int 0)) rfl rfl ?_
  exact qr (f := dm_ret .boolean) rfl rfl
set_option maxRecDepth 100000 in
theorem sy_17 (s : Int32) (hs : ¬ s = 0) : dm_ex dm_tb dm_cd 2000000 40 171 [.ref 68, .int s] ev_3 = some (some (.int 0), ev_3) := by
  refine rx (Nat.le_of_ble_eq_true rfl) ?_
  refine qs (f := dm_ald 1 0) rfl rfl ?_
  refine qs (f := dm_push 2 (.int 0)) rfl rfl ?_
  refine qs (f := dm_putf 5 8 40 .int) rfl (dm_putf_same ff_4 rfl) ?_
  refine qs (f := dm_ald 6 0) rfl rfl ?_
  refine qs (f := dm_ild 7 1) rfl rfl ?_
  refine qc (f := dm_inv 10 138 1 8) rfl (dm_inv_ok ff_6 rfl (Nat.le_of_ble_eq_true rfl)) (sy_6 s hs) ?_
  refine qs (f := dm_if_eq 13 21) rfl (dm_if_eq_t (by decide)) ?_
  refine qs (f := dm_push 22 (.int 0)) rfl rfl ?_
  exact qr (f := dm_ret .boolean) rfl rfl
set_option maxRecDepth 100000 in
theorem sy_18 (s : Int32) (hs : ¬ s = 0) : dm_ex dm_tb dm_cd 2000000 39 17 [.ref 1, .int s] ev_3 = some (some (.int 0), ev_3) := by
  refine rx (Nat.le_of_ble_eq_true rfl) ?_
  refine qs (f := dm_ild 1 1) rfl rfl ?_
  by_cases hp11 : s < (0 : Int32)
  · refine qs (f := dm_if_lt 4 16) rfl (dm_if_lt_t hp11) ?_
    refine qs (f := dm_push 17 (.int 0)) rfl rfl ?_
    exact qr (f := dm_ret .boolean) rfl rfl
  · refine qs (f := dm_if_lt 4 16) rfl (dm_if_lt_f hp11) ?_
    refine qs (f := dm_ild 5 1) rfl rfl ?_
    refine qs (f := dm_ald 6 0) rfl rfl ?_
    refine qs (f := dm_getf 9 2 9) rfl (dm_getf_ok ff_2) ?_
    refine qs (f := dm_ic_ge 12 16) rfl (dm_ic_ge_t (i_01 hp11 hs)) ?_
    refine qs (f := dm_push 17 (.int 0)) rfl rfl ?_
    exact qr (f := dm_ret .boolean) rfl rfl
set_option maxRecDepth 100000 in
theorem sy_19 (s : Int32) (hs : ¬ s = 0) : dm_ex dm_tb dm_cd 2000000 40 115 [.ref 0, .int s] ev_3 = some (some (.int (-1)), ev_3) := by
  refine rx (Nat.le_of_ble_eq_true rfl) ?_
  refine qs (f := dm_ald 1 0) rfl rfl ?_
  refine qs (f := dm_getf 4 7 0) rfl (dm_getf_ok ff_1) ?_
  refine qs (f := dm_ild 5 1) rfl rfl ?_
  refine qc (f := dm_inv 8 17 1 2) rfl (dm_inv_ok ff_3 rfl (Nat.le_of_ble_eq_true rfl)) (sy_18 s hs) ?_
  refine qs (f := dm_if_eq 11 22) rfl (dm_if_eq_t (by decide)) ?_
  refine qs (f := dm_push 23 (.int (-1))) rfl rfl ?_
  exact qr (f := dm_ret .int) rfl rfl
set_option maxRecDepth 100000 in
theorem sy_20 (s : Int32) (hs : ¬ s = 0) : dm_ex dm_tb dm_cd 2000000 39 137 [.ref 68, .int s] ev_3 = some (some (.int 0), ev_3) := by
  refine rx (Nat.le_of_ble_eq_true rfl) ?_
  refine qs (f := dm_ild 1 1) rfl rfl ?_
  by_cases hp11 : s < (0 : Int32)
  · refine qs (f := dm_if_lt 4 16) rfl (dm_if_lt_t hp11) ?_
    refine qs (f := dm_push 17 (.int 0)) rfl rfl ?_
    exact qr (f := dm_ret .boolean) rfl rfl
  · refine qs (f := dm_if_lt 4 16) rfl (dm_if_lt_f hp11) ?_
    refine qs (f := dm_ild 5 1) rfl rfl ?_
    refine qs (f := dm_ald 6 0) rfl rfl ?_
    refine qs (f := dm_getf 9 8 15) rfl (dm_getf_ok ff_5) ?_
    refine qs (f := dm_ic_ge 12 16) rfl (dm_ic_ge_t (i_01 hp11 hs)) ?_
    refine qs (f := dm_push 17 (.int 0)) rfl rfl ?_
    exact qr (f := dm_ret .boolean) rfl rfl
set_option maxRecDepth 100000 in
theorem sy_21 (s : Int32) (hs : ¬ s = 0) : dm_ex dm_tb dm_cd 2000000 40 194 [.ref 68, .int s] ev_3 = some (some (.int (-1)), ev_3) := by
  refine rx (Nat.le_of_ble_eq_true rfl) ?_
  refine qs (f := dm_ald 1 0) rfl rfl ?_
  refine qs (f := dm_push 2 (.int 0)) rfl rfl ?_
  refine qs (f := dm_putf 5 8 40 .int) rfl (dm_putf_same ff_4 rfl) ?_
  refine qs (f := dm_ald 6 0) rfl rfl ?_
  refine qs (f := dm_ild 7 1) rfl rfl ?_
  refine qc (f := dm_inv 10 137 1 8) rfl (dm_inv_ok ff_6 rfl (Nat.le_of_ble_eq_true rfl)) (sy_20 s hs) ?_
  refine qs (f := dm_if_ne 13 15) rfl (dm_if_ne_f (by decide)) ?_
  refine qs (f := dm_push 14 (.int (-1))) rfl rfl ?_
  exact qr (f := dm_ret .int) rfl rfl
set_option maxRecDepth 100000 in
theorem sy_22 (s : Int32) (w : Int32) (hs : ¬ s = 0) : dm_ex dm_tb dm_cd 2000000 40 110 [.ref 0, .int s, .int w] ev_3 = some (some (.int (-1)), ev_3) := by
  refine rx (Nat.le_of_ble_eq_true rfl) ?_
  refine qs (f := dm_ald 1 0) rfl rfl ?_
  refine qs (f := dm_getf 4 7 0) rfl (dm_getf_ok ff_1) ?_
  refine qs (f := dm_ild 5 1) rfl rfl ?_
  refine qc (f := dm_inv 8 17 1 2) rfl (dm_inv_ok ff_3 rfl (Nat.le_of_ble_eq_true rfl)) (sy_18 s hs) ?_
  refine qs (f := dm_if_ne 11 13) rfl (dm_if_ne_f (by decide)) ?_
  refine qs (f := dm_push 12 (.int (-1))) rfl rfl ?_
  exact qr (f := dm_ret .int) rfl rfl
set_option maxRecDepth 100000 in
theorem sy_23 (s : Int32) (w : Int32) (hs : ¬ s = 0) : dm_ex dm_tb dm_cd 2000000 40 182 [.ref 68, .int s, .int w] ev_3 = some (some (.int (-1)), ev_3) := by
  refine rx (Nat.le_of_ble_eq_true rfl) ?_
  refine qs (f := dm_ald 1 0) rfl rfl ?_
  refine qs (f := dm_push 2 (.int 0)) rfl rfl ?_
  refine qs (f := dm_putf 5 8 40 .int) rfl (dm_putf_same ff_4 rfl) ?_
  refine qs (f := dm_ald 6 0) rfl rfl ?_
  refine qs (f := dm_ild 7 1) rfl rfl ?_
  refine qc (f := dm_inv 10 137 1 8) rfl (dm_inv_ok ff_6 rfl (Nat.le_of_ble_eq_true rfl)) (sy_20 s hs) ?_
  refine qs (f := dm_if_ne 13 15) rfl (dm_if_ne_f (by decide)) ?_
  refine qs (f := dm_push 14 (.int (-1))) rfl rfl ?_
  exact qr (f := dm_ret .int) rfl rfl
set_option maxRecDepth 100000 in
theorem sy_24 (s : Int32) (t : Int32) (hs : ¬ s = 0) : dm_ex dm_tb dm_cd 2000000 40 105 [.ref 0, .int s, .int t] ev_3 = some (some (.int (-1)), ev_3) := by
  refine rx (Nat.le_of_ble_eq_true rfl) ?_
  refine qs (f := dm_ald 1 0) rfl rfl ?_
  refine qs (f := dm_getf 4 7 0) rfl (dm_getf_ok ff_1) ?_
  refine qs (f := dm_ild 5 1) rfl rfl ?_
  refine qc (f := dm_inv 8 17 1 2) rfl (dm_inv_ok ff_3 rfl (Nat.le_of_ble_eq_true rfl)) (sy_18 s hs) ?_
  refine qs (f := dm_if_eq 11 22) rfl (dm_if_eq_t (by decide)) ?_
  refine qs (f := dm_push 23 (.int (-1))) rfl rfl ?_
  exact qr (f := dm_ret .int) rfl rfl
set_option maxRecDepth 100000 in
theorem sy_25 (s : Int32) (t : Int32) (hs : ¬ s = 0) : dm_ex dm_tb dm_cd 2000000 40 175 [.ref 68, .int s, .int t] ev_3 = some (some (.int (-1)), ev_3) := by
  refine rx (Nat.le_of_ble_eq_true rfl) ?_
  refine qs (f := dm_ald 1 0) rfl rfl ?_
  refine qs (f := dm_push 2 (.int 0)) rfl rfl ?_
  refine qs (f := dm_putf 5 8 40 .int) rfl (dm_putf_same ff_4 rfl) ?_
  refine qs (f := dm_ald 6 0) rfl rfl ?_
  refine qs (f := dm_ild 7 1) rfl rfl ?_
  refine qc (f := dm_inv 10 137 1 8) rfl (dm_inv_ok ff_6 rfl (Nat.le_of_ble_eq_true rfl)) (sy_20 s hs) ?_
  refine qs (f := dm_if_eq 13 21) rfl (dm_if_eq_t (by decide)) ?_
  refine qs (f := dm_push 22 (.int (-1))) rfl rfl ?_
  exact qr (f := dm_ret .int) rfl rfl
set_option maxRecDepth 100000 in
theorem sy_26 (t : Int32) (ht : ¬ t = 0) : dm_ex dm_tb dm_cd 2000000 39 17 [.ref 1, .int t] mm_1 = some (some (.int 0), mm_1) := by
  refine rx (Nat.le_of_ble_eq_true rfl) ?_
  refine qs (f := dm_ild 1 1) rfl rfl ?_
  by_cases hp11 : t < (0 : Int32)
  · refine qs (f := dm_if_lt 4 16) rfl (dm_if_lt_t hp11) ?_
    refine qs (f := dm_push 17 (.int 0)) rfl rfl ?_
    exact qr (f := dm_ret .boolean) rfl rfl
  · refine qs (f := dm_if_lt 4 16) rfl (dm_if_lt_f hp11) ?_
    refine qs (f := dm_ild 5 1) rfl rfl ?_
    refine qs (f := dm_ald 6 0) rfl rfl ?_
    refine qs (f := dm_getf 9 2 9) rfl (dm_getf_ok ff_8) ?_
    refine qs (f := dm_ic_ge 12 16) rfl (dm_ic_ge_t (i_01 hp11 ht)) ?_
    refine qs (f := dm_push 17 (.int 0)) rfl rfl ?_
    exact qr (f := dm_ret .boolean) rfl rfl
set_option maxRecDepth 100000 in
theorem sy_27 (t : Int32) (ht : ¬ t = 0) : dm_ex dm_tb dm_cd 2000000 40 105 [.ref 0, .int 0, .int t] ev_3 = some (some (.int (-1)), mm_1) := by
  refine rx (Nat.le_of_ble_eq_true rfl) ?_
  refine qs (f := dm_ald 1 0) rfl rfl ?_
  refine qs (f := dm_getf 4 7 0) rfl (dm_getf_ok ff_1) ?_
  refine qs (f := dm_ild 5 1) rfl rfl ?_
  refine qc (f := dm_inv 8 17 1 2) rfl (dm_inv_ok ff_3 rfl (Nat.le_of_ble_eq_true rfl)) (ev_ok mc_1) ?_
  refine qs (f := dm_if_eq 11 22) rfl (dm_if_eq_f (by decide)) ?_
  refine qs (f := dm_ald 12 0) rfl rfl ?_
  refine qs (f := dm_getf 15 7 0) rfl (dm_getf_ok ff_7) ?_
  refine qs (f := dm_ild 16 2) rfl rfl ?_
  refine qc (f := dm_inv 19 17 1 2) rfl (dm_inv_ok ff_9 rfl (Nat.le_of_ble_eq_true rfl)) (sy_26 t ht) ?_
  refine qs (f := dm_if_ne 22 24) rfl (dm_if_ne_f (by decide)) ?_
  refine qs (f := dm_push 23 (.int (-1))) rfl rfl ?_
  exact qr (f := dm_ret .int) rfl rfl
set_option maxRecDepth 100000 in
theorem sy_28 (t : Int32) (ht : ¬ t = 0) : dm_ex dm_tb dm_cd 2000000 39 137 [.ref 68, .int t] mm_2 = some (some (.int 0), mm_2) := by
  refine rx (Nat.le_of_ble_eq_true rfl) ?_
  refine qs (f := dm_ild 1 1) rfl rfl ?_
  by_cases hp11 : t < (0 : Int32)
  · refine qs (f := dm_if_lt 4 16) rfl (dm_if_lt_t hp11) ?_
    refine qs (f := dm_push 17 (.int 0)) rfl rfl ?_
    exact qr (f := dm_ret .boolean) rfl rfl
  · refine qs (f := dm_if_lt 4 16) rfl (dm_if_lt_f hp11) ?_
    refine qs (f := dm_ild 5 1) rfl rfl ?_
    refine qs (f := dm_ald 6 0) rfl rfl ?_
    refine qs (f := dm_getf 9 8 15) rfl (dm_getf_ok ff_12) ?_
    refine qs (f := dm_ic_ge 12 16) rfl (dm_ic_ge_t (i_01 hp11 ht)) ?_
    refine qs (f := dm_push 17 (.int 0)) rfl rfl ?_
    exact qr (f := dm_ret .boolean) rfl rfl
set_option maxRecDepth 100000 in
theorem sy_29 (t : Int32) (ht : ¬ t = 0) : dm_ex dm_tb dm_cd 2000000 40 175 [.ref 68, .int 0, .int t] mm_1 = some (some (.int (-1)), mm_2) := by
  refine rx (Nat.le_of_ble_eq_true rfl) ?_
  refine qs (f := dm_ald 1 0) rfl rfl ?_
  refine qs (f := dm_push 2 (.int 0)) rfl rfl ?_
  refine qs (f := dm_putf 5 8 40 .int) rfl (dm_putf_same ff_10 rfl) ?_
  refine qs (f := dm_ald 6 0) rfl rfl ?_
  refine qs (f := dm_ild 7 1) rfl rfl ?_
  refine qc (f := dm_inv 10 137 1 8) rfl (dm_inv_ok ff_11 rfl (Nat.le_of_ble_eq_true rfl)) (ev_ok mc_2) ?_
  refine qs (f := dm_if_eq 13 21) rfl (dm_if_eq_f (by decide)) ?_
  refine qs (f := dm_ald 14 0) rfl rfl ?_
  refine qs (f := dm_ild 15 2) rfl rfl ?_
  refine qc (f := dm_inv 18 137 1 8) rfl (dm_inv_ok ff_13 rfl (Nat.le_of_ble_eq_true rfl)) (sy_28 t ht) ?_
  refine qs (f := dm_if_ne 21 23) rfl (dm_if_ne_f (by decide)) ?_
  refine qs (f := dm_push 22 (.int (-1))) rfl rfl ?_
  exact qr (f := dm_ret .int) rfl rfl
set_option maxRecDepth 100000 in
theorem sy_30 (s : Int32) (t : Int32) (hs : ¬ s = 0) : dm_ex dm_tb dm_cd 2000000 40 106 [.ref 0, .int s, .int t] ev_3 = some (some (.int (-1)), ev_3) := by
  refine rx (Nat.le_of_ble_eq_true rfl) ?_
  refine qs (f := dm_ald 1 0) rfl rfl ?_
  refine qs (f := dm_getf 4 7 0) rfl (dm_getf_ok ff_1) ?_
  refine qs (f := dm_ild 5 1) rfl rfl ?_
  refine qc (f := dm_inv 8 17 1 2) rfl (dm_inv_ok ff_3 rfl (Nat.le_of_ble_eq_true rfl)) (sy_18 s hs) ?_
  refine qs (f := dm_if_eq 11 38) rfl (dm_if_eq_t (by decide)) ?_
  refine qs (f := dm_push 39 (.int (-1))) rfl rfl ?_
  exact qr (f := dm_ret .int) rfl rfl
set_option maxRecDepth 100000 in
theorem sy_31 (s : Int32) (t : Int32) (hs : ¬ s = 0) : dm_ex dm_tb dm_cd 2000000 40 176 [.ref 68, .int s, .int t] ev_3 = some (some (.int (-1)), ev_3) := by
  refine rx (Nat.le_of_ble_eq_true rfl) ?_
  refine qs (f := dm_ald 1 0) rfl rfl ?_
  refine qs (f := dm_push 2 (.int 0)) rfl rfl ?_
  refine qs (f := dm_putf 5 8 40 .int) rfl (dm_putf_same ff_4 rfl) ?_
  refine qs (f := dm_ald 6 0) rfl rfl ?_
  refine qs (f := dm_ild 7 1) rfl rfl ?_
  refine qc (f := dm_inv 10 137 1 8) rfl (dm_inv_ok ff_6 rfl (Nat.le_of_ble_eq_true rfl)) (sy_20 s hs) ?_
  refine qs (f := dm_if_eq 13 39) rfl (dm_if_eq_t (by decide)) ?_
  refine qs (f := dm_push 40 (.int (-1))) rfl rfl ?_
  exact qr (f := dm_ret .int) rfl rfl
set_option maxRecDepth 100000 in
theorem sy_32 (t : Int32) (ht : ¬ t = 0) : dm_ex dm_tb dm_cd 2000000 40 106 [.ref 0, .int 0, .int t] ev_3 = some (some (.int (-1)), mm_1) := by
  refine rx (Nat.le_of_ble_eq_true rfl) ?_
  refine qs (f := dm_ald 1 0) rfl rfl ?_
  refine qs (f := dm_getf 4 7 0) rfl (dm_getf_ok ff_1) ?_
  refine qs (f := dm_ild 5 1) rfl rfl ?_
  refine qc (f := dm_inv 8 17 1 2) rfl (dm_inv_ok ff_3 rfl (Nat.le_of_ble_eq_true rfl)) (ev_ok mc_1) ?_
  refine qs (f := dm_if_eq 11 38) rfl (dm_if_eq_f (by decide)) ?_
  refine qs (f := dm_ald 12 0) rfl rfl ?_
  refine qs (f := dm_getf 15 7 0) rfl (dm_getf_ok ff_7) ?_
  refine qs (f := dm_ild 16 2) rfl rfl ?_
  refine qc (f := dm_inv 19 17 1 2) rfl (dm_inv_ok ff_9 rfl (Nat.le_of_ble_eq_true rfl)) (sy_26 t ht) ?_
  refine qs (f := dm_if_eq 22 38) rfl (dm_if_eq_t (by decide)) ?_
  refine qs (f := dm_push 39 (.int (-1))) rfl rfl ?_
  exact qr (f := dm_ret .int) rfl rfl
set_option maxRecDepth 100000 in
theorem sy_33 (t : Int32) (ht : ¬ t = 0) : dm_ex dm_tb dm_cd 2000000 40 176 [.ref 68, .int 0, .int t] mm_1 = some (some (.int (-1)), mm_2) := by
  refine rx (Nat.le_of_ble_eq_true rfl) ?_
  refine qs (f := dm_ald 1 0) rfl rfl ?_
  refine qs (f := dm_push 2 (.int 0)) rfl rfl ?_
  refine qs (f := dm_putf 5 8 40 .int) rfl (dm_putf_same ff_10 rfl) ?_
  refine qs (f := dm_ald 6 0) rfl rfl ?_
  refine qs (f := dm_ild 7 1) rfl rfl ?_
  refine qc (f := dm_inv 10 137 1 8) rfl (dm_inv_ok ff_11 rfl (Nat.le_of_ble_eq_true rfl)) (ev_ok mc_2) ?_
  refine qs (f := dm_if_eq 13 39) rfl (dm_if_eq_f (by decide)) ?_
  refine qs (f := dm_ald 14 0) rfl rfl ?_
  refine qs (f := dm_ild 15 2) rfl rfl ?_
  refine qc (f := dm_inv 18 137 1 8) rfl (dm_inv_ok ff_13 rfl (Nat.le_of_ble_eq_true rfl)) (sy_28 t ht) ?_
  refine qs (f := dm_if_eq 21 39) rfl (dm_if_eq_t (by decide)) ?_
  refine qs (f := dm_push 40 (.int (-1))) rfl rfl ?_
  exact qr (f := dm_ret .int) rfl rfl
set_option maxRecDepth 100000 in
theorem sy_34 (s : Int32) (t : Int32) (hs : ¬ s = 0) : dm_ex dm_tb dm_cd 2000000 40 107 [.ref 0, .int s, .int t] ev_3 = some (some (.int 0), ev_3) := by
  refine rx (Nat.le_of_ble_eq_true rfl) ?_
  refine qs (f := dm_ald 1 0) rfl rfl ?_
  refine qs (f := dm_getf 4 7 0) rfl (dm_getf_ok ff_1) ?_
  refine qs (f := dm_ild 5 1) rfl rfl ?_
  refine qc (f := dm_inv 8 17 1 2) rfl (dm_inv_ok ff_3 rfl (Nat.le_of_ble_eq_true rfl)) (sy_18 s hs) ?_
  refine qs (f := dm_if_eq 11 55) rfl (dm_if_eq_t (by decide)) ?_
  refine qs (f := dm_push 56 (.int 0)) rfl rfl ?_
  exact qr (f := dm_ret .boolean) rfl rfl
set_option maxRecDepth 100000 in
theorem sy_35 (s : Int32) (t : Int32) (hs : ¬ s = 0) : dm_ex dm_tb dm_cd 2000000 40 177 [.ref 68, .int s, .int t] ev_3 = some (some (.int 0), ev_3) := by
  refine rx (Nat.le_of_ble_eq_true rfl) ?_
  refine qs (f := dm_ald 1 0) rfl rfl ?_
  refine qs (f := dm_push 2 (.int 0)) rfl rfl ?_
  refine qs (f := dm_putf 5 8 40 .int) rfl (dm_putf_same ff_4 rfl) ?_
  refine qs (f := dm_ald 6 0) rfl rfl ?_
  refine qs (f := dm_ild 7 1) rfl rfl ?_
  refine qc (f := dm_inv 10 137 1 8) rfl (dm_inv_ok ff_6 rfl (Nat.le_of_ble_eq_true rfl)) (sy_20 s hs) ?_
  refine qs (f := dm_if_eq 13 21) rfl (dm_if_eq_t (by decide)) ?_
  refine qs (f := dm_push 22 (.int 0)) rfl rfl ?_
  exact qr (f := dm_ret .boolean) rfl rfl
set_option maxRecDepth 100000 in
theorem sy_36 (t : Int32) (ht : ¬ t = 0) : dm_ex dm_tb dm_cd 2000000 40 107 [.ref 0, .int 0, .int t] ev_3 = some (some (.int 0), mm_1) := by
  refine rx (Nat.le_of_ble_eq_true rfl) ?_
  refine qs (f := dm_ald 1 0) rfl rfl ?_
  refine qs (f := dm_getf 4 7 0) rfl (dm_getf_ok ff_1) ?_
  refine qs (f := dm_ild 5 1) rfl rfl ?_
  refine qc (f := dm_inv 8 17 1 2) rfl (dm_inv_ok ff_3 rfl (Nat.le_of_ble_eq_true rfl)) (ev_ok mc_1) ?_
  refine qs (f := dm_if_eq 11 55) rfl (dm_if_eq_f (by decide)) ?_
  refine qs (f := dm_ald 12 0) rfl rfl ?_
  refine qs (f := dm_getf 15 7 0) rfl (dm_getf_ok ff_7) ?_
  refine qs (f := dm_ild 16 2) rfl rfl ?_
  refine qc (f := dm_inv 19 17 1 2) rfl (dm_inv_ok ff_9 rfl (Nat.le_of_ble_eq_true rfl)) (sy_26 t ht) ?_
  refine qs (f := dm_if_eq 22 55) rfl (dm_if_eq_t (by decide)) ?_
  refine qs (f := dm_push 56 (.int 0)) rfl rfl ?_
  exact qr (f := dm_ret .boolean) rfl rfl
set_option maxRecDepth 100000 in
theorem sy_37 (t : Int32) (ht : ¬ t = 0) : dm_ex dm_tb dm_cd 2000000 40 177 [.ref 68, .int 0, .int t] mm_1 = some (some (.int 0), mm_2) := by
  refine rx (Nat.le_of_ble_eq_true rfl) ?_
  refine qs (f := dm_ald 1 0) rfl rfl ?_
  refine qs (f := dm_push 2 (.int 0)) rfl rfl ?_
  refine qs (f := dm_putf 5 8 40 .int) rfl (dm_putf_same ff_10 rfl) ?_
  refine qs (f := dm_ald 6 0) rfl rfl ?_
  refine qs (f := dm_ild 7 1) rfl rfl ?_
  refine qc (f := dm_inv 10 137 1 8) rfl (dm_inv_ok ff_11 rfl (Nat.le_of_ble_eq_true rfl)) (ev_ok mc_2) ?_
  refine qs (f := dm_if_eq 13 21) rfl (dm_if_eq_f (by decide)) ?_
  refine qs (f := dm_ald 14 0) rfl rfl ?_
  refine qs (f := dm_ild 15 2) rfl rfl ?_
  refine qc (f := dm_inv 18 137 1 8) rfl (dm_inv_ok ff_13 rfl (Nat.le_of_ble_eq_true rfl)) (sy_28 t ht) ?_
  refine qs (f := dm_if_ne 21 23) rfl (dm_if_ne_f (by decide)) ?_
  refine qs (f := dm_push 22 (.int 0)) rfl rfl ?_
  exact qr (f := dm_ret .boolean) rfl rfl
set_option maxRecDepth 100000 in
theorem sy_38 (s : Int32) (t : Int32) (hs : ¬ s = 0) : dm_ex dm_tb dm_cd 2000000 39 126 [.ref 0, .int s, .int t] ev_3 = some (some (.int 0), ev_3) := by
  refine rx (Nat.le_of_ble_eq_true rfl) ?_
  refine qs (f := dm_ild 1 1) rfl rfl ?_
  refine qs (f := dm_ild 2 2) rfl rfl ?_
  by_cases hp11 : s = t
  · refine qs (f := dm_ic_eq 5 31) rfl (dm_ic_eq_t hp11) ?_
    refine qs (f := dm_push 32 (.int 0)) rfl rfl ?_
    exact qr (f := dm_ret .boolean) rfl rfl
  · refine qs (f := dm_ic_eq 5 31) rfl (dm_ic_eq_f hp11) ?_
    refine qs (f := dm_ald 6 0) rfl rfl ?_
    refine qs (f := dm_getf 9 7 0) rfl (dm_getf_ok ff_1) ?_
    refine qs (f := dm_ild 10 1) rfl rfl ?_
    refine qc (f := dm_inv 13 26 1 2) rfl (dm_inv_ok ff_3 rfl (Nat.le_of_ble_eq_true rfl)) (sy_2 s hs) ?_
    refine qs (f := dm_if_eq 16 31) rfl (dm_if_eq_t (by decide)) ?_
    refine qs (f := dm_push 32 (.int 0)) rfl rfl ?_
    exact qr (f := dm_ret .boolean) rfl rfl
set_option maxRecDepth 100000 in
theorem sy_39 (s : Int32) (t : Int32) (hs : ¬ s = 0) : dm_ex dm_tb dm_cd 2000000 40 98 [.ref 0, .int s, .int t] ev_3 = some (some (.int (-1)), ev_3) := by
  refine rx (Nat.le_of_ble_eq_true rfl) ?_
  refine qs (f := dm_ald 1 0) rfl rfl ?_
  refine qs (f := dm_ild 2 1) rfl rfl ?_
  refine qs (f := dm_ild 3 2) rfl rfl ?_
  refine qc (f := dm_inv 6 126 2 7) rfl (dm_inv_ok ff_14 rfl (Nat.le_of_ble_eq_true rfl)) (sy_38 s t hs) ?_
  refine qs (f := dm_if_ne 9 11) rfl (dm_if_ne_f (by decide)) ?_
  refine qs (f := dm_push 10 (.int (-1))) rfl rfl ?_
  exact qr (f := dm_ret .int) rfl rfl
set_option maxRecDepth 100000 in
theorem sy_40 (s : Int32) (t : Int32) (hs : ¬ s = 0) : dm_ex dm_tb dm_cd 2000000 40 167 [.ref 68, .int s, .int t] ev_3 = some (some (.int (-1)), ev_3) := by
  refine rx (Nat.le_of_ble_eq_true rfl) ?_
  refine qs (f := dm_ald 1 0) rfl rfl ?_
  refine qs (f := dm_push 2 (.int 0)) rfl rfl ?_
  refine qs (f := dm_putf 5 8 40 .int) rfl (dm_putf_same ff_4 rfl) ?_
  refine qs (f := dm_ald 6 0) rfl rfl ?_
  refine qs (f := dm_ild 7 1) rfl rfl ?_
  refine qc (f := dm_inv 10 138 1 8) rfl (dm_inv_ok ff_6 rfl (Nat.le_of_ble_eq_true rfl)) (sy_6 s hs) ?_
  refine qs (f := dm_if_eq 13 26) rfl (dm_if_eq_t (by decide)) ?_
  refine qs (f := dm_push 27 (.int (-1))) rfl rfl ?_
  exact qr (f := dm_ret .int) rfl rfl
set_option maxRecDepth 100000 in
theorem sy_41 (t : Int32) (ht : ¬ t = 0) : dm_ex dm_tb dm_cd 2000000 37 17 [.ref 1, .int t] mm_3 = some (some (.int 0), mm_3) := by
  refine rx (Nat.le_of_ble_eq_true rfl) ?_
  refine qs (f := dm_ild 1 1) rfl rfl ?_
  by_cases hp11 : t < (0 : Int32)
  · refine qs (f := dm_if_lt 4 16) rfl (dm_if_lt_t hp11) ?_
    refine qs (f := dm_push 17 (.int 0)) rfl rfl ?_
    exact qr (f := dm_ret .boolean) rfl rfl
  · refine qs (f := dm_if_lt 4 16) rfl (dm_if_lt_f hp11) ?_
    refine qs (f := dm_ild 5 1) rfl rfl ?_
    refine qs (f := dm_ald 6 0) rfl rfl ?_
    refine qs (f := dm_getf 9 2 9) rfl (dm_getf_ok ff_16) ?_
    refine qs (f := dm_ic_ge 12 16) rfl (dm_ic_ge_t (i_01 hp11 ht)) ?_
    refine qs (f := dm_push 17 (.int 0)) rfl rfl ?_
    exact qr (f := dm_ret .boolean) rfl rfl
set_option maxRecDepth 100000 in
theorem sy_42 (t : Int32) (ht : ¬ t = 0) : dm_ex dm_tb dm_cd 2000000 38 26 [.ref 1, .int t] mm_3 = some (some (.int 0), mm_3) := by
  refine rx (Nat.le_of_ble_eq_true rfl) ?_
  refine qs (f := dm_ald 1 0) rfl rfl ?_
  refine qs (f := dm_ild 2 1) rfl rfl ?_
  refine qc (f := dm_inv 5 17 1 2) rfl (dm_inv_ok ff_17 rfl (Nat.le_of_ble_eq_true rfl)) (sy_41 t ht) ?_
  refine qs (f := dm_if_eq 8 21) rfl (dm_if_eq_t (by decide)) ?_
  refine qs (f := dm_push 22 (.int 0)) rfl rfl ?_
  exact qr (f := dm_ret .boolean) rfl rfl
set_option maxRecDepth 100000 in
theorem sy_43 (t : Int32) (ht : ¬ t = 0) : dm_ex dm_tb dm_cd 2000000 39 126 [.ref 0, .int 0, .int t] ev_3 = some (some (.int 0), mm_3) := by
  refine rx (Nat.le_of_ble_eq_true rfl) ?_
  refine qs (f := dm_ild 1 1) rfl rfl ?_
  refine qs (f := dm_ild 2 2) rfl rfl ?_
  refine qs (f := dm_ic_eq 5 31) rfl (dm_ic_eq_f (fun q => ht q.symm)) ?_
  refine qs (f := dm_ald 6 0) rfl rfl ?_
  refine qs (f := dm_getf 9 7 0) rfl (dm_getf_ok ff_1) ?_
  refine qs (f := dm_ild 10 1) rfl rfl ?_
  refine qc (f := dm_inv 13 26 1 2) rfl (dm_inv_ok ff_3 rfl (Nat.le_of_ble_eq_true rfl)) (ev_ok mc_3) ?_
  refine qs (f := dm_if_eq 16 31) rfl (dm_if_eq_f (by decide)) ?_
  refine qs (f := dm_ald 17 0) rfl rfl ?_
  refine qs (f := dm_getf 20 7 0) rfl (dm_getf_ok ff_15) ?_
  refine qs (f := dm_ild 21 2) rfl rfl ?_
  refine qc (f := dm_inv 24 26 1 2) rfl (dm_inv_ok ff_17 rfl (Nat.le_of_ble_eq_true rfl)) (sy_42 t ht) ?_
  refine qs (f := dm_if_eq 27 31) rfl (dm_if_eq_t (by decide)) ?_
  refine qs (f := dm_push 32 (.int 0)) rfl rfl ?_
  exact qr (f := dm_ret .boolean) rfl rfl
set_option maxRecDepth 100000 in
theorem sy_44 (t : Int32) (ht : ¬ t = 0) : dm_ex dm_tb dm_cd 2000000 40 98 [.ref 0, .int 0, .int t] ev_3 = some (some (.int (-1)), mm_3) := by
  refine rx (Nat.le_of_ble_eq_true rfl) ?_
  refine qs (f := dm_ald 1 0) rfl rfl ?_
  refine qs (f := dm_ild 2 1) rfl rfl ?_
  refine qs (f := dm_ild 3 2) rfl rfl ?_
  refine qc (f := dm_inv 6 126 2 7) rfl (dm_inv_ok ff_14 rfl (Nat.le_of_ble_eq_true rfl)) (sy_43 t ht) ?_
  refine qs (f := dm_if_ne 9 11) rfl (dm_if_ne_f (by decide)) ?_
  refine qs (f := dm_push 10 (.int (-1))) rfl rfl ?_
  exact qr (f := dm_ret .int) rfl rfl
set_option maxRecDepth 100000 in
theorem sy_45 (t : Int32) (ht : ¬ t = 0) : dm_ex dm_tb dm_cd 2000000 38 137 [.ref 68, .int t] mm_4 = some (some (.int 0), mm_4) := by
  refine rx (Nat.le_of_ble_eq_true rfl) ?_
  refine qs (f := dm_ild 1 1) rfl rfl ?_
  by_cases hp11 : t < (0 : Int32)
  · refine qs (f := dm_if_lt 4 16) rfl (dm_if_lt_t hp11) ?_
    refine qs (f := dm_push 17 (.int 0)) rfl rfl ?_
    exact qr (f := dm_ret .boolean) rfl rfl
  · refine qs (f := dm_if_lt 4 16) rfl (dm_if_lt_f hp11) ?_
    refine qs (f := dm_ild 5 1) rfl rfl ?_
    refine qs (f := dm_ald 6 0) rfl rfl ?_
    refine qs (f := dm_getf 9 8 15) rfl (dm_getf_ok ff_20) ?_
    refine qs (f := dm_ic_ge 12 16) rfl (dm_ic_ge_t (i_01 hp11 ht)) ?_
    refine qs (f := dm_push 17 (.int 0)) rfl rfl ?_
    exact qr (f := dm_ret .boolean) rfl rfl
set_option maxRecDepth 100000 in
theorem sy_46 (t : Int32) (ht : ¬ t = 0) : dm_ex dm_tb dm_cd 2000000 39 138 [.ref 68, .int t] mm_4 = some (some (.int 0), mm_4) := by
  refine rx (Nat.le_of_ble_eq_true rfl) ?_
  refine qs (f := dm_ald 1 0) rfl rfl ?_
  refine qs (f := dm_ild 2 1) rfl rfl ?_
  refine qc (f := dm_inv 5 137 1 8) rfl (dm_inv_ok ff_21 rfl (Nat.le_of_ble_eq_true rfl)) (sy_45 t ht) ?_
  refine qs (f := dm_if_eq 8 21) rfl (dm_if_eq_t (by decide)) ?_
  refine qs (f := dm_push 22 (.int 0)) rfl rfl ?_
  exact qr (f := dm_ret .boolean) rfl rfl
set_option maxRecDepth 100000 in
theorem sy_47 (t : Int32) (ht : ¬ t = 0) : dm_ex dm_tb dm_cd 2000000 40 167 [.ref 68, .int 0, .int t] mm_3 = some (some (.int (-1)), mm_4) := by
  refine rx (Nat.le_of_ble_eq_true rfl) ?_
  refine qs (f := dm_ald 1 0) rfl rfl ?_
  refine qs (f := dm_push 2 (.int 0)) rfl rfl ?_
  refine qs (f := dm_putf 5 8 40 .int) rfl (dm_putf_same ff_18 rfl) ?_
  refine qs (f := dm_ald 6 0) rfl rfl ?_
  refine qs (f := dm_ild 7 1) rfl rfl ?_
  refine qc (f := dm_inv 10 138 1 8) rfl (dm_inv_ok ff_19 rfl (Nat.le_of_ble_eq_true rfl)) (ev_ok mc_4) ?_
  refine qs (f := dm_if_eq 13 26) rfl (dm_if_eq_f (by decide)) ?_
  refine qs (f := dm_ald 14 0) rfl rfl ?_
  refine qs (f := dm_ild 15 2) rfl rfl ?_
  refine qc (f := dm_inv 18 138 1 8) rfl (dm_inv_ok ff_21 rfl (Nat.le_of_ble_eq_true rfl)) (sy_46 t ht) ?_
  refine qs (f := dm_if_eq 21 26) rfl (dm_if_eq_t (by decide)) ?_
  refine qs (f := dm_push 27 (.int (-1))) rfl rfl ?_
  exact qr (f := dm_ret .int) rfl rfl
set_option maxRecDepth 100000 in
theorem sy_48 (s : Int32) (t : Int32) (hs : ¬ s = 0) : dm_ex dm_tb dm_cd 2000000 40 101 [.ref 0, .int s, .int t] ev_3 = some (some (.int (-1)), ev_3) := by
  refine rx (Nat.le_of_ble_eq_true rfl) ?_
  refine qs (f := dm_ald 1 0) rfl rfl ?_
  refine qs (f := dm_ild 2 1) rfl rfl ?_
  refine qs (f := dm_ild 3 2) rfl rfl ?_
  refine qc (f := dm_inv 6 126 2 7) rfl (dm_inv_ok ff_14 rfl (Nat.le_of_ble_eq_true rfl)) (sy_38 s t hs) ?_
  refine qs (f := dm_if_eq 9 31) rfl (dm_if_eq_t (by decide)) ?_
  refine qs (f := dm_push 32 (.int (-1))) rfl rfl ?_
  exact qr (f := dm_ret .int) rfl rfl
set_option maxRecDepth 100000 in
theorem sy_49 (s : Int32) (t : Int32) (hs : ¬ s = 0) : dm_ex dm_tb dm_cd 2000000 40 170 [.ref 68, .int s, .int t] ev_3 = some (some (.int (-1)), ev_3) := by
  refine rx (Nat.le_of_ble_eq_true rfl) ?_
  refine qs (f := dm_ald 1 0) rfl rfl ?_
  refine qs (f := dm_push 2 (.int 0)) rfl rfl ?_
  refine qs (f := dm_putf 5 8 40 .int) rfl (dm_putf_same ff_4 rfl) ?_
  refine qs (f := dm_ald 6 0) rfl rfl ?_
  refine qs (f := dm_ild 7 1) rfl rfl ?_
  refine qc (f := dm_inv 10 138 1 8) rfl (dm_inv_ok ff_6 rfl (Nat.le_of_ble_eq_true rfl)) (sy_6 s hs) ?_
  refine qs (f := dm_if_eq 13 42) rfl (dm_if_eq_t (by decide)) ?_
  refine qs (f := dm_push 43 (.int (-1))) rfl rfl ?_
  exact qr (f := dm_ret .int) rfl rfl
set_option maxRecDepth 100000 in
theorem sy_50 (t : Int32) (ht : ¬ t = 0) : dm_ex dm_tb dm_cd 2000000 40 101 [.ref 0, .int 0, .int t] ev_3 = some (some (.int (-1)), mm_3) := by
  refine rx (Nat.le_of_ble_eq_true rfl) ?_
  refine qs (f := dm_ald 1 0) rfl rfl ?_
  refine qs (f := dm_ild 2 1) rfl rfl ?_
  refine qs (f := dm_ild 3 2) rfl rfl ?_
  refine qc (f := dm_inv 6 126 2 7) rfl (dm_inv_ok ff_14 rfl (Nat.le_of_ble_eq_true rfl)) (sy_43 t ht) ?_
  refine qs (f := dm_if_eq 9 31) rfl (dm_if_eq_t (by decide)) ?_
  refine qs (f := dm_push 32 (.int (-1))) rfl rfl ?_
  exact qr (f := dm_ret .int) rfl rfl
set_option maxRecDepth 100000 in
theorem sy_51 (t : Int32) (ht : ¬ t = 0) : dm_ex dm_tb dm_cd 2000000 40 170 [.ref 68, .int 0, .int t] mm_3 = some (some (.int (-1)), mm_4) := by
  refine rx (Nat.le_of_ble_eq_true rfl) ?_
  refine qs (f := dm_ald 1 0) rfl rfl ?_
  refine qs (f := dm_push 2 (.int 0)) rfl rfl ?_
  refine qs (f := dm_putf 5 8 40 .int) rfl (dm_putf_same ff_18 rfl) ?_
  refine qs (f := dm_ald 6 0) rfl rfl ?_
  refine qs (f := dm_ild 7 1) rfl rfl ?_
  refine qc (f := dm_inv 10 138 1 8) rfl (dm_inv_ok ff_19 rfl (Nat.le_of_ble_eq_true rfl)) (ev_ok mc_4) ?_
  refine qs (f := dm_if_eq 13 42) rfl (dm_if_eq_f (by decide)) ?_
  refine qs (f := dm_ald 14 0) rfl rfl ?_
  refine qs (f := dm_ild 15 2) rfl rfl ?_
  refine qc (f := dm_inv 18 138 1 8) rfl (dm_inv_ok ff_21 rfl (Nat.le_of_ble_eq_true rfl)) (sy_46 t ht) ?_
  refine qs (f := dm_if_eq 21 42) rfl (dm_if_eq_t (by decide)) ?_
  refine qs (f := dm_push 43 (.int (-1))) rfl rfl ?_
  exact qr (f := dm_ret .int) rfl rfl
set_option maxRecDepth 100000 in
theorem sy_52 (s : Int32) (t : Int32) (hs : ¬ s = 0) : dm_ex dm_tb dm_cd 2000000 40 103 [.ref 0, .int s, .int t] ev_3 = some (some (.int (-1)), ev_3) := by
  refine rx (Nat.le_of_ble_eq_true rfl) ?_
  refine qs (f := dm_ald 1 0) rfl rfl ?_
  refine qs (f := dm_getf 4 7 0) rfl (dm_getf_ok ff_1) ?_
  refine qs (f := dm_ild 5 1) rfl rfl ?_
  refine qc (f := dm_inv 8 26 1 2) rfl (dm_inv_ok ff_3 rfl (Nat.le_of_ble_eq_true rfl)) (sy_11 s hs) ?_
  refine qs (f := dm_if_eq 11 31) rfl (dm_if_eq_t (by decide)) ?_
  refine qs (f := dm_push 32 (.int (-1))) rfl rfl ?_
  exact qr (f := dm_ret .int) rfl rfl
set_option maxRecDepth 100000 in
theorem sy_53 (s : Int32) (t : Int32) (hs : ¬ s = 0) : dm_ex dm_tb dm_cd 2000000 40 172 [.ref 68, .int s, .int t] ev_3 = some (some (.int (-1)), ev_3) := by
  refine rx (Nat.le_of_ble_eq_true rfl) ?_
  refine qs (f := dm_ald 1 0) rfl rfl ?_
  refine qs (f := dm_push 2 (.int 0)) rfl rfl ?_
  refine qs (f := dm_putf 5 8 40 .int) rfl (dm_putf_same ff_4 rfl) ?_
  refine qs (f := dm_ald 6 0) rfl rfl ?_
  refine qs (f := dm_ild 7 1) rfl rfl ?_
  refine qc (f := dm_inv 10 138 1 8) rfl (dm_inv_ok ff_6 rfl (Nat.le_of_ble_eq_true rfl)) (sy_6 s hs) ?_
  refine qs (f := dm_if_eq 13 39) rfl (dm_if_eq_t (by decide)) ?_
  refine qs (f := dm_push 40 (.int (-1))) rfl rfl ?_
  exact qr (f := dm_ret .int) rfl rfl
set_option maxRecDepth 100000 in
theorem sy_54 (t : Int32) (ht : ¬ t = 0) : dm_ex dm_tb dm_cd 2000000 38 17 [.ref 1, .int t] mm_5 = some (some (.int 0), mm_5) := by
  refine rx (Nat.le_of_ble_eq_true rfl) ?_
  refine qs (f := dm_ild 1 1) rfl rfl ?_
  by_cases hp11 : t < (0 : Int32)
  · refine qs (f := dm_if_lt 4 16) rfl (dm_if_lt_t hp11) ?_
    refine qs (f := dm_push 17 (.int 0)) rfl rfl ?_
    exact qr (f := dm_ret .boolean) rfl rfl
  · refine qs (f := dm_if_lt 4 16) rfl (dm_if_lt_f hp11) ?_
    refine qs (f := dm_ild 5 1) rfl rfl ?_
    refine qs (f := dm_ald 6 0) rfl rfl ?_
    refine qs (f := dm_getf 9 2 9) rfl (dm_getf_ok ff_23) ?_
    refine qs (f := dm_ic_ge 12 16) rfl (dm_ic_ge_t (i_01 hp11 ht)) ?_
    refine qs (f := dm_push 17 (.int 0)) rfl rfl ?_
    exact qr (f := dm_ret .boolean) rfl rfl
set_option maxRecDepth 100000 in
theorem sy_55 (t : Int32) (ht : ¬ t = 0) : dm_ex dm_tb dm_cd 2000000 39 28 [.ref 1, .int t] mm_5 = some (some (.int 0), mm_5) := by
  refine rx (Nat.le_of_ble_eq_true rfl) ?_
  refine qs (f := dm_ald 1 0) rfl rfl ?_
  refine qs (f := dm_ild 2 1) rfl rfl ?_
  refine qc (f := dm_inv 5 17 1 2) rfl (dm_inv_ok ff_24 rfl (Nat.le_of_ble_eq_true rfl)) (sy_54 t ht) ?_
  refine qs (f := dm_if_eq 8 21) rfl (dm_if_eq_t (by decide)) ?_
  refine qs (f := dm_push 22 (.int 0)) rfl rfl ?_
  exact qr (f := dm_ret .boolean) rfl rfl
set_option maxRecDepth 100000 in
theorem sy_56 (t : Int32) (ht : ¬ t = 0) : dm_ex dm_tb dm_cd 2000000 40 103 [.ref 0, .int 0, .int t] ev_3 = some (some (.int (-1)), mm_5) := by
  refine rx (Nat.le_of_ble_eq_true rfl) ?_
  refine qs (f := dm_ald 1 0) rfl rfl ?_
  refine qs (f := dm_getf 4 7 0) rfl (dm_getf_ok ff_1) ?_
  refine qs (f := dm_ild 5 1) rfl rfl ?_
  refine qc (f := dm_inv 8 26 1 2) rfl (dm_inv_ok ff_3 rfl (Nat.le_of_ble_eq_true rfl)) (ev_ok mc_5) ?_
  refine qs (f := dm_if_eq 11 31) rfl (dm_if_eq_f (by decide)) ?_
  refine qs (f := dm_ald 12 0) rfl rfl ?_
  refine qs (f := dm_getf 15 7 0) rfl (dm_getf_ok ff_22) ?_
  refine qs (f := dm_ild 16 2) rfl rfl ?_
  refine qc (f := dm_inv 19 28 1 2) rfl (dm_inv_ok ff_24 rfl (Nat.le_of_ble_eq_true rfl)) (sy_55 t ht) ?_
  refine qs (f := dm_if_eq 22 31) rfl (dm_if_eq_t (by decide)) ?_
  refine qs (f := dm_push 32 (.int (-1))) rfl rfl ?_
  exact qr (f := dm_ret .int) rfl rfl
set_option maxRecDepth 100000 in
theorem sy_57 (t : Int32) (ht : ¬ t = 0) : dm_ex dm_tb dm_cd 2000000 39 137 [.ref 68, .int t] mm_6 = some (some (.int 0), mm_6) := by
  refine rx (Nat.le_of_ble_eq_true rfl) ?_
  refine qs (f := dm_ild 1 1) rfl rfl ?_
  by_cases hp11 : t < (0 : Int32)
  · refine qs (f := dm_if_lt 4 16) rfl (dm_if_lt_t hp11) ?_
    refine qs (f := dm_push 17 (.int 0)) rfl rfl ?_
    exact qr (f := dm_ret .boolean) rfl rfl
  · refine qs (f := dm_if_lt 4 16) rfl (dm_if_lt_f hp11) ?_
    refine qs (f := dm_ild 5 1) rfl rfl ?_
    refine qs (f := dm_ald 6 0) rfl rfl ?_
    refine qs (f := dm_getf 9 8 15) rfl (dm_getf_ok ff_27) ?_
    refine qs (f := dm_ic_ge 12 16) rfl (dm_ic_ge_t (i_01 hp11 ht)) ?_
    refine qs (f := dm_push 17 (.int 0)) rfl rfl ?_
    exact qr (f := dm_ret .boolean) rfl rfl
set_option maxRecDepth 100000 in
theorem sy_58 (t : Int32) (ht : ¬ t = 0) : dm_ex dm_tb dm_cd 2000000 40 172 [.ref 68, .int 0, .int t] mm_5 = some (some (.int (-1)), mm_6) := by
  refine rx (Nat.le_of_ble_eq_true rfl) ?_
  refine qs (f := dm_ald 1 0) rfl rfl ?_
  refine qs (f := dm_push 2 (.int 0)) rfl rfl ?_
  refine qs (f := dm_putf 5 8 40 .int) rfl (dm_putf_same ff_25 rfl) ?_
  refine qs (f := dm_ald 6 0) rfl rfl ?_
  refine qs (f := dm_ild 7 1) rfl rfl ?_
  refine qc (f := dm_inv 10 138 1 8) rfl (dm_inv_ok ff_26 rfl (Nat.le_of_ble_eq_true rfl)) (ev_ok mc_6) ?_
  refine qs (f := dm_if_eq 13 39) rfl (dm_if_eq_f (by decide)) ?_
  refine qs (f := dm_ald 14 0) rfl rfl ?_
  refine qs (f := dm_ild 15 2) rfl rfl ?_
  refine qc (f := dm_inv 18 137 1 8) rfl (dm_inv_ok ff_28 rfl (Nat.le_of_ble_eq_true rfl)) (sy_57 t ht) ?_
  refine qs (f := dm_if_eq 21 39) rfl (dm_if_eq_t (by decide)) ?_
  refine qs (f := dm_push 40 (.int (-1))) rfl rfl ?_
  exact qr (f := dm_ret .int) rfl rfl
set_option maxRecDepth 100000 in
theorem sy_59 (s : Int32) (t : Int32) (hs : ¬ s = 0) : dm_ex dm_tb dm_cd 2000000 39 105 [.ref 0, .int s, .int t] ev_3 = some (some (.int (-1)), ev_3) := by
  refine rx (Nat.le_of_ble_eq_true rfl) ?_
  refine qs (f := dm_ald 1 0) rfl rfl ?_
  refine qs (f := dm_getf 4 7 0) rfl (dm_getf_ok ff_1) ?_
  refine qs (f := dm_ild 5 1) rfl rfl ?_
  refine qc (f := dm_inv 8 17 1 2) rfl (dm_inv_ok ff_3 rfl (Nat.le_of_ble_eq_true rfl)) (sy_10 s hs) ?_
  refine qs (f := dm_if_eq 11 22) rfl (dm_if_eq_t (by decide)) ?_
  refine qs (f := dm_push 23 (.int (-1))) rfl rfl ?_
  exact qr (f := dm_ret .int) rfl rfl
set_option maxRecDepth 100000 in
theorem sy_60 (s : Int32) (t : Int32) (w : Int32) (hs : ¬ s = 0) : dm_ex dm_tb dm_cd 2000000 40 111 [.ref 0, .int s, .int t, .int w] ev_3 = some (some (.int 0), ev_3) := by
  refine rx (Nat.le_of_ble_eq_true rfl) ?_
  refine qs (f := dm_ald 1 0) rfl rfl ?_
  refine qs (f := dm_ild 2 1) rfl rfl ?_
  refine qs (f := dm_ild 3 2) rfl rfl ?_
  refine qc (f := dm_inv 6 105 2 7) rfl (dm_inv_ok ff_14 rfl (Nat.le_of_ble_eq_true rfl)) (sy_59 s t hs) ?_
  refine qs (f := dm_push 7 (.int 3)) rfl rfl ?_
  refine qs (f := dm_ic_ne 10 19) rfl (dm_ic_ne_t (by decide)) ?_
  refine qs (f := dm_push 20 (.int 0)) rfl rfl ?_
  exact qr (f := dm_ret .boolean) rfl rfl
set_option maxRecDepth 100000 in
theorem sy_61 (s : Int32) (t : Int32) (w : Int32) (hs : ¬ s = 0) : dm_ex dm_tb dm_cd 2000000 40 185 [.ref 68, .int s, .int t, .int w] ev_3 = some (some (.int 0), ev_3) := by
  refine rx (Nat.le_of_ble_eq_true rfl) ?_
  refine qs (f := dm_ald 1 0) rfl rfl ?_
  refine qs (f := dm_push 2 (.int 0)) rfl rfl ?_
  refine qs (f := dm_putf 5 8 40 .int) rfl (dm_putf_same ff_4 rfl) ?_
  refine qs (f := dm_ald 6 0) rfl rfl ?_
  refine qs (f := dm_ild 7 1) rfl rfl ?_
  refine qc (f := dm_inv 10 137 1 8) rfl (dm_inv_ok ff_6 rfl (Nat.le_of_ble_eq_true rfl)) (sy_20 s hs) ?_
  refine qs (f := dm_if_eq 13 48) rfl (dm_if_eq_t (by decide)) ?_
  refine qs (f := dm_push 49 (.int 0)) rfl rfl ?_
  exact qr (f := dm_ret .boolean) rfl rfl
set_option maxRecDepth 100000 in
theorem sy_62 (t : Int32) (ht : ¬ t = 0) : dm_ex dm_tb dm_cd 2000000 38 17 [.ref 1, .int t] mm_7 = some (some (.int 0), mm_7) := by
  refine rx (Nat.le_of_ble_eq_true rfl) ?_
  refine qs (f := dm_ild 1 1) rfl rfl ?_
  by_cases hp11 : t < (0 : Int32)
  · refine qs (f := dm_if_lt 4 16) rfl (dm_if_lt_t hp11) ?_
    refine qs (f := dm_push 17 (.int 0)) rfl rfl ?_
    exact qr (f := dm_ret .boolean) rfl rfl
  · refine qs (f := dm_if_lt 4 16) rfl (dm_if_lt_f hp11) ?_
    refine qs (f := dm_ild 5 1) rfl rfl ?_
    refine qs (f := dm_ald 6 0) rfl rfl ?_
    refine qs (f := dm_getf 9 2 9) rfl (dm_getf_ok ff_30) ?_
    refine qs (f := dm_ic_ge 12 16) rfl (dm_ic_ge_t (i_01 hp11 ht)) ?_
    refine qs (f := dm_push 17 (.int 0)) rfl rfl ?_
    exact qr (f := dm_ret .boolean) rfl rfl
set_option maxRecDepth 100000 in
theorem sy_63 (t : Int32) (ht : ¬ t = 0) : dm_ex dm_tb dm_cd 2000000 39 105 [.ref 0, .int 0, .int t] ev_3 = some (some (.int (-1)), mm_7) := by
  refine rx (Nat.le_of_ble_eq_true rfl) ?_
  refine qs (f := dm_ald 1 0) rfl rfl ?_
  refine qs (f := dm_getf 4 7 0) rfl (dm_getf_ok ff_1) ?_
  refine qs (f := dm_ild 5 1) rfl rfl ?_
  refine qc (f := dm_inv 8 17 1 2) rfl (dm_inv_ok ff_3 rfl (Nat.le_of_ble_eq_true rfl)) (ev_ok mc_7) ?_
  refine qs (f := dm_if_eq 11 22) rfl (dm_if_eq_f (by decide)) ?_
  refine qs (f := dm_ald 12 0) rfl rfl ?_
  refine qs (f := dm_getf 15 7 0) rfl (dm_getf_ok ff_29) ?_
  refine qs (f := dm_ild 16 2) rfl rfl ?_
  refine qc (f := dm_inv 19 17 1 2) rfl (dm_inv_ok ff_31 rfl (Nat.le_of_ble_eq_true rfl)) (sy_62 t ht) ?_
  refine qs (f := dm_if_ne 22 24) rfl (dm_if_ne_f (by decide)) ?_
  refine qs (f := dm_push 23 (.int (-1))) rfl rfl ?_
  exact qr (f := dm_ret .int) rfl rfl
set_option maxRecDepth 100000 in
theorem sy_64 (t : Int32) (w : Int32) (ht : ¬ t = 0) : dm_ex dm_tb dm_cd 2000000 40 111 [.ref 0, .int 0, .int t, .int w] ev_3 = some (some (.int 0), mm_7) := by
  refine rx (Nat.le_of_ble_eq_true rfl) ?_
  refine qs (f := dm_ald 1 0) rfl rfl ?_
  refine qs (f := dm_ild 2 1) rfl rfl ?_
  refine qs (f := dm_ild 3 2) rfl rfl ?_
  refine qc (f := dm_inv 6 105 2 7) rfl (dm_inv_ok ff_14 rfl (Nat.le_of_ble_eq_true rfl)) (sy_63 t ht) ?_
  refine qs (f := dm_push 7 (.int 3)) rfl rfl ?_
  refine qs (f := dm_ic_ne 10 19) rfl (dm_ic_ne_t (by decide)) ?_
  refine qs (f := dm_push 20 (.int 0)) rfl rfl ?_
  exact qr (f := dm_ret .boolean) rfl rfl
set_option maxRecDepth 100000 in
theorem sy_65 (t : Int32) (ht : ¬ t = 0) : dm_ex dm_tb dm_cd 2000000 39 137 [.ref 68, .int t] mm_8 = some (some (.int 0), mm_8) := by
  refine rx (Nat.le_of_ble_eq_true rfl) ?_
  refine qs (f := dm_ild 1 1) rfl rfl ?_
  by_cases hp11 : t < (0 : Int32)
  · refine qs (f := dm_if_lt 4 16) rfl (dm_if_lt_t hp11) ?_
    refine qs (f := dm_push 17 (.int 0)) rfl rfl ?_
    exact qr (f := dm_ret .boolean) rfl rfl
  · refine qs (f := dm_if_lt 4 16) rfl (dm_if_lt_f hp11) ?_
    refine qs (f := dm_ild 5 1) rfl rfl ?_
    refine qs (f := dm_ald 6 0) rfl rfl ?_
    refine qs (f := dm_getf 9 8 15) rfl (dm_getf_ok ff_34) ?_
    refine qs (f := dm_ic_ge 12 16) rfl (dm_ic_ge_t (i_01 hp11 ht)) ?_
    refine qs (f := dm_push 17 (.int 0)) rfl rfl ?_
    exact qr (f := dm_ret .boolean) rfl rfl
set_option maxRecDepth 100000 in
theorem sy_66 (t : Int32) (w : Int32) (ht : ¬ t = 0) : dm_ex dm_tb dm_cd 2000000 40 185 [.ref 68, .int 0, .int t, .int w] mm_7 = some (some (.int 0), mm_8) := by
  refine rx (Nat.le_of_ble_eq_true rfl) ?_
  refine qs (f := dm_ald 1 0) rfl rfl ?_
  refine qs (f := dm_push 2 (.int 0)) rfl rfl ?_
  refine qs (f := dm_putf 5 8 40 .int) rfl (dm_putf_same ff_32 rfl) ?_
  refine qs (f := dm_ald 6 0) rfl rfl ?_
  refine qs (f := dm_ild 7 1) rfl rfl ?_
  refine qc (f := dm_inv 10 137 1 8) rfl (dm_inv_ok ff_33 rfl (Nat.le_of_ble_eq_true rfl)) (ev_ok mc_8) ?_
  refine qs (f := dm_if_eq 13 48) rfl (dm_if_eq_f (by decide)) ?_
  refine qs (f := dm_ald 14 0) rfl rfl ?_
  refine qs (f := dm_ild 15 2) rfl rfl ?_
  refine qc (f := dm_inv 18 137 1 8) rfl (dm_inv_ok ff_35 rfl (Nat.le_of_ble_eq_true rfl)) (sy_65 t ht) ?_
  refine qs (f := dm_if_eq 21 48) rfl (dm_if_eq_t (by decide)) ?_
  refine qs (f := dm_push 49 (.int 0)) rfl rfl ?_
  exact qr (f := dm_ret .boolean) rfl rfl
set_option maxRecDepth 100000 in
theorem sy_67 (w : Int32)  : dm_ex dm_tb dm_cd 2000000 40 111 [.ref 0, .int 0, .int 0, .int w] ev_3 = some (some (.int 0), mm_9) := by
  refine rx (Nat.le_of_ble_eq_true rfl) ?_
  refine qs (f := dm_ald 1 0) rfl rfl ?_
  refine qs (f := dm_ild 2 1) rfl rfl ?_
  refine qs (f := dm_ild 3 2) rfl rfl ?_
  refine qc (f := dm_inv 6 105 2 7) rfl (dm_inv_ok ff_14 rfl (Nat.le_of_ble_eq_true rfl)) (ev_ok mc_9) ?_
  refine qs (f := dm_push 7 (.int 3)) rfl rfl ?_
  refine qs (f := dm_ic_ne 10 19) rfl (dm_ic_ne_t (by decide)) ?_
  refine qs (f := dm_push 20 (.int 0)) rfl rfl ?_
  exact qr (f := dm_ret .boolean) rfl rfl
set_option maxRecDepth 100000 in
theorem sy_68 (w : Int32)  : dm_ex dm_tb dm_cd 2000000 40 185 [.ref 68, .int 0, .int 0, .int w] mm_9 = some (some (.int 0), mm_12) := by
  refine rx (Nat.le_of_ble_eq_true rfl) ?_
  refine qs (f := dm_ald 1 0) rfl rfl ?_
  refine qs (f := dm_push 2 (.int 0)) rfl rfl ?_
  refine qs (f := dm_putf 5 8 40 .int) rfl (dm_putf_same ff_36 rfl) ?_
  refine qs (f := dm_ald 6 0) rfl rfl ?_
  refine qs (f := dm_ild 7 1) rfl rfl ?_
  refine qc (f := dm_inv 10 137 1 8) rfl (dm_inv_ok ff_37 rfl (Nat.le_of_ble_eq_true rfl)) (ev_ok mc_10) ?_
  refine qs (f := dm_if_eq 13 48) rfl (dm_if_eq_f (by decide)) ?_
  refine qs (f := dm_ald 14 0) rfl rfl ?_
  refine qs (f := dm_ild 15 2) rfl rfl ?_
  refine qc (f := dm_inv 18 137 1 8) rfl (dm_inv_ok ff_38 rfl (Nat.le_of_ble_eq_true rfl)) (ev_ok mc_11) ?_
  refine qs (f := dm_if_eq 21 48) rfl (dm_if_eq_f (by decide)) ?_
  refine qs (f := dm_ald 22 0) rfl rfl ?_
  refine qs (f := dm_ild 23 1) rfl rfl ?_
  refine qs (f := dm_ild 24 2) rfl rfl ?_
  refine qc (f := dm_inv 27 174 2 8) rfl (dm_inv_ok ff_39 rfl (Nat.le_of_ble_eq_true rfl)) (ev_ok mc_12) ?_
  refine qs (f := dm_if_ne 30 48) rfl (dm_if_ne_t (by decide)) ?_
  refine qs (f := dm_push 49 (.int 0)) rfl rfl ?_
  exact qr (f := dm_ret .boolean) rfl rfl
set_option maxRecDepth 100000 in
theorem sy_69 (w : Int32) (hw : w.toInt < 0 ∨ 10 < w.toInt) : dm_ex dm_tb dm_cd 2000000 40 110 [.ref 0, .int 0, .int w] ev_3 = some (some (.int (-1)), mm_1) := by
  refine rx (Nat.le_of_ble_eq_true rfl) ?_
  refine qs (f := dm_ald 1 0) rfl rfl ?_
  refine qs (f := dm_getf 4 7 0) rfl (dm_getf_ok ff_1) ?_
  refine qs (f := dm_ild 5 1) rfl rfl ?_
  refine qc (f := dm_inv 8 17 1 2) rfl (dm_inv_ok ff_3 rfl (Nat.le_of_ble_eq_true rfl)) (ev_ok mc_1) ?_
  refine qs (f := dm_if_ne 11 13) rfl (dm_if_ne_t (by decide)) ?_
  refine qs (f := dm_ild 14 2) rfl rfl ?_
  refine qs (f := dm_tsw 0 10 228 [72, 89, 108, 127, 136, 145, 154, 160, 179, 198, 215]) rfl (dm_tsw_d (hw)) ?_
  refine qs (f := dm_push 229 (.int (-1))) rfl rfl ?_
  exact qr (f := dm_ret .int) rfl rfl
set_option maxRecDepth 100000 in
theorem sy_70 (w : Int32) (hw : w.toInt < 0 ∨ 10 < w.toInt) : dm_ex dm_tb dm_cd 2000000 40 182 [.ref 68, .int 0, .int w] mm_1 = some (some (.int (-1)), mm_14) := by
  refine rx (Nat.le_of_ble_eq_true rfl) ?_
  refine qs (f := dm_ald 1 0) rfl rfl ?_
  refine qs (f := dm_push 2 (.int 0)) rfl rfl ?_
  refine qs (f := dm_putf 5 8 40 .int) rfl (dm_putf_same ff_10 rfl) ?_
  refine qs (f := dm_ald 6 0) rfl rfl ?_
  refine qs (f := dm_ild 7 1) rfl rfl ?_
  refine qc (f := dm_inv 10 137 1 8) rfl (dm_inv_ok ff_11 rfl (Nat.le_of_ble_eq_true rfl)) (ev_ok mc_2) ?_
  refine qs (f := dm_if_ne 13 15) rfl (dm_if_ne_t (by decide)) ?_
  refine qs (f := dm_ald 16 0) rfl rfl ?_
  refine qs (f := dm_ild 17 1) rfl rfl ?_
  refine qc (f := dm_inv 20 142 1 8) rfl (dm_inv_ok ff_13 rfl (Nat.le_of_ble_eq_true rfl)) (ev_ok mc_13) ?_
  refine qs (f := dm_ald 21 0) rfl rfl ?_
  refine qs (f := dm_ild 22 1) rfl rfl ?_
  refine qc (f := dm_inv 25 143 1 8) rfl (dm_inv_ok ff_40 rfl (Nat.le_of_ble_eq_true rfl)) (ev_ok mc_14) ?_
  refine qs (f := dm_ild 26 2) rfl rfl ?_
  refine qs (f := dm_tsw 0 10 193 [84, 99, 106, 113, 120, 127, 134, 140, 149, 158, 173]) rfl (dm_tsw_d (hw)) ?_
  refine qs (f := dm_push 194 (.int (-1))) rfl rfl ?_
  exact qr (f := dm_ret .int) rfl rfl
set_option maxRecDepth 100000 in
theorem sy_71 (w : Int32) (hw : w.toInt < 0 ∨ 6 < w.toInt) : dm_ex dm_tb dm_cd 2000000 40 123 [.ref 0, .int w] ev_3 = some (some (.int (-1)), ev_3) := by
  refine rx (Nat.le_of_ble_eq_true rfl) ?_
  refine qs (f := dm_ild 1 1) rfl rfl ?_
  refine qs (f := dm_tsw 0 6 100 [44, 52, 60, 68, 76, 84, 92]) rfl (dm_tsw_d (hw)) ?_
  refine qs (f := dm_push 101 (.int (-1))) rfl rfl ?_
  exact qr (f := dm_ret .int) rfl rfl
set_option maxRecDepth 100000 in
theorem sy_72 (w : Int32) (hw : w.toInt < 0 ∨ 6 < w.toInt) : dm_ex dm_tb dm_cd 2000000 40 208 [.ref 68, .int w] ev_3 = some (some (.int (-1)), ev_3) := by
  refine rx (Nat.le_of_ble_eq_true rfl) ?_
  refine qs (f := dm_ald 1 0) rfl rfl ?_
  refine qs (f := dm_push 2 (.int 0)) rfl rfl ?_
  refine qs (f := dm_putf 5 8 40 .int) rfl (dm_putf_same ff_4 rfl) ?_
  refine qs (f := dm_push 6 (.int 0)) rfl rfl ?_
  refine qs (f := dm_ist 7 2) rfl rfl ?_
  refine qs (f := dm_ild 8 1) rfl rfl ?_
  refine qs (f := dm_tsw 0 6 145 [52, 57, 95, 125, 130, 135, 140]) rfl (dm_tsw_d (hw)) ?_
  refine qs (f := dm_push 146 (.int (-1))) rfl rfl ?_
  exact qr (f := dm_ret .int) rfl rfl
set_option maxRecDepth 100000 in
theorem sy_73 (s : Int32)  : dm_ex dm_tb dm_cd 2000000 39 7 [.ref 61, .int s] ev_3 = some (some (.int (-1)), ev_3) := by
  refine rx (Nat.le_of_ble_eq_true rfl) ?_
  refine qs (f := dm_ild 1 1) rfl rfl ?_
  by_cases hp11 : s < (0 : Int32)
  · refine qs (f := dm_if_lt 4 23) rfl (dm_if_lt_t hp11) ?_
    refine qs (f := dm_push 24 (.int (-1))) rfl rfl ?_
    exact qr (f := dm_ret .int) rfl rfl
  · refine qs (f := dm_if_lt 4 23) rfl (dm_if_lt_f hp11) ?_
    refine qs (f := dm_ild 5 1) rfl rfl ?_
    refine qs (f := dm_ald 6 0) rfl rfl ?_
    refine qs (f := dm_getf 9 1 1) rfl (dm_getf_ok ff_42) ?_
    refine qs (f := dm_ic_ge 12 23) rfl (dm_ic_ge_t (i_00 hp11)) ?_
    refine qs (f := dm_push 24 (.int (-1))) rfl rfl ?_
    exact qr (f := dm_ret .int) rfl rfl
set_option maxRecDepth 100000 in
theorem sy_74 (s : Int32)  : dm_ex dm_tb dm_cd 2000000 40 116 [.ref 0, .int s] ev_3 = some (some (.int (-1)), ev_3) := by
  refine rx (Nat.le_of_ble_eq_true rfl) ?_
  refine qs (f := dm_ald 1 0) rfl rfl ?_
  refine qs (f := dm_getf 4 7 4) rfl (dm_getf_ok ff_41) ?_
  refine qs (f := dm_ild 5 1) rfl rfl ?_
  refine qc (f := dm_inv 8 7 1 1) rfl (dm_inv_ok ff_43 rfl (Nat.le_of_ble_eq_true rfl)) (sy_73 s) ?_
  exact qr (f := dm_ret .int) rfl rfl
set_option maxRecDepth 100000 in
theorem sy_75 (s : Int32)  : dm_ex dm_tb dm_cd 2000000 40 195 [.ref 68, .int s] ev_3 = some (some (.int (-1)), ev_3) := by
  refine rx (Nat.le_of_ble_eq_true rfl) ?_
  refine qs (f := dm_ald 1 0) rfl rfl ?_
  refine qs (f := dm_push 2 (.int 0)) rfl rfl ?_
  refine qs (f := dm_putf 5 8 40 .int) rfl (dm_putf_same ff_4 rfl) ?_
  refine qs (f := dm_ild 6 1) rfl rfl ?_
  by_cases hp11 : s < (0 : Int32)
  · refine qs (f := dm_if_lt 9 34) rfl (dm_if_lt_t hp11) ?_
    refine qs (f := dm_push 35 (.int (-1))) rfl rfl ?_
    exact qr (f := dm_ret .int) rfl rfl
  · refine qs (f := dm_if_lt 9 34) rfl (dm_if_lt_f hp11) ?_
    refine qs (f := dm_ild 10 1) rfl rfl ?_
    refine qs (f := dm_ald 11 0) rfl rfl ?_
    refine qs (f := dm_getf 14 8 36) rfl (dm_getf_ok ff_44) ?_
    refine qs (f := dm_ic_ge 17 34) rfl (dm_ic_ge_t (i_00 hp11)) ?_
    refine qs (f := dm_push 35 (.int (-1))) rfl rfl ?_
    exact qr (f := dm_ret .int) rfl rfl
set_option maxRecDepth 100000 in
theorem sy_76 (s : Int32) (hs : ¬ s = 0) : dm_ex dm_tb dm_cd 2000000 39 9 [.ref 61, .int s] ev_3 = some (some (.int 0), ev_3) := by
  refine rx (Nat.le_of_ble_eq_true rfl) ?_
  refine qs (f := dm_ild 1 1) rfl rfl ?_
  by_cases hp11 : s < (0 : Int32)
  · refine qs (f := dm_if_lt 4 12) rfl (dm_if_lt_t hp11) ?_
    refine qs (f := dm_push 13 (.int 0)) rfl rfl ?_
    exact qr (f := dm_ret .boolean) rfl rfl
  · refine qs (f := dm_if_lt 4 12) rfl (dm_if_lt_f hp11) ?_
    refine qs (f := dm_ild 5 1) rfl rfl ?_
    refine qs (f := dm_ald 6 0) rfl rfl ?_
    refine qs (f := dm_getf 9 1 1) rfl (dm_getf_ok ff_42) ?_
    refine qs (f := dm_ic_le 12 14) rfl (dm_ic_le_f (i_0n hp11 hs)) ?_
    refine qs (f := dm_push 13 (.int 0)) rfl rfl ?_
    exact qr (f := dm_ret .boolean) rfl rfl
set_option maxRecDepth 100000 in
theorem sy_77 (s : Int32) (hs : ¬ s = 0) : dm_ex dm_tb dm_cd 2000000 40 118 [.ref 0, .int s] ev_3 = some (some (.int 0), ev_3) := by
  refine rx (Nat.le_of_ble_eq_true rfl) ?_
  refine qs (f := dm_ald 1 0) rfl rfl ?_
  refine qs (f := dm_getf 4 7 4) rfl (dm_getf_ok ff_41) ?_
  refine qs (f := dm_ild 5 1) rfl rfl ?_
  refine qc (f := dm_inv 8 9 1 1) rfl (dm_inv_ok ff_43 rfl (Nat.le_of_ble_eq_true rfl)) (sy_76 s hs) ?_
  exact qr (f := dm_ret .boolean) rfl rfl
set_option maxRecDepth 100000 in
theorem sy_78 (s : Int32) (hs : ¬ s = 0) : dm_ex dm_tb dm_cd 2000000 40 197 [.ref 68, .int s] ev_3 = some (some (.int 0), ev_3) := by
  refine rx (Nat.le_of_ble_eq_true rfl) ?_
  refine qs (f := dm_ald 1 0) rfl rfl ?_
  refine qs (f := dm_push 2 (.int 0)) rfl rfl ?_
  refine qs (f := dm_putf 5 8 40 .int) rfl (dm_putf_same ff_4 rfl) ?_
  refine qs (f := dm_ild 6 1) rfl rfl ?_
  by_cases hp11 : s < (0 : Int32)
  · refine qs (f := dm_if_lt 9 17) rfl (dm_if_lt_t hp11) ?_
    refine qs (f := dm_push 18 (.int 0)) rfl rfl ?_
    exact qr (f := dm_ret .boolean) rfl rfl
  · refine qs (f := dm_if_lt 9 17) rfl (dm_if_lt_f hp11) ?_
    refine qs (f := dm_ild 10 1) rfl rfl ?_
    refine qs (f := dm_ald 11 0) rfl rfl ?_
    refine qs (f := dm_getf 14 8 36) rfl (dm_getf_ok ff_44) ?_
    refine qs (f := dm_ic_le 17 19) rfl (dm_ic_le_f (i_0n hp11 hs)) ?_
    refine qs (f := dm_push 18 (.int 0)) rfl rfl ?_
    exact qr (f := dm_ret .boolean) rfl rfl
set_option maxRecDepth 100000 in
theorem sy_79 (s : Int32) (t : Int32) (p : Int64) (n : Int32) (q : Int64) (k : Int32) (hs : ¬ s = 0) : dm_ex dm_tb dm_cd 2000000 40 114 [.ref 0, .int s, .int t, .long p, .int n, .long q, .int k] ev_3 = some (some (.int (-1)), ev_3) := by
  refine rx (Nat.le_of_ble_eq_true rfl) ?_
  refine qs (f := dm_ald 1 0) rfl rfl ?_
  refine qs (f := dm_getf 4 7 0) rfl (dm_getf_ok ff_1) ?_
  refine qs (f := dm_ild 5 1) rfl rfl ?_
  refine qc (f := dm_inv 8 17 1 2) rfl (dm_inv_ok ff_3 rfl (Nat.le_of_ble_eq_true rfl)) (sy_18 s hs) ?_
  refine qs (f := dm_if_eq 11 41) rfl (dm_if_eq_t (by decide)) ?_
  refine qs (f := dm_push 42 (.int (-1))) rfl rfl ?_
  exact qr (f := dm_ret .int) rfl rfl
set_option maxRecDepth 100000 in
theorem sy_80 (s : Int32) (t : Int32) (p : Int64) (n : Int32) (q : Int64) (k : Int32) (hs : ¬ s = 0) : dm_ex dm_tb dm_cd 2000000 40 188 [.ref 68, .int s, .int t, .long p, .int n, .long q, .int k] ev_3 = some (some (.int (-1)), ev_3) := by
  refine rx (Nat.le_of_ble_eq_true rfl) ?_
  refine qs (f := dm_ald 1 0) rfl rfl ?_
  refine qs (f := dm_push 2 (.int 0)) rfl rfl ?_
  refine qs (f := dm_putf 5 8 40 .int) rfl (dm_putf_same ff_4 rfl) ?_
  refine qs (f := dm_ald 6 0) rfl rfl ?_
  refine qs (f := dm_ild 7 1) rfl rfl ?_
  refine qc (f := dm_inv 10 137 1 8) rfl (dm_inv_ok ff_6 rfl (Nat.le_of_ble_eq_true rfl)) (sy_20 s hs) ?_
  refine qs (f := dm_if_eq 13 40) rfl (dm_if_eq_t (by decide)) ?_
  refine qs (f := dm_push 41 (.int (-1))) rfl rfl ?_
  exact qr (f := dm_ret .int) rfl rfl
set_option maxRecDepth 100000 in
theorem sy_81 (t : Int32) (p : Int64) (n : Int32) (q : Int64) (k : Int32) (ht : ¬ t = 0) : dm_ex dm_tb dm_cd 2000000 40 114 [.ref 0, .int 0, .int t, .long p, .int n, .long q, .int k] ev_3 = some (some (.int (-1)), mm_1) := by
  refine rx (Nat.le_of_ble_eq_true rfl) ?_
  refine qs (f := dm_ald 1 0) rfl rfl ?_
  refine qs (f := dm_getf 4 7 0) rfl (dm_getf_ok ff_1) ?_
  refine qs (f := dm_ild 5 1) rfl rfl ?_
  refine qc (f := dm_inv 8 17 1 2) rfl (dm_inv_ok ff_3 rfl (Nat.le_of_ble_eq_true rfl)) (ev_ok mc_1) ?_
  refine qs (f := dm_if_eq 11 41) rfl (dm_if_eq_f (by decide)) ?_
  refine qs (f := dm_ald 12 0) rfl rfl ?_
  refine qs (f := dm_getf 15 7 0) rfl (dm_getf_ok ff_7) ?_
  refine qs (f := dm_ild 16 2) rfl rfl ?_
  refine qc (f := dm_inv 19 17 1 2) rfl (dm_inv_ok ff_9 rfl (Nat.le_of_ble_eq_true rfl)) (sy_26 t ht) ?_
  refine qs (f := dm_if_eq 22 41) rfl (dm_if_eq_t (by decide)) ?_
  refine qs (f := dm_push 42 (.int (-1))) rfl rfl ?_
  exact qr (f := dm_ret .int) rfl rfl
set_option maxRecDepth 100000 in
theorem sy_82 (t : Int32) (p : Int64) (n : Int32) (q : Int64) (k : Int32) (ht : ¬ t = 0) : dm_ex dm_tb dm_cd 2000000 40 188 [.ref 68, .int 0, .int t, .long p, .int n, .long q, .int k] mm_1 = some (some (.int (-1)), mm_2) := by
  refine rx (Nat.le_of_ble_eq_true rfl) ?_
  refine qs (f := dm_ald 1 0) rfl rfl ?_
  refine qs (f := dm_push 2 (.int 0)) rfl rfl ?_
  refine qs (f := dm_putf 5 8 40 .int) rfl (dm_putf_same ff_10 rfl) ?_
  refine qs (f := dm_ald 6 0) rfl rfl ?_
  refine qs (f := dm_ild 7 1) rfl rfl ?_
  refine qc (f := dm_inv 10 137 1 8) rfl (dm_inv_ok ff_11 rfl (Nat.le_of_ble_eq_true rfl)) (ev_ok mc_2) ?_
  refine qs (f := dm_if_eq 13 40) rfl (dm_if_eq_f (by decide)) ?_
  refine qs (f := dm_ald 14 0) rfl rfl ?_
  refine qs (f := dm_ild 15 2) rfl rfl ?_
  refine qc (f := dm_inv 18 137 1 8) rfl (dm_inv_ok ff_13 rfl (Nat.le_of_ble_eq_true rfl)) (sy_28 t ht) ?_
  refine qs (f := dm_if_eq 21 40) rfl (dm_if_eq_t (by decide)) ?_
  refine qs (f := dm_push 41 (.int (-1))) rfl rfl ?_
  exact qr (f := dm_ret .int) rfl rfl
set_option maxRecDepth 100000 in
theorem sy_83 (p : Int64) (n : Int32) (hP : ¬ okP p n) : dm_ex dm_tb dm_cd 2000000 39 133 [.long p, .int n] mm_15 = some (some (.int 0), mm_15) := by
  refine rx (Nat.le_of_ble_eq_true rfl) ?_
  refine qs (f := dm_ild 1 2) rfl rfl ?_
  by_cases hp11 : n < (0 : Int32)
  · refine qs (f := dm_if_lt 4 28) rfl (dm_if_lt_t hp11) ?_
    refine qs (f := dm_push 29 (.int 0)) rfl rfl ?_
    exact qr (f := dm_ret .boolean) rfl rfl
  · refine qs (f := dm_if_lt 4 28) rfl (dm_if_lt_f hp11) ?_
    refine qs (f := dm_ild 5 2) rfl rfl ?_
    refine qs (f := dm_push 7 (.int 60)) rfl rfl ?_
    by_cases hp22 : (60 : Int32) < n
    · refine qs (f := dm_ic_gt 10 28) rfl (dm_ic_gt_t hp22) ?_
      refine qs (f := dm_push 29 (.int 0)) rfl rfl ?_
      exact qr (f := dm_ret .boolean) rfl rfl
    · refine qs (f := dm_ic_gt 10 28) rfl (dm_ic_gt_f hp22) ?_
      refine qs (f := dm_lld 11 0) rfl rfl ?_
      refine qs (f := dm_push 12 (.long 0)) rfl rfl ?_
      refine qs (f := dm_lc 13) rfl rfl ?_
      by_cases hp33 : (lg_cmp p 0) < (0 : Int32)
      · refine qs (f := dm_if_lt 16 28) rfl (dm_if_lt_t hp33) ?_
        refine qs (f := dm_push 29 (.int 0)) rfl rfl ?_
        exact qr (f := dm_ret .boolean) rfl rfl
      · refine qs (f := dm_if_lt 16 28) rfl (dm_if_lt_f hp33) ?_
        refine qs (f := dm_lld 17 0) rfl rfl ?_
        refine qs (f := dm_push 18 (.long 1)) rfl rfl ?_
        refine qs (f := dm_ild 19 2) rfl rfl ?_
        refine qs (f := dm_li 20 (fun x y => x <<< (y.toInt64 &&& 63))) rfl rfl ?_
        refine qs (f := dm_lc 21) rfl rfl ?_
        refine qs (f := dm_if_ge 24 28) rfl (dm_if_ge_t (Classical.byContradiction (fun q => hP ⟨hp11, hp22, hp33, q⟩))) ?_
        refine qs (f := dm_push 29 (.int 0)) rfl rfl ?_
        exact qr (f := dm_ret .boolean) rfl rfl
set_option maxRecDepth 100000 in
theorem sy_84 (p : Int64) (n : Int32) (q : Int64) (k : Int32) (hP : ¬ okP p n) : dm_ex dm_tb dm_cd 2000000 40 114 [.ref 0, .int 0, .int 0, .long p, .int n, .long q, .int k] ev_3 = some (some (.int (-1)), mm_15) := by
  refine rx (Nat.le_of_ble_eq_true rfl) ?_
  refine qs (f := dm_ald 1 0) rfl rfl ?_
  refine qs (f := dm_getf 4 7 0) rfl (dm_getf_ok ff_1) ?_
  refine qs (f := dm_ild 5 1) rfl rfl ?_
  refine qc (f := dm_inv 8 17 1 2) rfl (dm_inv_ok ff_3 rfl (Nat.le_of_ble_eq_true rfl)) (ev_ok mc_1) ?_
  refine qs (f := dm_if_eq 11 41) rfl (dm_if_eq_f (by decide)) ?_
  refine qs (f := dm_ald 12 0) rfl rfl ?_
  refine qs (f := dm_getf 15 7 0) rfl (dm_getf_ok ff_7) ?_
  refine qs (f := dm_ild 16 2) rfl rfl ?_
  refine qc (f := dm_inv 19 17 1 2) rfl (dm_inv_ok ff_9 rfl (Nat.le_of_ble_eq_true rfl)) (ev_ok mc_15) ?_
  refine qs (f := dm_if_eq 22 41) rfl (dm_if_eq_f (by decide)) ?_
  refine qs (f := dm_lld 23 3) rfl rfl ?_
  refine qs (f := dm_ild 25 5) rfl rfl ?_
  refine qc (f := dm_ins 28 133 2) rfl rfl (sy_83 p n hP) ?_
  refine qs (f := dm_if_eq 31 41) rfl (dm_if_eq_t (by decide)) ?_
  refine qs (f := dm_push 42 (.int (-1))) rfl rfl ?_
  exact qr (f := dm_ret .int) rfl rfl
set_option maxRecDepth 100000 in
theorem sy_85 (p : Int64) (n : Int32) (hP : ¬ okP p n) : dm_ex dm_tb dm_cd 2000000 39 178 [.long p, .int n] mm_17 = some (some (.int 0), mm_17) := by
  refine rx (Nat.le_of_ble_eq_true rfl) ?_
  refine qs (f := dm_ild 1 2) rfl rfl ?_
  by_cases hp11 : n < (0 : Int32)
  · refine qs (f := dm_if_lt 4 28) rfl (dm_if_lt_t hp11) ?_
    refine qs (f := dm_push 29 (.int 0)) rfl rfl ?_
    exact qr (f := dm_ret .boolean) rfl rfl
  · refine qs (f := dm_if_lt 4 28) rfl (dm_if_lt_f hp11) ?_
    refine qs (f := dm_ild 5 2) rfl rfl ?_
    refine qs (f := dm_push 7 (.int 60)) rfl rfl ?_
    by_cases hp22 : (60 : Int32) < n
    · refine qs (f := dm_ic_gt 10 28) rfl (dm_ic_gt_t hp22) ?_
      refine qs (f := dm_push 29 (.int 0)) rfl rfl ?_
      exact qr (f := dm_ret .boolean) rfl rfl
    · refine qs (f := dm_ic_gt 10 28) rfl (dm_ic_gt_f hp22) ?_
      refine qs (f := dm_lld 11 0) rfl rfl ?_
      refine qs (f := dm_push 12 (.long 0)) rfl rfl ?_
      refine qs (f := dm_lc 13) rfl rfl ?_
      by_cases hp33 : (lg_cmp p 0) < (0 : Int32)
      · refine qs (f := dm_if_lt 16 28) rfl (dm_if_lt_t hp33) ?_
        refine qs (f := dm_push 29 (.int 0)) rfl rfl ?_
        exact qr (f := dm_ret .boolean) rfl rfl
      · refine qs (f := dm_if_lt 16 28) rfl (dm_if_lt_f hp33) ?_
        refine qs (f := dm_lld 17 0) rfl rfl ?_
        refine qs (f := dm_push 18 (.long 1)) rfl rfl ?_
        refine qs (f := dm_ild 19 2) rfl rfl ?_
        refine qs (f := dm_li 20 (fun x y => x <<< (y.toInt64 &&& 63))) rfl rfl ?_
        refine qs (f := dm_lc 21) rfl rfl ?_
        refine qs (f := dm_if_ge 24 28) rfl (dm_if_ge_t (Classical.byContradiction (fun q => hP ⟨hp11, hp22, hp33, q⟩))) ?_
        refine qs (f := dm_push 29 (.int 0)) rfl rfl ?_
        exact qr (f := dm_ret .boolean) rfl rfl
set_option maxRecDepth 100000 in
theorem sy_86 (p : Int64) (n : Int32) (q : Int64) (k : Int32) (hP : ¬ okP p n) : dm_ex dm_tb dm_cd 2000000 40 188 [.ref 68, .int 0, .int 0, .long p, .int n, .long q, .int k] mm_15 = some (some (.int (-1)), mm_17) := by
  refine rx (Nat.le_of_ble_eq_true rfl) ?_
  refine qs (f := dm_ald 1 0) rfl rfl ?_
  refine qs (f := dm_push 2 (.int 0)) rfl rfl ?_
  refine qs (f := dm_putf 5 8 40 .int) rfl (dm_putf_same ff_45 rfl) ?_
  refine qs (f := dm_ald 6 0) rfl rfl ?_
  refine qs (f := dm_ild 7 1) rfl rfl ?_
  refine qc (f := dm_inv 10 137 1 8) rfl (dm_inv_ok ff_46 rfl (Nat.le_of_ble_eq_true rfl)) (ev_ok mc_16) ?_
  refine qs (f := dm_if_eq 13 40) rfl (dm_if_eq_f (by decide)) ?_
  refine qs (f := dm_ald 14 0) rfl rfl ?_
  refine qs (f := dm_ild 15 2) rfl rfl ?_
  refine qc (f := dm_inv 18 137 1 8) rfl (dm_inv_ok ff_47 rfl (Nat.le_of_ble_eq_true rfl)) (ev_ok mc_17) ?_
  refine qs (f := dm_if_eq 21 40) rfl (dm_if_eq_f (by decide)) ?_
  refine qs (f := dm_lld 22 3) rfl rfl ?_
  refine qs (f := dm_ild 24 5) rfl rfl ?_
  refine qc (f := dm_ins 27 178 2) rfl rfl (sy_85 p n hP) ?_
  refine qs (f := dm_if_eq 30 40) rfl (dm_if_eq_t (by decide)) ?_
  refine qs (f := dm_push 41 (.int (-1))) rfl rfl ?_
  exact qr (f := dm_ret .int) rfl rfl
set_option maxRecDepth 100000 in
theorem sy_87 (p : Int64) (n : Int32) (hP : okP p n) : dm_ex dm_tb dm_cd 2000000 39 133 [.long p, .int n] mm_15 = some (some (.int 1), mm_15) := by
  refine rx (Nat.le_of_ble_eq_true rfl) ?_
  refine qs (f := dm_ild 1 2) rfl rfl ?_
  refine qs (f := dm_if_lt 4 28) rfl (dm_if_lt_f (hP.1)) ?_
  refine qs (f := dm_ild 5 2) rfl rfl ?_
  refine qs (f := dm_push 7 (.int 60)) rfl rfl ?_
  refine qs (f := dm_ic_gt 10 28) rfl (dm_ic_gt_f (hP.2.1)) ?_
  refine qs (f := dm_lld 11 0) rfl rfl ?_
  refine qs (f := dm_push 12 (.long 0)) rfl rfl ?_
  refine qs (f := dm_lc 13) rfl rfl ?_
  refine qs (f := dm_if_lt 16 28) rfl (dm_if_lt_f (hP.2.2.1)) ?_
  refine qs (f := dm_lld 17 0) rfl rfl ?_
  refine qs (f := dm_push 18 (.long 1)) rfl rfl ?_
  refine qs (f := dm_ild 19 2) rfl rfl ?_
  refine qs (f := dm_li 20 (fun x y => x <<< (y.toInt64 &&& 63))) rfl rfl ?_
  refine qs (f := dm_lc 21) rfl rfl ?_
  refine qs (f := dm_if_ge 24 28) rfl (dm_if_ge_f (hP.2.2.2)) ?_
  refine qs (f := dm_push 25 (.int 1)) rfl rfl ?_
  refine qs (f := dm_goto 29) rfl rfl ?_
  exact qr (f := dm_ret .boolean) rfl rfl
set_option maxRecDepth 100000 in
theorem sy_88 (q : Int64) (k : Int32) (hQ : ¬ okP q k) : dm_ex dm_tb dm_cd 2000000 39 133 [.long q, .int k] mm_15 = some (some (.int 0), mm_15) := by
  refine rx (Nat.le_of_ble_eq_true rfl) ?_
  refine qs (f := dm_ild 1 2) rfl rfl ?_
  by_cases hp11 : k < (0 : Int32)
  · refine qs (f := dm_if_lt 4 28) rfl (dm_if_lt_t hp11) ?_
    refine qs (f := dm_push 29 (.int 0)) rfl rfl ?_
    exact qr (f := dm_ret .boolean) rfl rfl
  · refine qs (f := dm_if_lt 4 28) rfl (dm_if_lt_f hp11) ?_
    refine qs (f := dm_ild 5 2) rfl rfl ?_
    refine qs (f := dm_push 7 (.int 60)) rfl rfl ?_
    by_cases hp22 : (60 : Int32) < k
    · refine qs (f := dm_ic_gt 10 28) rfl (dm_ic_gt_t hp22) ?_
      refine qs (f := dm_push 29 (.int 0)) rfl rfl ?_
      exact qr (f := dm_ret .boolean) rfl rfl
    · refine qs (f := dm_ic_gt 10 28) rfl (dm_ic_gt_f hp22) ?_
      refine qs (f := dm_lld 11 0) rfl rfl ?_
      refine qs (f := dm_push 12 (.long 0)) rfl rfl ?_
      refine qs (f := dm_lc 13) rfl rfl ?_
      by_cases hp33 : (lg_cmp q 0) < (0 : Int32)
      · refine qs (f := dm_if_lt 16 28) rfl (dm_if_lt_t hp33) ?_
        refine qs (f := dm_push 29 (.int 0)) rfl rfl ?_
        exact qr (f := dm_ret .boolean) rfl rfl
      · refine qs (f := dm_if_lt 16 28) rfl (dm_if_lt_f hp33) ?_
        refine qs (f := dm_lld 17 0) rfl rfl ?_
        refine qs (f := dm_push 18 (.long 1)) rfl rfl ?_
        refine qs (f := dm_ild 19 2) rfl rfl ?_
        refine qs (f := dm_li 20 (fun x y => x <<< (y.toInt64 &&& 63))) rfl rfl ?_
        refine qs (f := dm_lc 21) rfl rfl ?_
        refine qs (f := dm_if_ge 24 28) rfl (dm_if_ge_t (Classical.byContradiction (fun q => hQ ⟨hp11, hp22, hp33, q⟩))) ?_
        refine qs (f := dm_push 29 (.int 0)) rfl rfl ?_
        exact qr (f := dm_ret .boolean) rfl rfl
set_option maxRecDepth 100000 in
theorem sy_89 (p : Int64) (n : Int32) (q : Int64) (k : Int32) (hP : okP p n) (hQ : ¬ okP q k) : dm_ex dm_tb dm_cd 2000000 40 114 [.ref 0, .int 0, .int 0, .long p, .int n, .long q, .int k] ev_3 = some (some (.int (-1)), mm_15) := by
  refine rx (Nat.le_of_ble_eq_true rfl) ?_
  refine qs (f := dm_ald 1 0) rfl rfl ?_
  refine qs (f := dm_getf 4 7 0) rfl (dm_getf_ok ff_1) ?_
  refine qs (f := dm_ild 5 1) rfl rfl ?_
  refine qc (f := dm_inv 8 17 1 2) rfl (dm_inv_ok ff_3 rfl (Nat.le_of_ble_eq_true rfl)) (ev_ok mc_1) ?_
  refine qs (f := dm_if_eq 11 41) rfl (dm_if_eq_f (by decide)) ?_
  refine qs (f := dm_ald 12 0) rfl rfl ?_
  refine qs (f := dm_getf 15 7 0) rfl (dm_getf_ok ff_7) ?_
  refine qs (f := dm_ild 16 2) rfl rfl ?_
  refine qc (f := dm_inv 19 17 1 2) rfl (dm_inv_ok ff_9 rfl (Nat.le_of_ble_eq_true rfl)) (ev_ok mc_15) ?_
  refine qs (f := dm_if_eq 22 41) rfl (dm_if_eq_f (by decide)) ?_
  refine qs (f := dm_lld 23 3) rfl rfl ?_
  refine qs (f := dm_ild 25 5) rfl rfl ?_
  refine qc (f := dm_ins 28 133 2) rfl rfl (sy_87 p n hP) ?_
  refine qs (f := dm_if_eq 31 41) rfl (dm_if_eq_f (by decide)) ?_
  refine qs (f := dm_lld 33 6) rfl rfl ?_
  refine qs (f := dm_ild 35 8) rfl rfl ?_
  refine qc (f := dm_ins 38 133 2) rfl rfl (sy_88 q k hQ) ?_
  refine qs (f := dm_if_ne 41 43) rfl (dm_if_ne_f (by decide)) ?_
  refine qs (f := dm_push 42 (.int (-1))) rfl rfl ?_
  exact qr (f := dm_ret .int) rfl rfl
set_option maxRecDepth 100000 in
theorem sy_90 (p : Int64) (n : Int32) (hP : okP p n) : dm_ex dm_tb dm_cd 2000000 39 178 [.long p, .int n] mm_17 = some (some (.int 1), mm_17) := by
  refine rx (Nat.le_of_ble_eq_true rfl) ?_
  refine qs (f := dm_ild 1 2) rfl rfl ?_
  refine qs (f := dm_if_lt 4 28) rfl (dm_if_lt_f (hP.1)) ?_
  refine qs (f := dm_ild 5 2) rfl rfl ?_
  refine qs (f := dm_push 7 (.int 60)) rfl rfl ?_
  refine qs (f := dm_ic_gt 10 28) rfl (dm_ic_gt_f (hP.2.1)) ?_
  refine qs (f := dm_lld 11 0) rfl rfl ?_
  refine qs (f := dm_push 12 (.long 0)) rfl rfl ?_
  refine qs (f := dm_lc 13) rfl rfl ?_
  refine qs (f := dm_if_lt 16 28) rfl (dm_if_lt_f (hP.2.2.1)) ?_
  refine qs (f := dm_lld 17 0) rfl rfl ?_
  refine qs (f := dm_push 18 (.long 1)) rfl rfl ?_
  refine qs (f := dm_ild 19 2) rfl rfl ?_
  refine qs (f := dm_li 20 (fun x y => x <<< (y.toInt64 &&& 63))) rfl rfl ?_
  refine qs (f := dm_lc 21) rfl rfl ?_
  refine qs (f := dm_if_ge 24 28) rfl (dm_if_ge_f (hP.2.2.2)) ?_
  refine qs (f := dm_push 25 (.int 1)) rfl rfl ?_
  refine qs (f := dm_goto 29) rfl rfl ?_
  exact qr (f := dm_ret .boolean) rfl rfl
set_option maxRecDepth 100000 in
theorem sy_91 (q : Int64) (k : Int32) (hQ : ¬ okP q k) : dm_ex dm_tb dm_cd 2000000 39 178 [.long q, .int k] mm_17 = some (some (.int 0), mm_17) := by
  refine rx (Nat.le_of_ble_eq_true rfl) ?_
  refine qs (f := dm_ild 1 2) rfl rfl ?_
  by_cases hp11 : k < (0 : Int32)
  · refine qs (f := dm_if_lt 4 28) rfl (dm_if_lt_t hp11) ?_
    refine qs (f := dm_push 29 (.int 0)) rfl rfl ?_
    exact qr (f := dm_ret .boolean) rfl rfl
  · refine qs (f := dm_if_lt 4 28) rfl (dm_if_lt_f hp11) ?_
    refine qs (f := dm_ild 5 2) rfl rfl ?_
    refine qs (f := dm_push 7 (.int 60)) rfl rfl ?_
    by_cases hp22 : (60 : Int32) < k
    · refine qs (f := dm_ic_gt 10 28) rfl (dm_ic_gt_t hp22) ?_
      refine qs (f := dm_push 29 (.int 0)) rfl rfl ?_
      exact qr (f := dm_ret .boolean) rfl rfl
    · refine qs (f := dm_ic_gt 10 28) rfl (dm_ic_gt_f hp22) ?_
      refine qs (f := dm_lld 11 0) rfl rfl ?_
      refine qs (f := dm_push 12 (.long 0)) rfl rfl ?_
      refine qs (f := dm_lc 13) rfl rfl ?_
      by_cases hp33 : (lg_cmp q 0) < (0 : Int32)
      · refine qs (f := dm_if_lt 16 28) rfl (dm_if_lt_t hp33) ?_
        refine qs (f := dm_push 29 (.int 0)) rfl rfl ?_
        exact qr (f := dm_ret .boolean) rfl rfl
      · refine qs (f := dm_if_lt 16 28) rfl (dm_if_lt_f hp33) ?_
        refine qs (f := dm_lld 17 0) rfl rfl ?_
        refine qs (f := dm_push 18 (.long 1)) rfl rfl ?_
        refine qs (f := dm_ild 19 2) rfl rfl ?_
        refine qs (f := dm_li 20 (fun x y => x <<< (y.toInt64 &&& 63))) rfl rfl ?_
        refine qs (f := dm_lc 21) rfl rfl ?_
        refine qs (f := dm_if_ge 24 28) rfl (dm_if_ge_t (Classical.byContradiction (fun q => hQ ⟨hp11, hp22, hp33, q⟩))) ?_
        refine qs (f := dm_push 29 (.int 0)) rfl rfl ?_
        exact qr (f := dm_ret .boolean) rfl rfl
set_option maxRecDepth 100000 in
theorem sy_92 (p : Int64) (n : Int32) (q : Int64) (k : Int32) (hP : okP p n) (hQ : ¬ okP q k) : dm_ex dm_tb dm_cd 2000000 40 188 [.ref 68, .int 0, .int 0, .long p, .int n, .long q, .int k] mm_15 = some (some (.int (-1)), mm_17) := by
  refine rx (Nat.le_of_ble_eq_true rfl) ?_
  refine qs (f := dm_ald 1 0) rfl rfl ?_
  refine qs (f := dm_push 2 (.int 0)) rfl rfl ?_
  refine qs (f := dm_putf 5 8 40 .int) rfl (dm_putf_same ff_45 rfl) ?_
  refine qs (f := dm_ald 6 0) rfl rfl ?_
  refine qs (f := dm_ild 7 1) rfl rfl ?_
  refine qc (f := dm_inv 10 137 1 8) rfl (dm_inv_ok ff_46 rfl (Nat.le_of_ble_eq_true rfl)) (ev_ok mc_16) ?_
  refine qs (f := dm_if_eq 13 40) rfl (dm_if_eq_f (by decide)) ?_
  refine qs (f := dm_ald 14 0) rfl rfl ?_
  refine qs (f := dm_ild 15 2) rfl rfl ?_
  refine qc (f := dm_inv 18 137 1 8) rfl (dm_inv_ok ff_47 rfl (Nat.le_of_ble_eq_true rfl)) (ev_ok mc_17) ?_
  refine qs (f := dm_if_eq 21 40) rfl (dm_if_eq_f (by decide)) ?_
  refine qs (f := dm_lld 22 3) rfl rfl ?_
  refine qs (f := dm_ild 24 5) rfl rfl ?_
  refine qc (f := dm_ins 27 178 2) rfl rfl (sy_90 p n hP) ?_
  refine qs (f := dm_if_eq 30 40) rfl (dm_if_eq_f (by decide)) ?_
  refine qs (f := dm_lld 32 6) rfl rfl ?_
  refine qs (f := dm_ild 34 8) rfl rfl ?_
  refine qc (f := dm_ins 37 178 2) rfl rfl (sy_91 q k hQ) ?_
  refine qs (f := dm_if_ne 40 42) rfl (dm_if_ne_f (by decide)) ?_
  refine qs (f := dm_push 41 (.int (-1))) rfl rfl ?_
  exact qr (f := dm_ret .int) rfl rfl
set_option maxRecDepth 100000 in
theorem sy_93 (p : Int64) (n : Int32) (hP : okP p n) : dm_ex dm_tb dm_cd 2000000 39 133 [.long p, .int n] mm_15 = some (some (.int 1), mm_15) := by
  refine rx (Nat.le_of_ble_eq_true rfl) ?_
  refine qs (f := dm_ild 1 2) rfl rfl ?_
  refine qs (f := dm_if_lt 4 28) rfl (dm_if_lt_f (hP.1)) ?_
  refine qs (f := dm_ild 5 2) rfl rfl ?_
  refine qs (f := dm_push 7 (.int 60)) rfl rfl ?_
  refine qs (f := dm_ic_gt 10 28) rfl (dm_ic_gt_f (hP.2.1)) ?_
  refine qs (f := dm_lld 11 0) rfl rfl ?_
  refine qs (f := dm_push 12 (.long 0)) rfl rfl ?_
  refine qs (f := dm_lc 13) rfl rfl ?_
  refine qs (f := dm_if_lt 16 28) rfl (dm_if_lt_f (hP.2.2.1)) ?_
  refine qs (f := dm_lld 17 0) rfl rfl ?_
  refine qs (f := dm_push 18 (.long 1)) rfl rfl ?_
  refine qs (f := dm_ild 19 2) rfl rfl ?_
  refine qs (f := dm_li 20 (fun x y => x <<< (y.toInt64 &&& 63))) rfl rfl ?_
  refine qs (f := dm_lc 21) rfl rfl ?_
  refine qs (f := dm_if_ge 24 28) rfl (dm_if_ge_f (hP.2.2.2)) ?_
  refine qs (f := dm_push 25 (.int 1)) rfl rfl ?_
  refine qs (f := dm_goto 29) rfl rfl ?_
  exact qr (f := dm_ret .boolean) rfl rfl
set_option maxRecDepth 100000 in
theorem sy_94 (q : Int64) (k : Int32) (hQ : okP q k) : dm_ex dm_tb dm_cd 2000000 39 133 [.long q, .int k] mm_15 = some (some (.int 1), mm_15) := by
  refine rx (Nat.le_of_ble_eq_true rfl) ?_
  refine qs (f := dm_ild 1 2) rfl rfl ?_
  refine qs (f := dm_if_lt 4 28) rfl (dm_if_lt_f (hQ.1)) ?_
  refine qs (f := dm_ild 5 2) rfl rfl ?_
  refine qs (f := dm_push 7 (.int 60)) rfl rfl ?_
  refine qs (f := dm_ic_gt 10 28) rfl (dm_ic_gt_f (hQ.2.1)) ?_
  refine qs (f := dm_lld 11 0) rfl rfl ?_
  refine qs (f := dm_push 12 (.long 0)) rfl rfl ?_
  refine qs (f := dm_lc 13) rfl rfl ?_
  refine qs (f := dm_if_lt 16 28) rfl (dm_if_lt_f (hQ.2.2.1)) ?_
  refine qs (f := dm_lld 17 0) rfl rfl ?_
  refine qs (f := dm_push 18 (.long 1)) rfl rfl ?_
  refine qs (f := dm_ild 19 2) rfl rfl ?_
  refine qs (f := dm_li 20 (fun x y => x <<< (y.toInt64 &&& 63))) rfl rfl ?_
  refine qs (f := dm_lc 21) rfl rfl ?_
  refine qs (f := dm_if_ge 24 28) rfl (dm_if_ge_f (hQ.2.2.2)) ?_
  refine qs (f := dm_push 25 (.int 1)) rfl rfl ?_
  refine qs (f := dm_goto 29) rfl rfl ?_
  exact qr (f := dm_ret .boolean) rfl rfl
set_option maxRecDepth 100000 in
theorem sy_95 (p : Int64) (n : Int32) (hP : okP p n) : dm_ex dm_tb dm_cd 2000000 38 87 [.ref 2, .int 0, .long p, .int n] mm_18 = some (some (.int 0), mm_20) := by
  refine rx (Nat.le_of_ble_eq_true rfl) ?_
  refine qs (f := dm_ild 1 1) rfl rfl ?_
  refine qs (f := dm_ist 3 5) rfl rfl ?_
  refine qs (f := dm_ald 4 0) rfl rfl ?_
  refine qs (f := dm_ild 6 5) rfl rfl ?_
  refine qc (f := dm_inv 9 75 1 6) rfl (dm_inv_ok ff_51 rfl (Nat.le_of_ble_eq_true rfl)) (ev_ok mc_19) ?_
  refine qs (f := dm_ist 11 6) rfl rfl ?_
  refine qs (f := dm_ild 13 4) rfl rfl ?_
  refine qs (f := dm_push 14 (.int 1)) rfl rfl ?_
  refine qs (f := dm_ii 15 (fun x y => x - y)) rfl rfl ?_
  refine qs (f := dm_ist 17 7) rfl rfl ?_
  refine qs (f := dm_ild 19 7) rfl rfl ?_
  refine qs (f := dm_ild 21 4) rfl rfl ?_
  refine qs (f := dm_push 23 (.int 60)) rfl rfl ?_
  refine qs (f := dm_ii 24 (fun x y => x - y)) rfl rfl ?_
  refine qs (f := dm_ic_lt 27 98) rfl (dm_ic_lt_f (i_n60 hP.1 hP.2.1)) ?_
  refine qs (f := dm_ald 28 0) rfl rfl ?_
  refine qs (f := dm_ild 30 5) rfl rfl ?_
  refine qc (f := dm_inv 33 77 1 6) rfl (dm_inv_ok ff_52 rfl (Nat.le_of_ble_eq_true rfl)) (ev_ok mc_20) ?_
  refine qs (f := dm_if_ne 36 98) rfl (dm_if_ne_t (by decide)) ?_
  refine qs (f := dm_ild 100 6) rfl rfl ?_
  exact qr (f := dm_ret .int) rfl rfl
set_option maxRecDepth 100000 in
theorem sy_96 (p : Int64) (n : Int32) (hP : okP p n) : dm_ex dm_tb dm_cd 2000000 38 87 [.ref 2, .int 0, .long p, .int n] mm_21 = some (some (.int 0), mm_23) := by
  refine rx (Nat.le_of_ble_eq_true rfl) ?_
  refine qs (f := dm_ild 1 1) rfl rfl ?_
  refine qs (f := dm_ist 3 5) rfl rfl ?_
  refine qs (f := dm_ald 4 0) rfl rfl ?_
  refine qs (f := dm_ild 6 5) rfl rfl ?_
  refine qc (f := dm_inv 9 75 1 6) rfl (dm_inv_ok ff_56 rfl (Nat.le_of_ble_eq_true rfl)) (ev_ok mc_22) ?_
  refine qs (f := dm_ist 11 6) rfl rfl ?_
  refine qs (f := dm_ild 13 4) rfl rfl ?_
  refine qs (f := dm_push 14 (.int 1)) rfl rfl ?_
  refine qs (f := dm_ii 15 (fun x y => x - y)) rfl rfl ?_
  refine qs (f := dm_ist 17 7) rfl rfl ?_
  refine qs (f := dm_ild 19 7) rfl rfl ?_
  refine qs (f := dm_ild 21 4) rfl rfl ?_
  refine qs (f := dm_push 23 (.int 60)) rfl rfl ?_
  refine qs (f := dm_ii 24 (fun x y => x - y)) rfl rfl ?_
  refine qs (f := dm_ic_lt 27 98) rfl (dm_ic_lt_f (i_n60 hP.1 hP.2.1)) ?_
  refine qs (f := dm_ald 28 0) rfl rfl ?_
  refine qs (f := dm_ild 30 5) rfl rfl ?_
  refine qc (f := dm_inv 33 77 1 6) rfl (dm_inv_ok ff_57 rfl (Nat.le_of_ble_eq_true rfl)) (ev_ok mc_23) ?_
  refine qs (f := dm_if_ne 36 98) rfl (dm_if_ne_t (by decide)) ?_
  refine qs (f := dm_ild 100 6) rfl rfl ?_
  exact qr (f := dm_ret .int) rfl rfl
set_option maxRecDepth 100000 in
theorem sy_97 (p : Int64) (n : Int32) (hP : okP p n) : dm_ex dm_tb dm_cd 2000000 39 131 [.ref 0, .int 0, .int 0, .long p, .int n] mm_15 = some (some (.int 0), mm_23) := by
  refine rx (Nat.le_of_ble_eq_true rfl) ?_
  refine qs (f := dm_ald 1 0) rfl rfl ?_
  refine qs (f := dm_getf 4 7 0) rfl (dm_getf_ok ff_48) ?_
  refine qs (f := dm_getf 7 2 0) rfl (dm_getf_ok ff_49) ?_
  refine qs (f := dm_ald 8 0) rfl rfl ?_
  refine qs (f := dm_getf 11 7 0) rfl (dm_getf_ok ff_48) ?_
  refine qs (f := dm_ild 12 1) rfl rfl ?_
  refine qc (f := dm_inv 15 19 1 2) rfl (dm_inv_ok ff_50 rfl (Nat.le_of_ble_eq_true rfl)) (ev_ok mc_18) ?_
  refine qs (f := dm_lld 16 3) rfl rfl ?_
  refine qs (f := dm_ild 18 5) rfl rfl ?_
  refine qc (f := dm_inv 21 87 3 6) rfl (dm_inv_ok ff_51 rfl (Nat.le_of_ble_eq_true rfl)) (sy_95 p n hP) ?_
  refine qs (f := dm_ald 22 0) rfl rfl ?_
  refine qs (f := dm_getf 25 7 0) rfl (dm_getf_ok ff_53) ?_
  refine qs (f := dm_getf 28 2 0) rfl (dm_getf_ok ff_54) ?_
  refine qs (f := dm_ald 29 0) rfl rfl ?_
  refine qs (f := dm_getf 32 7 0) rfl (dm_getf_ok ff_53) ?_
  refine qs (f := dm_ild 33 2) rfl rfl ?_
  refine qc (f := dm_inv 36 19 1 2) rfl (dm_inv_ok ff_55 rfl (Nat.le_of_ble_eq_true rfl)) (ev_ok mc_21) ?_
  refine qs (f := dm_lld 37 3) rfl rfl ?_
  refine qs (f := dm_ild 39 5) rfl rfl ?_
  refine qc (f := dm_inv 42 87 3 6) rfl (dm_inv_ok ff_56 rfl (Nat.le_of_ble_eq_true rfl)) (sy_96 p n hP) ?_
  refine qs (f := dm_ic_le 45 49) rfl (dm_ic_le_t (by decide)) ?_
  refine qs (f := dm_push 50 (.int 0)) rfl rfl ?_
  exact qr (f := dm_ret .boolean) rfl rfl
set_option maxRecDepth 100000 in
theorem sy_98 (p : Int64) (n : Int32) (q : Int64) (k : Int32) (hP : okP p n) (hQ : okP q k) : dm_ex dm_tb dm_cd 2000000 40 114 [.ref 0, .int 0, .int 0, .long p, .int n, .long q, .int k] ev_3 = some (some (.int 1), mm_23) := by
  refine rx (Nat.le_of_ble_eq_true rfl) ?_
  refine qs (f := dm_ald 1 0) rfl rfl ?_
  refine qs (f := dm_getf 4 7 0) rfl (dm_getf_ok ff_1) ?_
  refine qs (f := dm_ild 5 1) rfl rfl ?_
  refine qc (f := dm_inv 8 17 1 2) rfl (dm_inv_ok ff_3 rfl (Nat.le_of_ble_eq_true rfl)) (ev_ok mc_1) ?_
  refine qs (f := dm_if_eq 11 41) rfl (dm_if_eq_f (by decide)) ?_
  refine qs (f := dm_ald 12 0) rfl rfl ?_
  refine qs (f := dm_getf 15 7 0) rfl (dm_getf_ok ff_7) ?_
  refine qs (f := dm_ild 16 2) rfl rfl ?_
  refine qc (f := dm_inv 19 17 1 2) rfl (dm_inv_ok ff_9 rfl (Nat.le_of_ble_eq_true rfl)) (ev_ok mc_15) ?_
  refine qs (f := dm_if_eq 22 41) rfl (dm_if_eq_f (by decide)) ?_
  refine qs (f := dm_lld 23 3) rfl rfl ?_
  refine qs (f := dm_ild 25 5) rfl rfl ?_
  refine qc (f := dm_ins 28 133 2) rfl rfl (sy_93 p n hP) ?_
  refine qs (f := dm_if_eq 31 41) rfl (dm_if_eq_f (by decide)) ?_
  refine qs (f := dm_lld 33 6) rfl rfl ?_
  refine qs (f := dm_ild 35 8) rfl rfl ?_
  refine qc (f := dm_ins 38 133 2) rfl rfl (sy_94 q k hQ) ?_
  refine qs (f := dm_if_ne 41 43) rfl (dm_if_ne_t (by decide)) ?_
  refine qs (f := dm_ald 44 0) rfl rfl ?_
  refine qs (f := dm_ild 45 1) rfl rfl ?_
  refine qs (f := dm_ild 46 2) rfl rfl ?_
  refine qs (f := dm_lld 47 3) rfl rfl ?_
  refine qs (f := dm_ild 49 5) rfl rfl ?_
  refine qc (f := dm_inv 52 131 4 7) rfl (dm_inv_ok ff_58 rfl (Nat.le_of_ble_eq_true rfl)) (sy_97 p n hP) ?_
  refine qs (f := dm_if_ne 55 57) rfl (dm_if_ne_f (by decide)) ?_
  refine qs (f := dm_push 56 (.int 1)) rfl rfl ?_
  exact qr (f := dm_ret .int) rfl rfl
set_option maxRecDepth 100000 in
theorem sy_99 (p : Int64) (n : Int32) (hP : okP p n) : dm_ex dm_tb dm_cd 2000000 39 178 [.long p, .int n] mm_25 = some (some (.int 1), mm_25) := by
  refine rx (Nat.le_of_ble_eq_true rfl) ?_
  refine qs (f := dm_ild 1 2) rfl rfl ?_
  refine qs (f := dm_if_lt 4 28) rfl (dm_if_lt_f (hP.1)) ?_
  refine qs (f := dm_ild 5 2) rfl rfl ?_
  refine qs (f := dm_push 7 (.int 60)) rfl rfl ?_
  refine qs (f := dm_ic_gt 10 28) rfl (dm_ic_gt_f (hP.2.1)) ?_
  refine qs (f := dm_lld 11 0) rfl rfl ?_
  refine qs (f := dm_push 12 (.long 0)) rfl rfl ?_
  refine qs (f := dm_lc 13) rfl rfl ?_
  refine qs (f := dm_if_lt 16 28) rfl (dm_if_lt_f (hP.2.2.1)) ?_
  refine qs (f := dm_lld 17 0) rfl rfl ?_
  refine qs (f := dm_push 18 (.long 1)) rfl rfl ?_
  refine qs (f := dm_ild 19 2) rfl rfl ?_
  refine qs (f := dm_li 20 (fun x y => x <<< (y.toInt64 &&& 63))) rfl rfl ?_
  refine qs (f := dm_lc 21) rfl rfl ?_
  refine qs (f := dm_if_ge 24 28) rfl (dm_if_ge_f (hP.2.2.2)) ?_
  refine qs (f := dm_push 25 (.int 1)) rfl rfl ?_
  refine qs (f := dm_goto 29) rfl rfl ?_
  exact qr (f := dm_ret .boolean) rfl rfl
set_option maxRecDepth 100000 in
theorem sy_100 (q : Int64) (k : Int32) (hQ : okP q k) : dm_ex dm_tb dm_cd 2000000 39 178 [.long q, .int k] mm_25 = some (some (.int 1), mm_25) := by
  refine rx (Nat.le_of_ble_eq_true rfl) ?_
  refine qs (f := dm_ild 1 2) rfl rfl ?_
  refine qs (f := dm_if_lt 4 28) rfl (dm_if_lt_f (hQ.1)) ?_
  refine qs (f := dm_ild 5 2) rfl rfl ?_
  refine qs (f := dm_push 7 (.int 60)) rfl rfl ?_
  refine qs (f := dm_ic_gt 10 28) rfl (dm_ic_gt_f (hQ.2.1)) ?_
  refine qs (f := dm_lld 11 0) rfl rfl ?_
  refine qs (f := dm_push 12 (.long 0)) rfl rfl ?_
  refine qs (f := dm_lc 13) rfl rfl ?_
  refine qs (f := dm_if_lt 16 28) rfl (dm_if_lt_f (hQ.2.2.1)) ?_
  refine qs (f := dm_lld 17 0) rfl rfl ?_
  refine qs (f := dm_push 18 (.long 1)) rfl rfl ?_
  refine qs (f := dm_ild 19 2) rfl rfl ?_
  refine qs (f := dm_li 20 (fun x y => x <<< (y.toInt64 &&& 63))) rfl rfl ?_
  refine qs (f := dm_lc 21) rfl rfl ?_
  refine qs (f := dm_if_ge 24 28) rfl (dm_if_ge_f (hQ.2.2.2)) ?_
  refine qs (f := dm_push 25 (.int 1)) rfl rfl ?_
  refine qs (f := dm_goto 29) rfl rfl ?_
  exact qr (f := dm_ret .boolean) rfl rfl
set_option maxRecDepth 100000 in
theorem sy_101 (z2 : Int64)  : dm_ex dm_tb dm_cd 2000000 39 179 [.ref 68, .int 0, .long z2] mm_25 = some (some (.int 0), mm_25) := by
  refine rx (Nat.le_of_ble_eq_true rfl) ?_
  refine qs (f := dm_ald 1 0) rfl rfl ?_
  refine qs (f := dm_getf 4 8 4) rfl (dm_getf_ok ff_62) ?_
  refine qs (f := dm_ild 5 1) rfl rfl ?_
  refine qs (f := dm_iald 6) rfl (dm_iald_ok ff_63) ?_
  refine qs (f := dm_ist 8 4) rfl rfl ?_
  refine qs (f := dm_ild 10 4) rfl rfl ?_
  refine qs (f := dm_push 11 (.int 1)) rfl rfl ?_
  refine qs (f := dm_ii 12 (fun x y => x + y)) rfl rfl ?_
  refine qs (f := dm_ald 13 0) rfl rfl ?_
  refine qs (f := dm_getf 16 8 4) rfl (dm_getf_ok ff_62) ?_
  refine qs (f := dm_ild 17 1) rfl rfl ?_
  refine qs (f := dm_push 18 (.int 1)) rfl rfl ?_
  refine qs (f := dm_ii 19 (fun x y => x + y)) rfl rfl ?_
  refine qs (f := dm_iald 20) rfl (dm_iald_ok ff_64) ?_
  refine qs (f := dm_ic_ge 23 43) rfl (dm_ic_ge_t (by decide)) ?_
  refine qs (f := dm_ald 44 0) rfl rfl ?_
  refine qs (f := dm_getf 47 8 1) rfl (dm_getf_ok ff_65) ?_
  refine qs (f := dm_ild 49 4) rfl rfl ?_
  refine qs (f := dm_iald 50) rfl (dm_iald_ok ff_66) ?_
  exact qr (f := dm_ret .int) rfl rfl
set_option maxRecDepth 100000 in
theorem sy_102 (p : Int64) (n : Int32) (q : Int64) (k : Int32) (hP : okP p n) (hQ : okP q k) : dm_ex dm_tb dm_cd 2000000 40 188 [.ref 68, .int 0, .int 0, .long p, .int n, .long q, .int k] mm_23 = some (some (.int 1), mm_25) := by
  refine rx (Nat.le_of_ble_eq_true rfl) ?_
  refine qs (f := dm_ald 1 0) rfl rfl ?_
  refine qs (f := dm_push 2 (.int 0)) rfl rfl ?_
  refine qs (f := dm_putf 5 8 40 .int) rfl (dm_putf_same ff_59 rfl) ?_
  refine qs (f := dm_ald 6 0) rfl rfl ?_
  refine qs (f := dm_ild 7 1) rfl rfl ?_
  refine qc (f := dm_inv 10 137 1 8) rfl (dm_inv_ok ff_60 rfl (Nat.le_of_ble_eq_true rfl)) (ev_ok mc_24) ?_
  refine qs (f := dm_if_eq 13 40) rfl (dm_if_eq_f (by decide)) ?_
  refine qs (f := dm_ald 14 0) rfl rfl ?_
  refine qs (f := dm_ild 15 2) rfl rfl ?_
  refine qc (f := dm_inv 18 137 1 8) rfl (dm_inv_ok ff_61 rfl (Nat.le_of_ble_eq_true rfl)) (ev_ok mc_25) ?_
  refine qs (f := dm_if_eq 21 40) rfl (dm_if_eq_f (by decide)) ?_
  refine qs (f := dm_lld 22 3) rfl rfl ?_
  refine qs (f := dm_ild 24 5) rfl rfl ?_
  refine qc (f := dm_ins 27 178 2) rfl rfl (sy_99 p n hP) ?_
  refine qs (f := dm_if_eq 30 40) rfl (dm_if_eq_f (by decide)) ?_
  refine qs (f := dm_lld 32 6) rfl rfl ?_
  refine qs (f := dm_ild 34 8) rfl rfl ?_
  refine qc (f := dm_ins 37 178 2) rfl rfl (sy_100 q k hQ) ?_
  refine qs (f := dm_if_ne 40 42) rfl (dm_if_ne_t (by decide)) ?_
  refine qs (f := dm_lld 43 3) rfl rfl ?_
  refine qs (f := dm_push 45 (.int 60)) rfl rfl ?_
  refine qs (f := dm_ild 47 5) rfl rfl ?_
  refine qs (f := dm_ii 48 (fun x y => x - y)) rfl rfl ?_
  refine qs (f := dm_li 49 (fun x y => x <<< (y.toInt64 &&& 63))) rfl rfl ?_
  refine qs (f := dm_lst 51 9) rfl rfl ?_
  refine qs (f := dm_lld 53 6) rfl rfl ?_
  refine qs (f := dm_push 55 (.int 60)) rfl rfl ?_
  refine qs (f := dm_ild 57 8) rfl rfl ?_
  refine qs (f := dm_ii 58 (fun x y => x - y)) rfl rfl ?_
  refine qs (f := dm_li 59 (fun x y => x <<< (y.toInt64 &&& 63))) rfl rfl ?_
  refine qs (f := dm_lst 61 11) rfl rfl ?_
  refine qs (f := dm_ald 62 0) rfl rfl ?_
  refine qs (f := dm_ild 63 1) rfl rfl ?_
  refine qs (f := dm_lld 65 9) rfl rfl ?_
  refine qc (f := dm_inv 68 179 2 8) rfl (dm_inv_ok ff_67 rfl (Nat.le_of_ble_eq_true rfl)) (sy_101 (p <<< ((60 - n).toInt64 &&& 63))) ?_
  refine qs (f := dm_ald 69 0) rfl rfl ?_
  refine qs (f := dm_ild 70 2) rfl rfl ?_
  refine qs (f := dm_lld 72 9) rfl rfl ?_
  refine qc (f := dm_inv 75 179 2 8) rfl (dm_inv_ok ff_67 rfl (Nat.le_of_ble_eq_true rfl)) (sy_101 (p <<< ((60 - n).toInt64 &&& 63))) ?_
  refine qs (f := dm_ic_gt 78 82) rfl (dm_ic_gt_f (by decide)) ?_
  refine qs (f := dm_push 79 (.int 1)) rfl rfl ?_
  refine qs (f := dm_goto 104) rfl rfl ?_
  exact qr (f := dm_ret .int) rfl rfl
set_option maxRecDepth 100000 in
theorem sy_103 (v : Int64) (n : Int32) (hn : n < 0 ∨ 64 < n) : dm_ex dm_tb dm_cd 2000000 40 117 [.ref 0, .long v, .int n] ev_3 = some (some (.int (-1)), ev_3) := by
  refine rx (Nat.le_of_ble_eq_true rfl) ?_
  refine qs (f := dm_ild 1 3) rfl rfl ?_
  by_cases hp11 : n < (0 : Int32)
  · refine qs (f := dm_if_lt 4 25) rfl (dm_if_lt_t hp11) ?_
    refine qs (f := dm_push 26 (.int (-1))) rfl rfl ?_
    exact qr (f := dm_ret .int) rfl rfl
  · refine qs (f := dm_if_lt 4 25) rfl (dm_if_lt_f hp11) ?_
    refine qs (f := dm_ild 5 3) rfl rfl ?_
    refine qs (f := dm_push 7 (.int 64)) rfl rfl ?_
    refine qs (f := dm_ic_gt 10 25) rfl (dm_ic_gt_t (hn.resolve_left hp11)) ?_
    refine qs (f := dm_push 26 (.int (-1))) rfl rfl ?_
    exact qr (f := dm_ret .int) rfl rfl
set_option maxRecDepth 100000 in
theorem sy_104 (v : Int64) (n : Int32) (hn : n < 0 ∨ 64 < n) : dm_ex dm_tb dm_cd 2000000 40 196 [.ref 68, .long v, .int n] ev_3 = some (some (.int (-1)), ev_3) := by
  refine rx (Nat.le_of_ble_eq_true rfl) ?_
  refine qs (f := dm_ald 1 0) rfl rfl ?_
  refine qs (f := dm_push 2 (.int 0)) rfl rfl ?_
  refine qs (f := dm_putf 5 8 40 .int) rfl (dm_putf_same ff_4 rfl) ?_
  refine qs (f := dm_ild 6 3) rfl rfl ?_
  by_cases hp11 : n < (0 : Int32)
  · refine qs (f := dm_if_lt 9 27) rfl (dm_if_lt_t hp11) ?_
    refine qs (f := dm_push 28 (.int (-1))) rfl rfl ?_
    exact qr (f := dm_ret .int) rfl rfl
  · refine qs (f := dm_if_lt 9 27) rfl (dm_if_lt_f hp11) ?_
    refine qs (f := dm_ild 10 3) rfl rfl ?_
    refine qs (f := dm_push 12 (.int 64)) rfl rfl ?_
    refine qs (f := dm_ic_gt 15 27) rfl (dm_ic_gt_t (hn.resolve_left hp11)) ?_
    refine qs (f := dm_push 28 (.int (-1))) rfl rfl ?_
    exact qr (f := dm_ret .int) rfl rfl
