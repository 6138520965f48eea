/-! height and owns: the class, the reference, the law -/
def dm_putl (M : dm_Mem) (a : Nat) (i : Int32) (x : Int64) : dm_Mem := match M[a]? with
  | some (.inl (.long, k, .inr (.inl f))) => M.set a (.inl (.long, k, .inr (.inl (vp_updL f i.toNatClampNeg x))))
  | _ => M
theorem dm_last_ok {n a : Nat} {i : Int32} {x w : Int64} {lv : dm_Lv} {r : List Value} {M : dm_Mem} (h : dm_arl M a i = some w) : dm_last n lv (.long x :: .int i :: .ref a :: r) M = some (.inl ((n, lv, r), dm_putl M a i x)) := by
  unfold dm_arl at h
  unfold dm_last dm_putl
  split at h
  · rename_i k f e1
    split at h
    · cases h
    · rename_i hc
      simp only [e1, if_neg hc]
  · cases h
theorem tl_sN_ok {o : Bool} {n x a : Nat} {nI sI : Int32} {pL : Int64} {lv : dm_Lv} {r : List Value} {M M' : dm_Mem} {v : Value} (hc : (r.map fun v => v.category).sum ≤ 8) (h : dm_run ev_E (tl_cd o) 2000000 (0, lv_args 0 [.ref a, .int sI, .long pL, .int nI, .ref x], []) M = some (some v, M')) : tl_sem false o n lv (.ref x :: .int nI :: .long pL :: .int sI :: .ref a :: r) M = some (.inl ((n, lv, v :: r), M')) := by
  have e : tl_sem false o n = tl_sN o n := rfl
  rw [e]
  unfold tl_sN
  simp only [if_pos hc, h]
theorem tl_sT_ok {o : Bool} {n x a : Nat} {nI sI : Int32} {pL : Int64} {lv : dm_Lv} {r : List Value} {M M' : dm_Mem} (hc : (r.map fun v => v.category).sum ≤ 8) (h7 : dm_isO M a 7 = true) (h : dm_run ev_E (tx_mk (dm_cd (tl_mi o))) 2000000 (0, lv_args 0 [.ref a, .int sI, .long pL, .int nI], []) M = some (some (.long 77), M')) : tl_sem true o n lv (.ref x :: .int nI :: .long pL :: .int sI :: .ref a :: r) M = some (.inl ((n, lv, .int 1 :: r), M' ++ [tx_x])) := by
  have e : tl_sem true o n = tl_sT o n := rfl
  rw [e]
  unfold tl_sT
  simp only [if_pos (And.intro hc h7), h]
  rfl
theorem i_shk : ∀ j : Nat, j < 61 → ((60 - nI j).toInt64 &&& 63).toBitVec.smod 64 = BitVec.ofNat 64 (60 - j) ∧ (1 : Int64) <<< ((nI j).toInt64 &&& 63) = Int64.ofNat (2 ^ j) ∧ (Int64.ofNat (2 ^ j)).toInt = ((2 ^ j : Nat) : Int) ∧ (60 - j) % 2 ^ 64 = 60 - j := by decide +kernel
theorem i_sh {p : Int64} {n : Int32} (h : okP p n) : ∃ P : Nat, (p <<< ((60 - n).toInt64 &&& 63)).toInt = (P : Int) ∧ P < 2 ^ 60 := by
  obtain ⟨h1, h2, h3, h4⟩ := h
  obtain ⟨j, hj, rfl⟩ := nI_of2 (M := 60) (n := 60) (by decide) h1 (Int32.not_lt.mp h2)
  obtain ⟨a1, a2, a3, a4⟩ := i_shk j (by omega)
  rw [lg_cmp_lt, Int64.lt_iff_toInt_lt, show (0 : Int64).toInt = 0 by decide] at h3
  rw [lg_cmp_ge, a2, Int64.le_iff_toInt_le, a3] at h4
  have q0 := BitVec.toInt_eq_toNat_cond p.toBitVec
  have q1 := p.toBitVec.isLt
  have q2 : p.toInt = p.toBitVec.toInt := rfl
  have q3 : p.toBitVec.toNat < 2 ^ j := by
    split at q0
    · omega
    · exfalso; omega
  have q4 : p.toBitVec.toNat * 2 ^ (60 - j) < 2 ^ 60 := by
    have e1 : (2 : Nat) ^ 60 = 2 ^ j * 2 ^ (60 - j) := by rw [← Nat.pow_add]; congr 1; omega
    rw [e1]
    exact Nat.mul_lt_mul_of_pos_right q3 (Nat.two_pow_pos _)
  have e2 : (p <<< ((60 - nI j).toInt64 &&& 63)).toBitVec.toNat = p.toBitVec.toNat * 2 ^ (60 - j) := by
    rw [Int64.toBitVec_shiftLeft, a1, BitVec.shiftLeft_eq', BitVec.toNat_shiftLeft, BitVec.toNat_ofNat, a4, Nat.shiftLeft_eq, Nat.mod_eq_of_lt (by omega)]
  refine ⟨p.toBitVec.toNat * 2 ^ (60 - j), ?_, q4⟩
  show (p <<< ((60 - nI j).toInt64 &&& 63)).toBitVec.toInt = _
  rw [BitVec.toInt_eq_toNat_cond, e2, if_pos (by omega)]
theorem i_sh0 {p : Int64} {n : Int32} (h : okP p n) : ¬ 0 < lg_cmp 0 (p <<< ((60 - n).toInt64 &&& 63)) := by
  obtain ⟨P, h1, h2⟩ := i_sh h
  rw [lg_cmp_gt, Int64.lt_iff_toInt_lt, h1, show (0 : Int64).toInt = 0 by decide]
  omega
theorem i_sh1 {p : Int64} {n : Int32} (h : okP p n) : ¬ 0 ≤ lg_cmp (p <<< ((60 - n).toInt64 &&& 63)) 1152921504606846976 := by
  obtain ⟨P, h1, h2⟩ := i_sh h
  rw [lg_cmp_ge, Int64.le_iff_toInt_le, h1, show (1152921504606846976 : Int64).toInt = 1152921504606846976 by decide]
  omega
noncomputable def hmm_1 : dm_Mem := ev_M (dm_ex dm_tb dm_cd 2000000 39 17 [.ref 1, .int 0] ev_3)
noncomputable def hmm_2 : dm_Mem := ev_M (dm_ex dm_tb dm_cd 2000000 39 19 [.ref 1, .int 0] hmm_1)
noncomputable def hmm_3 : dm_Mem := ev_M (dm_ex dm_tb dm_cd 2000000 38 75 [.ref 2, .int 0] hmm_2)
noncomputable def hmm_4 : dm_Mem := ev_M (dm_ex dm_tb dm_cd 2000000 38 77 [.ref 2, .int 0] hmm_3)
noncomputable def hmm_5 : dm_Mem := ev_M (dm_ex dm_tb dm_cd 2000000 39 137 [.ref 68, .int 0] (dm_putl hmm_4 116 0 0))
noncomputable def hmm_6 : dm_Mem := ev_M (dm_ex dm_tb dm_cd 2000000 40 135 [.ref 68] hmm_5)
noncomputable def hmm_7 : dm_Mem := ev_M (dm_ex dm_tb dm_cd 2000000 40 135 [.ref 68] (dm_put (ev_3 ++ [tx_x]) 68 8 40 (.int 1)))
noncomputable def hmm_8 : dm_Mem := ev_M (dm_ex dm_tb dm_cd 2000000 40 17 [.ref 1, .int 0] ev_3)
noncomputable def hmm_9 : dm_Mem := ev_M (dm_ex dm_tb dm_cd 2000000 39 137 [.ref 68, .int 0] (hmm_8 ++ [tx_x]))
noncomputable def hmm_10 : dm_Mem := ev_M (dm_ex dm_tb dm_cd 2000000 40 135 [.ref 68] (dm_put hmm_9 68 8 40 (.int 1)))
noncomputable def hmm_11 : dm_Mem := ev_M (dm_ex dm_tb dm_cd 2000000 39 18 [.ref 1, .int 0] hmm_1)
noncomputable def hmm_12 : dm_Mem := ev_M (dm_ex dm_tb dm_cd 2000000 38 75 [.ref 2, .int 1] hmm_11)
noncomputable def hmm_13 : dm_Mem := ev_M (dm_ex dm_tb dm_cd 2000000 38 77 [.ref 2, .int 1] hmm_12)
noncomputable def hmm_14 : dm_Mem := ev_M (dm_ex dm_tb dm_cd 2000000 39 137 [.ref 68, .int 0] (dm_putl hmm_13 116 0 1))
noncomputable def hmm_15 : dm_Mem := ev_M (dm_ex dm_tb dm_cd 2000000 40 135 [.ref 68] hmm_14)
set_option maxRecDepth 100000 in
theorem hfa_0 : (dm_fld ev_3 0 7 0 = some (.ref 1)) ∧ ((dm_ex dm_tb dm_cd 2000000 39 17 [.ref 1, .int 0] ev_3).map (fun q => q.1) = some (some (.int 1))) ∧ (dm_isO ev_3 1 2 = true) ∧ (dm_fld hmm_1 0 7 0 = some (.ref 1)) ∧ (dm_fld hmm_1 1 2 0 = some (.ref 2)) ∧ ((dm_ex dm_tb dm_cd 2000000 39 19 [.ref 1, .int 0] hmm_1).map (fun q => q.1) = some (some (.int 0))) ∧ (dm_isO hmm_1 1 2 = true) ∧ ((dm_ex dm_tb dm_cd 2000000 38 75 [.ref 2, .int 0] hmm_2).map (fun q => q.1) = some (some (.int 0))) ∧ (dm_isO hmm_2 2 6 = true) ∧ ((dm_ex dm_tb dm_cd 2000000 38 77 [.ref 2, .int 0] hmm_3).map (fun q => q.1) = some (some (.int 1))) ∧ (dm_isO hmm_3 2 6 = true) ∧ (dm_isO ev_3 0 7 = true) ∧ (dm_arl hmm_4 116 0 = some 0) ∧ (dm_fld (dm_putl hmm_4 116 0 0) 68 8 40 = some (.int 0)) ∧ ((dm_ex dm_tb dm_cd 2000000 39 137 [.ref 68, .int 0] (dm_putl hmm_4 116 0 0)).map (fun q => q.1) = some (some (.int 1))) ∧ (dm_isO (dm_putl hmm_4 116 0 0) 68 8 = true) ∧ (dm_fld hmm_5 68 8 4 = some (.ref 73)) ∧ (dm_ari hmm_5 73 0 = some 0) ∧ (dm_ari hmm_5 73 1 = some 1) ∧ (dm_fld hmm_5 68 8 1 = some (.ref 70)) ∧ (dm_ari hmm_5 70 0 = some 0) ∧ (dm_isO hmm_5 68 8 = true) ∧ ((dm_ex dm_tb dm_cd 2000000 40 135 [.ref 68] hmm_5).map (fun q => q.1) = some (some (.int 0))) ∧ (dm_arl hmm_6 116 0 = some 0) ∧ (dm_bd hmm_6 = true) ∧ (dm_fld ev_3 1 2 9 = some (.int 1)) ∧ (dm_fld (ev_3 ++ [tx_x]) 68 8 40 = some (.int 0)) ∧ (dm_fld (ev_3 ++ [tx_x]) 68 8 15 = some (.int 1)) ∧ (dm_isO (ev_3 ++ [tx_x]) 68 8 = true) ∧ ((dm_ex dm_tb dm_cd 2000000 40 135 [.ref 68] (dm_put (ev_3 ++ [tx_x]) 68 8 40 (.int 1))).map (fun q => q.1) = some (some (.int 1))) ∧ (dm_isO (dm_put (ev_3 ++ [tx_x]) 68 8 40 (.int 1)) 68 8 = true) ∧ (dm_bd hmm_7 = true) ∧ ((dm_ex dm_tb dm_cd 2000000 40 17 [.ref 1, .int 0] ev_3).map (fun q => q.1) = some (some (.int 1))) ∧ (dm_fld (hmm_8 ++ [tx_x]) 68 8 40 = some (.int 0)) ∧ ((dm_ex dm_tb dm_cd 2000000 39 137 [.ref 68, .int 0] (hmm_8 ++ [tx_x])).map (fun q => q.1) = some (some (.int 1))) ∧ (dm_isO (hmm_8 ++ [tx_x]) 68 8 = true) ∧ (dm_fld hmm_9 68 8 40 = some (.int 0)) ∧ ((dm_ex dm_tb dm_cd 2000000 40 135 [.ref 68] (dm_put hmm_9 68 8 40 (.int 1))).map (fun q => q.1) = some (some (.int 1))) ∧ (dm_isO (dm_put hmm_9 68 8 40 (.int 1)) 68 8 = true) ∧ (dm_bd hmm_10 = true) := by decide +kernel
theorem hff_1 : dm_fld ev_3 0 7 0 = some (.ref 1) := hfa_0.1
theorem hmc_1 : (dm_ex dm_tb dm_cd 2000000 39 17 [.ref 1, .int 0] ev_3).map (fun q => q.1) = some (some (.int 1)) := hfa_0.2.1
theorem hff_2 : dm_isO ev_3 1 2 = true := hfa_0.2.2.1
theorem hff_3 : dm_fld hmm_1 0 7 0 = some (.ref 1) := hfa_0.2.2.2.1
theorem hff_4 : dm_fld hmm_1 1 2 0 = some (.ref 2) := hfa_0.2.2.2.2.1
theorem hmc_2 : (dm_ex dm_tb dm_cd 2000000 39 19 [.ref 1, .int 0] hmm_1).map (fun q => q.1) = some (some (.int 0)) := hfa_0.2.2.2.2.2.1
theorem hff_5 : dm_isO hmm_1 1 2 = true := hfa_0.2.2.2.2.2.2.1
theorem hmc_3 : (dm_ex dm_tb dm_cd 2000000 38 75 [.ref 2, .int 0] hmm_2).map (fun q => q.1) = some (some (.int 0)) := hfa_0.2.2.2.2.2.2.2.1
theorem hff_6 : dm_isO hmm_2 2 6 = true := hfa_0.2.2.2.2.2.2.2.2.1
theorem hmc_4 : (dm_ex dm_tb dm_cd 2000000 38 77 [.ref 2, .int 0] hmm_3).map (fun q => q.1) = some (some (.int 1)) := hfa_0.2.2.2.2.2.2.2.2.2.1
theorem hff_7 : dm_isO hmm_3 2 6 = true := hfa_0.2.2.2.2.2.2.2.2.2.2.1
theorem hff_8 : dm_isO ev_3 0 7 = true := hfa_0.2.2.2.2.2.2.2.2.2.2.2.1
theorem hff_9 : dm_arl hmm_4 116 0 = some 0 := hfa_0.2.2.2.2.2.2.2.2.2.2.2.2.1
theorem hff_10 : dm_fld (dm_putl hmm_4 116 0 0) 68 8 40 = some (.int 0) := hfa_0.2.2.2.2.2.2.2.2.2.2.2.2.2.1
theorem hmc_5 : (dm_ex dm_tb dm_cd 2000000 39 137 [.ref 68, .int 0] (dm_putl hmm_4 116 0 0)).map (fun q => q.1) = some (some (.int 1)) := hfa_0.2.2.2.2.2.2.2.2.2.2.2.2.2.2.1
theorem hff_11 : dm_isO (dm_putl hmm_4 116 0 0) 68 8 = true := hfa_0.2.2.2.2.2.2.2.2.2.2.2.2.2.2.2.1
theorem hff_12 : dm_fld hmm_5 68 8 4 = some (.ref 73) := hfa_0.2.2.2.2.2.2.2.2.2.2.2.2.2.2.2.2.1
theorem hff_13 : dm_ari hmm_5 73 0 = some 0 := hfa_0.2.2.2.2.2.2.2.2.2.2.2.2.2.2.2.2.2.1
theorem hff_14 : dm_ari hmm_5 73 1 = some 1 := hfa_0.2.2.2.2.2.2.2.2.2.2.2.2.2.2.2.2.2.2.1
theorem hff_15 : dm_fld hmm_5 68 8 1 = some (.ref 70) := hfa_0.2.2.2.2.2.2.2.2.2.2.2.2.2.2.2.2.2.2.2.1
theorem hff_16 : dm_ari hmm_5 70 0 = some 0 := hfa_0.2.2.2.2.2.2.2.2.2.2.2.2.2.2.2.2.2.2.2.2.1
theorem hff_17 : dm_isO hmm_5 68 8 = true := hfa_0.2.2.2.2.2.2.2.2.2.2.2.2.2.2.2.2.2.2.2.2.2.1
theorem hmc_6 : (dm_ex dm_tb dm_cd 2000000 40 135 [.ref 68] hmm_5).map (fun q => q.1) = some (some (.int 0)) := hfa_0.2.2.2.2.2.2.2.2.2.2.2.2.2.2.2.2.2.2.2.2.2.2.1
theorem hff_18 : dm_arl hmm_6 116 0 = some 0 := hfa_0.2.2.2.2.2.2.2.2.2.2.2.2.2.2.2.2.2.2.2.2.2.2.2.1
theorem hff_19 : dm_bd hmm_6 = true := hfa_0.2.2.2.2.2.2.2.2.2.2.2.2.2.2.2.2.2.2.2.2.2.2.2.2.1
theorem hff_20 : dm_fld ev_3 1 2 9 = some (.int 1) := hfa_0.2.2.2.2.2.2.2.2.2.2.2.2.2.2.2.2.2.2.2.2.2.2.2.2.2.1
theorem hff_21 : dm_fld (ev_3 ++ [tx_x]) 68 8 40 = some (.int 0) := hfa_0.2.2.2.2.2.2.2.2.2.2.2.2.2.2.2.2.2.2.2.2.2.2.2.2.2.2.1
theorem hff_22 : dm_fld (ev_3 ++ [tx_x]) 68 8 15 = some (.int 1) := hfa_0.2.2.2.2.2.2.2.2.2.2.2.2.2.2.2.2.2.2.2.2.2.2.2.2.2.2.2.1
theorem hff_23 : dm_isO (ev_3 ++ [tx_x]) 68 8 = true := hfa_0.2.2.2.2.2.2.2.2.2.2.2.2.2.2.2.2.2.2.2.2.2.2.2.2.2.2.2.2.1
theorem hmc_7 : (dm_ex dm_tb dm_cd 2000000 40 135 [.ref 68] (dm_put (ev_3 ++ [tx_x]) 68 8 40 (.int 1))).map (fun q => q.1) = some (some (.int 1)) := hfa_0.2.2.2.2.2.2.2.2.2.2.2.2.2.2.2.2.2.2.2.2.2.2.2.2.2.2.2.2.2.1
theorem hff_24 : dm_isO (dm_put (ev_3 ++ [tx_x]) 68 8 40 (.int 1)) 68 8 = true := hfa_0.2.2.2.2.2.2.2.2.2.2.2.2.2.2.2.2.2.2.2.2.2.2.2.2.2.2.2.2.2.2.1
theorem hff_25 : dm_bd hmm_7 = true := hfa_0.2.2.2.2.2.2.2.2.2.2.2.2.2.2.2.2.2.2.2.2.2.2.2.2.2.2.2.2.2.2.2.1
theorem hmc_8 : (dm_ex dm_tb dm_cd 2000000 40 17 [.ref 1, .int 0] ev_3).map (fun q => q.1) = some (some (.int 1)) := hfa_0.2.2.2.2.2.2.2.2.2.2.2.2.2.2.2.2.2.2.2.2.2.2.2.2.2.2.2.2.2.2.2.2.1
theorem hff_26 : dm_fld (hmm_8 ++ [tx_x]) 68 8 40 = some (.int 0) := hfa_0.2.2.2.2.2.2.2.2.2.2.2.2.2.2.2.2.2.2.2.2.2.2.2.2.2.2.2.2.2.2.2.2.2.1
theorem hmc_9 : (dm_ex dm_tb dm_cd 2000000 39 137 [.ref 68, .int 0] (hmm_8 ++ [tx_x])).map (fun q => q.1) = some (some (.int 1)) := hfa_0.2.2.2.2.2.2.2.2.2.2.2.2.2.2.2.2.2.2.2.2.2.2.2.2.2.2.2.2.2.2.2.2.2.2.1
theorem hff_27 : dm_isO (hmm_8 ++ [tx_x]) 68 8 = true := hfa_0.2.2.2.2.2.2.2.2.2.2.2.2.2.2.2.2.2.2.2.2.2.2.2.2.2.2.2.2.2.2.2.2.2.2.2.1
theorem hff_28 : dm_fld hmm_9 68 8 40 = some (.int 0) := hfa_0.2.2.2.2.2.2.2.2.2.2.2.2.2.2.2.2.2.2.2.2.2.2.2.2.2.2.2.2.2.2.2.2.2.2.2.2.1
theorem hmc_10 : (dm_ex dm_tb dm_cd 2000000 40 135 [.ref 68] (dm_put hmm_9 68 8 40 (.int 1))).map (fun q => q.1) = some (some (.int 1)) := hfa_0.2.2.2.2.2.2.2.2.2.2.2.2.2.2.2.2.2.2.2.2.2.2.2.2.2.2.2.2.2.2.2.2.2.2.2.2.2.1
theorem hff_29 : dm_isO (dm_put hmm_9 68 8 40 (.int 1)) 68 8 = true := hfa_0.2.2.2.2.2.2.2.2.2.2.2.2.2.2.2.2.2.2.2.2.2.2.2.2.2.2.2.2.2.2.2.2.2.2.2.2.2.2.1
theorem hff_30 : dm_bd hmm_10 = true := hfa_0.2.2.2.2.2.2.2.2.2.2.2.2.2.2.2.2.2.2.2.2.2.2.2.2.2.2.2.2.2.2.2.2.2.2.2.2.2.2.2
set_option maxRecDepth 100000 in
theorem hfa_1 : ((dm_ex dm_tb dm_cd 2000000 39 18 [.ref 1, .int 0] hmm_1).map (fun q => q.1) = some (some (.int 1))) ∧ ((dm_ex dm_tb dm_cd 2000000 38 75 [.ref 2, .int 1] hmm_11).map (fun q => q.1) = some (some (.int 1))) ∧ (dm_isO hmm_11 2 6 = true) ∧ ((dm_ex dm_tb dm_cd 2000000 38 77 [.ref 2, .int 1] hmm_12).map (fun q => q.1) = some (some (.int 1))) ∧ (dm_isO hmm_12 2 6 = true) ∧ (dm_arl hmm_13 116 0 = some 0) ∧ (dm_fld (dm_putl hmm_13 116 0 1) 68 8 40 = some (.int 0)) ∧ ((dm_ex dm_tb dm_cd 2000000 39 137 [.ref 68, .int 0] (dm_putl hmm_13 116 0 1)).map (fun q => q.1) = some (some (.int 1))) ∧ (dm_isO (dm_putl hmm_13 116 0 1) 68 8 = true) ∧ (dm_fld hmm_14 68 8 5 = some (.ref 74)) ∧ (dm_ari hmm_14 74 0 = some 0) ∧ (dm_ari hmm_14 74 1 = some 1) ∧ (dm_fld hmm_14 68 8 2 = some (.ref 71)) ∧ (dm_arl hmm_14 71 0 = some 0) ∧ (dm_fld hmm_14 68 8 3 = some (.ref 72)) ∧ (dm_arl hmm_14 72 0 = some 1152921504606846976) ∧ ((dm_ex dm_tb dm_cd 2000000 40 135 [.ref 68] hmm_14).map (fun q => q.1) = some (some (.int 0))) ∧ (dm_isO hmm_14 68 8 = true) ∧ (dm_arl hmm_15 116 0 = some 1) ∧ (dm_bd hmm_15 = true) := by decide +kernel
theorem hmc_11 : (dm_ex dm_tb dm_cd 2000000 39 18 [.ref 1, .int 0] hmm_1).map (fun q => q.1) = some (some (.int 1)) := hfa_1.1
theorem hmc_12 : (dm_ex dm_tb dm_cd 2000000 38 75 [.ref 2, .int 1] hmm_11).map (fun q => q.1) = some (some (.int 1)) := hfa_1.2.1
theorem hff_31 : dm_isO hmm_11 2 6 = true := hfa_1.2.2.1
theorem hmc_13 : (dm_ex dm_tb dm_cd 2000000 38 77 [.ref 2, .int 1] hmm_12).map (fun q => q.1) = some (some (.int 1)) := hfa_1.2.2.2.1
theorem hff_32 : dm_isO hmm_12 2 6 = true := hfa_1.2.2.2.2.1
theorem hff_33 : dm_arl hmm_13 116 0 = some 0 := hfa_1.2.2.2.2.2.1
theorem hff_34 : dm_fld (dm_putl hmm_13 116 0 1) 68 8 40 = some (.int 0) := hfa_1.2.2.2.2.2.2.1
theorem hmc_14 : (dm_ex dm_tb dm_cd 2000000 39 137 [.ref 68, .int 0] (dm_putl hmm_13 116 0 1)).map (fun q => q.1) = some (some (.int 1)) := hfa_1.2.2.2.2.2.2.2.1
theorem hff_35 : dm_isO (dm_putl hmm_13 116 0 1) 68 8 = true := hfa_1.2.2.2.2.2.2.2.2.1
theorem hff_36 : dm_fld hmm_14 68 8 5 = some (.ref 74) := hfa_1.2.2.2.2.2.2.2.2.2.1
theorem hff_37 : dm_ari hmm_14 74 0 = some 0 := hfa_1.2.2.2.2.2.2.2.2.2.2.1
theorem hff_38 : dm_ari hmm_14 74 1 = some 1 := hfa_1.2.2.2.2.2.2.2.2.2.2.2.1
theorem hff_39 : dm_fld hmm_14 68 8 2 = some (.ref 71) := hfa_1.2.2.2.2.2.2.2.2.2.2.2.2.1
theorem hff_40 : dm_arl hmm_14 71 0 = some 0 := hfa_1.2.2.2.2.2.2.2.2.2.2.2.2.2.1
theorem hff_41 : dm_fld hmm_14 68 8 3 = some (.ref 72) := hfa_1.2.2.2.2.2.2.2.2.2.2.2.2.2.2.1
theorem hff_42 : dm_arl hmm_14 72 0 = some 1152921504606846976 := hfa_1.2.2.2.2.2.2.2.2.2.2.2.2.2.2.2.1
theorem hmc_15 : (dm_ex dm_tb dm_cd 2000000 40 135 [.ref 68] hmm_14).map (fun q => q.1) = some (some (.int 0)) := hfa_1.2.2.2.2.2.2.2.2.2.2.2.2.2.2.2.2.1
theorem hff_43 : dm_isO hmm_14 68 8 = true := hfa_1.2.2.2.2.2.2.2.2.2.2.2.2.2.2.2.2.2.1
theorem hff_44 : dm_arl hmm_15 116 0 = some 1 := hfa_1.2.2.2.2.2.2.2.2.2.2.2.2.2.2.2.2.2.2.1
theorem hff_45 : dm_bd hmm_15 = true := hfa_1.2.2.2.2.2.2.2.2.2.2.2.2.2.2.2.2.2.2.2
set_option maxRecDepth 100000 in
theorem hsy_1 (p : Int64) (n : Int32) (hP : okP p n) : dm_ex dm_tb dm_cd 2000000 39 133 [.long p, .int n] hmm_1 = some (some (.int 1), hmm_1) := by
  refine rx (Nat.le_of_ble_eq_true rfl) ?_
  refine qs (f := dm_ild 1 2) rfl rfl ?_
  refine qs (f := dm_if_lt 4 28) rfl (dm_if_lt_f (hP.1)) ?_
  refine qs (f := dm_ild 5 2) rfl rfl ?_
  refine qs (f := dm_push 7 (.int 60)) rfl rfl ?_
  refine qs (f := dm_ic_gt 10 28) rfl (dm_ic_gt_f (hP.2.1)) ?_
  refine qs (f := dm_lld 11 0) rfl rfl ?_
  refine qs (f := dm_push 12 (.long 0)) rfl rfl ?_
  refine qs (f := dm_lc 13) rfl rfl ?_
  refine qs (f := dm_if_lt 16 28) rfl (dm_if_lt_f (hP.2.2.1)) ?_
  refine qs (f := dm_lld 17 0) rfl rfl ?_
  refine qs (f := dm_push 18 (.long 1)) rfl rfl ?_
  refine qs (f := dm_ild 19 2) rfl rfl ?_
  refine qs (f := dm_li 20 (fun x y => x <<< (y.toInt64 &&& 63))) rfl rfl ?_
  refine qs (f := dm_lc 21) rfl rfl ?_
  refine qs (f := dm_if_ge 24 28) rfl (dm_if_ge_f (hP.2.2.2)) ?_
  refine qs (f := dm_push 25 (.int 1)) rfl rfl ?_
  refine qs (f := dm_goto 29) rfl rfl ?_
  exact qr (f := dm_ret .boolean) rfl rfl
set_option maxRecDepth 100000 in
theorem hsy_2 (p : Int64) (n : Int32) (hP : okP p n) : dm_ex dm_tb dm_cd 2000000 39 87 [.ref 2, .int 0, .long p, .int n] hmm_2 = some (some (.int 0), hmm_4) := by
  refine rx (Nat.le_of_ble_eq_true rfl) ?_
  refine qs (f := dm_ild 1 1) rfl rfl ?_
  refine qs (f := dm_ist 3 5) rfl rfl ?_
  refine qs (f := dm_ald 4 0) rfl rfl ?_
  refine qs (f := dm_ild 6 5) rfl rfl ?_
  refine qc (f := dm_inv 9 75 1 6) rfl (dm_inv_ok hff_6 rfl (Nat.le_of_ble_eq_true rfl)) (ev_ok hmc_3) ?_
  refine qs (f := dm_ist 11 6) rfl rfl ?_
  refine qs (f := dm_ild 13 4) rfl rfl ?_
  refine qs (f := dm_push 14 (.int 1)) rfl rfl ?_
  refine qs (f := dm_ii 15 (fun x y => x - y)) rfl rfl ?_
  refine qs (f := dm_ist 17 7) rfl rfl ?_
  refine qs (f := dm_ild 19 7) rfl rfl ?_
  refine qs (f := dm_ild 21 4) rfl rfl ?_
  refine qs (f := dm_push 23 (.int 60)) rfl rfl ?_
  refine qs (f := dm_ii 24 (fun x y => x - y)) rfl rfl ?_
  refine qs (f := dm_ic_lt 27 98) rfl (dm_ic_lt_f (i_n60 hP.1 hP.2.1)) ?_
  refine qs (f := dm_ald 28 0) rfl rfl ?_
  refine qs (f := dm_ild 30 5) rfl rfl ?_
  refine qc (f := dm_inv 33 77 1 6) rfl (dm_inv_ok hff_7 rfl (Nat.le_of_ble_eq_true rfl)) (ev_ok hmc_4) ?_
  refine qs (f := dm_if_ne 36 98) rfl (dm_if_ne_t (by decide)) ?_
  refine qs (f := dm_ild 100 6) rfl rfl ?_
  exact qr (f := dm_ret .int) rfl rfl
set_option maxRecDepth 100000 in
theorem hsy_3 (p : Int64) (n : Int32) (hP : okP p n) : dm_ex dm_tb dm_cd 2000000 40 108 [.ref 0, .int 0, .long p, .int n] ev_3 = some (some (.int 0), hmm_4) := by
  refine rx (Nat.le_of_ble_eq_true rfl) ?_
  refine qs (f := dm_ald 1 0) rfl rfl ?_
  refine qs (f := dm_getf 4 7 0) rfl (dm_getf_ok hff_1) ?_
  refine qs (f := dm_ild 5 1) rfl rfl ?_
  refine qc (f := dm_inv 8 17 1 2) rfl (dm_inv_ok hff_2 rfl (Nat.le_of_ble_eq_true rfl)) (ev_ok hmc_1) ?_
  refine qs (f := dm_if_eq 11 20) rfl (dm_if_eq_f (by decide)) ?_
  refine qs (f := dm_lld 12 2) rfl rfl ?_
  refine qs (f := dm_ild 14 4) rfl rfl ?_
  refine qc (f := dm_ins 17 133 2) rfl rfl (hsy_1 p n hP) ?_
  refine qs (f := dm_if_ne 20 30) rfl (dm_if_ne_t (by decide)) ?_
  refine qs (f := dm_ald 31 0) rfl rfl ?_
  refine qs (f := dm_getf 34 7 0) rfl (dm_getf_ok hff_3) ?_
  refine qs (f := dm_getf 37 2 0) rfl (dm_getf_ok hff_4) ?_
  refine qs (f := dm_ald 38 0) rfl rfl ?_
  refine qs (f := dm_getf 41 7 0) rfl (dm_getf_ok hff_3) ?_
  refine qs (f := dm_ild 42 1) rfl rfl ?_
  refine qc (f := dm_inv 45 19 1 2) rfl (dm_inv_ok hff_5 rfl (Nat.le_of_ble_eq_true rfl)) (ev_ok hmc_2) ?_
  refine qs (f := dm_lld 46 2) rfl rfl ?_
  refine qs (f := dm_ild 48 4) rfl rfl ?_
  refine qc (f := dm_inv 51 87 3 6) rfl (dm_inv_ok hff_6 rfl (Nat.le_of_ble_eq_true rfl)) (hsy_2 p n hP) ?_
  exact qr (f := dm_ret .int) rfl rfl
set_option maxRecDepth 100000 in
theorem hsy_4 (p : Int64) (n : Int32) (hP : okP p n) : dm_ex dm_tb dm_cd 2000000 39 178 [.long p, .int n] hmm_5 = some (some (.int 1), hmm_5) := by
  refine rx (Nat.le_of_ble_eq_true rfl) ?_
  refine qs (f := dm_ild 1 2) rfl rfl ?_
  refine qs (f := dm_if_lt 4 28) rfl (dm_if_lt_f (hP.1)) ?_
  refine qs (f := dm_ild 5 2) rfl rfl ?_
  refine qs (f := dm_push 7 (.int 60)) rfl rfl ?_
  refine qs (f := dm_ic_gt 10 28) rfl (dm_ic_gt_f (hP.2.1)) ?_
  refine qs (f := dm_lld 11 0) rfl rfl ?_
  refine qs (f := dm_push 12 (.long 0)) rfl rfl ?_
  refine qs (f := dm_lc 13) rfl rfl ?_
  refine qs (f := dm_if_lt 16 28) rfl (dm_if_lt_f (hP.2.2.1)) ?_
  refine qs (f := dm_lld 17 0) rfl rfl ?_
  refine qs (f := dm_push 18 (.long 1)) rfl rfl ?_
  refine qs (f := dm_ild 19 2) rfl rfl ?_
  refine qs (f := dm_li 20 (fun x y => x <<< (y.toInt64 &&& 63))) rfl rfl ?_
  refine qs (f := dm_lc 21) rfl rfl ?_
  refine qs (f := dm_if_ge 24 28) rfl (dm_if_ge_f (hP.2.2.2)) ?_
  refine qs (f := dm_push 25 (.int 1)) rfl rfl ?_
  refine qs (f := dm_goto 29) rfl rfl ?_
  exact qr (f := dm_ret .boolean) rfl rfl
set_option maxRecDepth 100000 in
theorem hsy_5 (z2 : Int64)  : dm_ex dm_tb dm_cd 2000000 39 179 [.ref 68, .int 0, .long z2] hmm_5 = some (some (.int 0), hmm_5) := by
  refine rx (Nat.le_of_ble_eq_true rfl) ?_
  refine qs (f := dm_ald 1 0) rfl rfl ?_
  refine qs (f := dm_getf 4 8 4) rfl (dm_getf_ok hff_12) ?_
  refine qs (f := dm_ild 5 1) rfl rfl ?_
  refine qs (f := dm_iald 6) rfl (dm_iald_ok hff_13) ?_
  refine qs (f := dm_ist 8 4) rfl rfl ?_
  refine qs (f := dm_ild 10 4) rfl rfl ?_
  refine qs (f := dm_push 11 (.int 1)) rfl rfl ?_
  refine qs (f := dm_ii 12 (fun x y => x + y)) rfl rfl ?_
  refine qs (f := dm_ald 13 0) rfl rfl ?_
  refine qs (f := dm_getf 16 8 4) rfl (dm_getf_ok hff_12) ?_
  refine qs (f := dm_ild 17 1) rfl rfl ?_
  refine qs (f := dm_push 18 (.int 1)) rfl rfl ?_
  refine qs (f := dm_ii 19 (fun x y => x + y)) rfl rfl ?_
  refine qs (f := dm_iald 20) rfl (dm_iald_ok hff_14) ?_
  refine qs (f := dm_ic_ge 23 43) rfl (dm_ic_ge_t (by decide)) ?_
  refine qs (f := dm_ald 44 0) rfl rfl ?_
  refine qs (f := dm_getf 47 8 1) rfl (dm_getf_ok hff_15) ?_
  refine qs (f := dm_ild 49 4) rfl rfl ?_
  refine qs (f := dm_iald 50) rfl (dm_iald_ok hff_16) ?_
  exact qr (f := dm_ret .int) rfl rfl
set_option maxRecDepth 100000 in
theorem hsy_6 (p : Int64) (n : Int32) (hP : okP p n) : dm_ex dm_tb dm_cd 2000000 40 180 [.ref 68, .int 0, .long p, .int n] (dm_putl hmm_4 116 0 0) = some (some (.int 0), hmm_5) := by
  refine rx (Nat.le_of_ble_eq_true rfl) ?_
  refine qs (f := dm_ald 1 0) rfl rfl ?_
  refine qs (f := dm_push 2 (.int 0)) rfl rfl ?_
  refine qs (f := dm_putf 5 8 40 .int) rfl (dm_putf_same hff_10 rfl) ?_
  refine qs (f := dm_ald 6 0) rfl rfl ?_
  refine qs (f := dm_ild 7 1) rfl rfl ?_
  refine qc (f := dm_inv 10 137 1 8) rfl (dm_inv_ok hff_11 rfl (Nat.le_of_ble_eq_true rfl)) (ev_ok hmc_5) ?_
  refine qs (f := dm_if_eq 13 22) rfl (dm_if_eq_f (by decide)) ?_
  refine qs (f := dm_lld 14 2) rfl rfl ?_
  refine qs (f := dm_ild 16 4) rfl rfl ?_
  refine qc (f := dm_ins 19 178 2) rfl rfl (hsy_4 p n hP) ?_
  refine qs (f := dm_if_ne 22 29) rfl (dm_if_ne_t (by decide)) ?_
  refine qs (f := dm_ald 30 0) rfl rfl ?_
  refine qs (f := dm_ild 31 1) rfl rfl ?_
  refine qs (f := dm_lld 32 2) rfl rfl ?_
  refine qs (f := dm_push 34 (.int 60)) rfl rfl ?_
  refine qs (f := dm_ild 36 4) rfl rfl ?_
  refine qs (f := dm_ii 37 (fun x y => x - y)) rfl rfl ?_
  refine qs (f := dm_li 38 (fun x y => x <<< (y.toInt64 &&& 63))) rfl rfl ?_
  refine qc (f := dm_inv 41 179 2 8) rfl (dm_inv_ok hff_17 rfl (Nat.le_of_ble_eq_true rfl)) (hsy_5 (p <<< ((60 - n).toInt64 &&& 63))) ?_
  exact qr (f := dm_ret .int) rfl rfl
set_option maxRecDepth 100000 in
theorem hsy_7 (s : Int32) (hs : ¬ s = 0) : dm_ex dm_tb dm_cd 2000000 40 17 [.ref 1, .int s] ev_3 = some (some (.int 0), ev_3) := by
  refine rx (Nat.le_of_ble_eq_true rfl) ?_
  refine qs (f := dm_ild 1 1) rfl rfl ?_
  by_cases hp11 : s < (0 : Int32)
  · refine qs (f := dm_if_lt 4 16) rfl (dm_if_lt_t hp11) ?_
    refine qs (f := dm_push 17 (.int 0)) rfl rfl ?_
    exact qr (f := dm_ret .boolean) rfl rfl
  · refine qs (f := dm_if_lt 4 16) rfl (dm_if_lt_f hp11) ?_
    refine qs (f := dm_ild 5 1) rfl rfl ?_
    refine qs (f := dm_ald 6 0) rfl rfl ?_
    refine qs (f := dm_getf 9 2 9) rfl (dm_getf_ok hff_20) ?_
    refine qs (f := dm_ic_ge 12 16) rfl (dm_ic_ge_t (i_01 hp11 hs)) ?_
    refine qs (f := dm_push 17 (.int 0)) rfl rfl ?_
    exact qr (f := dm_ret .boolean) rfl rfl
set_option maxRecDepth 100000 in
theorem hsy_8 (s : Int32) (hs : ¬ s = 0) : dm_ex dm_tb dm_cd 2000000 39 137 [.ref 68, .int s] (ev_3 ++ [tx_x]) = some (some (.int 0), (ev_3 ++ [tx_x])) := by
  refine rx (Nat.le_of_ble_eq_true rfl) ?_
  refine qs (f := dm_ild 1 1) rfl rfl ?_
  by_cases hp11 : s < (0 : Int32)
  · refine qs (f := dm_if_lt 4 16) rfl (dm_if_lt_t hp11) ?_
    refine qs (f := dm_push 17 (.int 0)) rfl rfl ?_
    exact qr (f := dm_ret .boolean) rfl rfl
  · refine qs (f := dm_if_lt 4 16) rfl (dm_if_lt_f hp11) ?_
    refine qs (f := dm_ild 5 1) rfl rfl ?_
    refine qs (f := dm_ald 6 0) rfl rfl ?_
    refine qs (f := dm_getf 9 8 15) rfl (dm_getf_ok hff_22) ?_
    refine qs (f := dm_ic_ge 12 16) rfl (dm_ic_ge_t (i_01 hp11 hs)) ?_
    refine qs (f := dm_push 17 (.int 0)) rfl rfl ?_
    exact qr (f := dm_ret .boolean) rfl rfl
set_option maxRecDepth 100000 in
theorem hsy_9 (s : Int32) (p : Int64) (n : Int32) (hs : ¬ s = 0) : dm_ex dm_tb dm_cd 2000000 40 180 [.ref 68, .int s, .long p, .int n] (ev_3 ++ [tx_x]) = some (some (.int 0), (dm_put (ev_3 ++ [tx_x]) 68 8 40 (.int 1))) := by
  refine rx (Nat.le_of_ble_eq_true rfl) ?_
  refine qs (f := dm_ald 1 0) rfl rfl ?_
  refine qs (f := dm_push 2 (.int 0)) rfl rfl ?_
  refine qs (f := dm_putf 5 8 40 .int) rfl (dm_putf_same hff_21 rfl) ?_
  refine qs (f := dm_ald 6 0) rfl rfl ?_
  refine qs (f := dm_ild 7 1) rfl rfl ?_
  refine qc (f := dm_inv 10 137 1 8) rfl (dm_inv_ok hff_23 rfl (Nat.le_of_ble_eq_true rfl)) (hsy_8 s hs) ?_
  refine qs (f := dm_if_eq 13 22) rfl (dm_if_eq_t (by decide)) ?_
  refine qs (f := dm_ald 23 0) rfl rfl ?_
  refine qs (f := dm_push 24 (.int 1)) rfl rfl ?_
  refine qs (f := dm_putf 27 8 40 .int) rfl (dm_putf_new hff_21 rfl) ?_
  refine qs (f := dm_push 28 (.int 0)) rfl rfl ?_
  exact qr (f := dm_ret .int) rfl rfl
set_option maxRecDepth 100000 in
theorem hsy_10 (p : Int64) (n : Int32) (hP : ¬ okP p n) : dm_ex dm_tb dm_cd 2000000 40 133 [.long p, .int n] hmm_8 = some (some (.int 0), hmm_8) := by
  refine rx (Nat.le_of_ble_eq_true rfl) ?_
  refine qs (f := dm_ild 1 2) rfl rfl ?_
  by_cases hp11 : n < (0 : Int32)
  · refine qs (f := dm_if_lt 4 28) rfl (dm_if_lt_t hp11) ?_
    refine qs (f := dm_push 29 (.int 0)) rfl rfl ?_
    exact qr (f := dm_ret .boolean) rfl rfl
  · refine qs (f := dm_if_lt 4 28) rfl (dm_if_lt_f hp11) ?_
    refine qs (f := dm_ild 5 2) rfl rfl ?_
    refine qs (f := dm_push 7 (.int 60)) rfl rfl ?_
    by_cases hp22 : (60 : Int32) < n
    · refine qs (f := dm_ic_gt 10 28) rfl (dm_ic_gt_t hp22) ?_
      refine qs (f := dm_push 29 (.int 0)) rfl rfl ?_
      exact qr (f := dm_ret .boolean) rfl rfl
    · refine qs (f := dm_ic_gt 10 28) rfl (dm_ic_gt_f hp22) ?_
      refine qs (f := dm_lld 11 0) rfl rfl ?_
      refine qs (f := dm_push 12 (.long 0)) rfl rfl ?_
      refine qs (f := dm_lc 13) rfl rfl ?_
      by_cases hp33 : (lg_cmp p 0) < (0 : Int32)
      · refine qs (f := dm_if_lt 16 28) rfl (dm_if_lt_t hp33) ?_
        refine qs (f := dm_push 29 (.int 0)) rfl rfl ?_
        exact qr (f := dm_ret .boolean) rfl rfl
      · refine qs (f := dm_if_lt 16 28) rfl (dm_if_lt_f hp33) ?_
        refine qs (f := dm_lld 17 0) rfl rfl ?_
        refine qs (f := dm_push 18 (.long 1)) rfl rfl ?_
        refine qs (f := dm_ild 19 2) rfl rfl ?_
        refine qs (f := dm_li 20 (fun x y => x <<< (y.toInt64 &&& 63))) rfl rfl ?_
        refine qs (f := dm_lc 21) rfl rfl ?_
        refine qs (f := dm_if_ge 24 28) rfl (dm_if_ge_t (Classical.byContradiction (fun q => hP ⟨hp11, hp22, hp33, q⟩))) ?_
        refine qs (f := dm_push 29 (.int 0)) rfl rfl ?_
        exact qr (f := dm_ret .boolean) rfl rfl
set_option maxRecDepth 100000 in
theorem hsy_11 (p : Int64) (n : Int32) (hP : ¬ okP p n) : dm_ex dm_tb dm_cd 2000000 39 178 [.long p, .int n] hmm_9 = some (some (.int 0), hmm_9) := by
  refine rx (Nat.le_of_ble_eq_true rfl) ?_
  refine qs (f := dm_ild 1 2) rfl rfl ?_
  by_cases hp11 : n < (0 : Int32)
  · refine qs (f := dm_if_lt 4 28) rfl (dm_if_lt_t hp11) ?_
    refine qs (f := dm_push 29 (.int 0)) rfl rfl ?_
    exact qr (f := dm_ret .boolean) rfl rfl
  · refine qs (f := dm_if_lt 4 28) rfl (dm_if_lt_f hp11) ?_
    refine qs (f := dm_ild 5 2) rfl rfl ?_
    refine qs (f := dm_push 7 (.int 60)) rfl rfl ?_
    by_cases hp22 : (60 : Int32) < n
    · refine qs (f := dm_ic_gt 10 28) rfl (dm_ic_gt_t hp22) ?_
      refine qs (f := dm_push 29 (.int 0)) rfl rfl ?_
      exact qr (f := dm_ret .boolean) rfl rfl
    · refine qs (f := dm_ic_gt 10 28) rfl (dm_ic_gt_f hp22) ?_
      refine qs (f := dm_lld 11 0) rfl rfl ?_
      refine qs (f := dm_push 12 (.long 0)) rfl rfl ?_
      refine qs (f := dm_lc 13) rfl rfl ?_
      by_cases hp33 : (lg_cmp p 0) < (0 : Int32)
      · refine qs (f := dm_if_lt 16 28) rfl (dm_if_lt_t hp33) ?_
        refine qs (f := dm_push 29 (.int 0)) rfl rfl ?_
        exact qr (f := dm_ret .boolean) rfl rfl
      · refine qs (f := dm_if_lt 16 28) rfl (dm_if_lt_f hp33) ?_
        refine qs (f := dm_lld 17 0) rfl rfl ?_
        refine qs (f := dm_push 18 (.long 1)) rfl rfl ?_
        refine qs (f := dm_ild 19 2) rfl rfl ?_
        refine qs (f := dm_li 20 (fun x y => x <<< (y.toInt64 &&& 63))) rfl rfl ?_
        refine qs (f := dm_lc 21) rfl rfl ?_
        refine qs (f := dm_if_ge 24 28) rfl (dm_if_ge_t (Classical.byContradiction (fun q => hP ⟨hp11, hp22, hp33, q⟩))) ?_
        refine qs (f := dm_push 29 (.int 0)) rfl rfl ?_
        exact qr (f := dm_ret .boolean) rfl rfl
set_option maxRecDepth 100000 in
theorem hsy_12 (p : Int64) (n : Int32) (hP : ¬ okP p n) : dm_ex dm_tb dm_cd 2000000 40 180 [.ref 68, .int 0, .long p, .int n] (hmm_8 ++ [tx_x]) = some (some (.int 0), (dm_put hmm_9 68 8 40 (.int 1))) := by
  refine rx (Nat.le_of_ble_eq_true rfl) ?_
  refine qs (f := dm_ald 1 0) rfl rfl ?_
  refine qs (f := dm_push 2 (.int 0)) rfl rfl ?_
  refine qs (f := dm_putf 5 8 40 .int) rfl (dm_putf_same hff_26 rfl) ?_
  refine qs (f := dm_ald 6 0) rfl rfl ?_
  refine qs (f := dm_ild 7 1) rfl rfl ?_
  refine qc (f := dm_inv 10 137 1 8) rfl (dm_inv_ok hff_27 rfl (Nat.le_of_ble_eq_true rfl)) (ev_ok hmc_9) ?_
  refine qs (f := dm_if_eq 13 22) rfl (dm_if_eq_f (by decide)) ?_
  refine qs (f := dm_lld 14 2) rfl rfl ?_
  refine qs (f := dm_ild 16 4) rfl rfl ?_
  refine qc (f := dm_ins 19 178 2) rfl rfl (hsy_11 p n hP) ?_
  refine qs (f := dm_if_ne 22 29) rfl (dm_if_ne_f (by decide)) ?_
  refine qs (f := dm_ald 23 0) rfl rfl ?_
  refine qs (f := dm_push 24 (.int 1)) rfl rfl ?_
  refine qs (f := dm_putf 27 8 40 .int) rfl (dm_putf_new hff_28 rfl) ?_
  refine qs (f := dm_push 28 (.int 0)) rfl rfl ?_
  exact qr (f := dm_ret .int) rfl rfl
set_option maxRecDepth 100000 in
theorem hsy_13 (p : Int64) (n : Int32) (hP : okP p n) : dm_ex dm_tb dm_cd 2000000 39 87 [.ref 2, .int 1, .long p, .int n] hmm_11 = some (some (.int 1), hmm_13) := by
  refine rx (Nat.le_of_ble_eq_true rfl) ?_
  refine qs (f := dm_ild 1 1) rfl rfl ?_
  refine qs (f := dm_ist 3 5) rfl rfl ?_
  refine qs (f := dm_ald 4 0) rfl rfl ?_
  refine qs (f := dm_ild 6 5) rfl rfl ?_
  refine qc (f := dm_inv 9 75 1 6) rfl (dm_inv_ok hff_31 rfl (Nat.le_of_ble_eq_true rfl)) (ev_ok hmc_12) ?_
  refine qs (f := dm_ist 11 6) rfl rfl ?_
  refine qs (f := dm_ild 13 4) rfl rfl ?_
  refine qs (f := dm_push 14 (.int 1)) rfl rfl ?_
  refine qs (f := dm_ii 15 (fun x y => x - y)) rfl rfl ?_
  refine qs (f := dm_ist 17 7) rfl rfl ?_
  refine qs (f := dm_ild 19 7) rfl rfl ?_
  refine qs (f := dm_ild 21 4) rfl rfl ?_
  refine qs (f := dm_push 23 (.int 60)) rfl rfl ?_
  refine qs (f := dm_ii 24 (fun x y => x - y)) rfl rfl ?_
  refine qs (f := dm_ic_lt 27 98) rfl (dm_ic_lt_f (i_n60 hP.1 hP.2.1)) ?_
  refine qs (f := dm_ald 28 0) rfl rfl ?_
  refine qs (f := dm_ild 30 5) rfl rfl ?_
  refine qc (f := dm_inv 33 77 1 6) rfl (dm_inv_ok hff_32 rfl (Nat.le_of_ble_eq_true rfl)) (ev_ok hmc_13) ?_
  refine qs (f := dm_if_ne 36 98) rfl (dm_if_ne_t (by decide)) ?_
  refine qs (f := dm_ild 100 6) rfl rfl ?_
  exact qr (f := dm_ret .int) rfl rfl
set_option maxRecDepth 100000 in
theorem hsy_14 (p : Int64) (n : Int32) (hP : okP p n) : dm_ex dm_tb dm_cd 2000000 40 109 [.ref 0, .int 0, .long p, .int n] ev_3 = some (some (.int 1), hmm_13) := by
  refine rx (Nat.le_of_ble_eq_true rfl) ?_
  refine qs (f := dm_ald 1 0) rfl rfl ?_
  refine qs (f := dm_getf 4 7 0) rfl (dm_getf_ok hff_1) ?_
  refine qs (f := dm_ild 5 1) rfl rfl ?_
  refine qc (f := dm_inv 8 17 1 2) rfl (dm_inv_ok hff_2 rfl (Nat.le_of_ble_eq_true rfl)) (ev_ok hmc_1) ?_
  refine qs (f := dm_if_eq 11 20) rfl (dm_if_eq_f (by decide)) ?_
  refine qs (f := dm_lld 12 2) rfl rfl ?_
  refine qs (f := dm_ild 14 4) rfl rfl ?_
  refine qc (f := dm_ins 17 133 2) rfl rfl (hsy_1 p n hP) ?_
  refine qs (f := dm_if_ne 20 30) rfl (dm_if_ne_t (by decide)) ?_
  refine qs (f := dm_ald 31 0) rfl rfl ?_
  refine qs (f := dm_getf 34 7 0) rfl (dm_getf_ok hff_3) ?_
  refine qs (f := dm_getf 37 2 0) rfl (dm_getf_ok hff_4) ?_
  refine qs (f := dm_ald 38 0) rfl rfl ?_
  refine qs (f := dm_getf 41 7 0) rfl (dm_getf_ok hff_3) ?_
  refine qs (f := dm_ild 42 1) rfl rfl ?_
  refine qc (f := dm_inv 45 18 1 2) rfl (dm_inv_ok hff_5 rfl (Nat.le_of_ble_eq_true rfl)) (ev_ok hmc_11) ?_
  refine qs (f := dm_lld 46 2) rfl rfl ?_
  refine qs (f := dm_ild 48 4) rfl rfl ?_
  refine qc (f := dm_inv 51 87 3 6) rfl (dm_inv_ok hff_31 rfl (Nat.le_of_ble_eq_true rfl)) (hsy_13 p n hP) ?_
  refine qs (f := dm_push 52 (.int 1)) rfl rfl ?_
  refine qs (f := dm_ic_ne 55 59) rfl (dm_ic_ne_f (by decide)) ?_
  refine qs (f := dm_push 56 (.int 1)) rfl rfl ?_
  refine qs (f := dm_goto 60) rfl rfl ?_
  exact qr (f := dm_ret .boolean) rfl rfl
set_option maxRecDepth 100000 in
theorem hsy_15 (p : Int64) (n : Int32) (hP : okP p n) : dm_ex dm_tb dm_cd 2000000 39 178 [.long p, .int n] hmm_14 = some (some (.int 1), hmm_14) := by
  refine rx (Nat.le_of_ble_eq_true rfl) ?_
  refine qs (f := dm_ild 1 2) rfl rfl ?_
  refine qs (f := dm_if_lt 4 28) rfl (dm_if_lt_f (hP.1)) ?_
  refine qs (f := dm_ild 5 2) rfl rfl ?_
  refine qs (f := dm_push 7 (.int 60)) rfl rfl ?_
  refine qs (f := dm_ic_gt 10 28) rfl (dm_ic_gt_f (hP.2.1)) ?_
  refine qs (f := dm_lld 11 0) rfl rfl ?_
  refine qs (f := dm_push 12 (.long 0)) rfl rfl ?_
  refine qs (f := dm_lc 13) rfl rfl ?_
  refine qs (f := dm_if_lt 16 28) rfl (dm_if_lt_f (hP.2.2.1)) ?_
  refine qs (f := dm_lld 17 0) rfl rfl ?_
  refine qs (f := dm_push 18 (.long 1)) rfl rfl ?_
  refine qs (f := dm_ild 19 2) rfl rfl ?_
  refine qs (f := dm_li 20 (fun x y => x <<< (y.toInt64 &&& 63))) rfl rfl ?_
  refine qs (f := dm_lc 21) rfl rfl ?_
  refine qs (f := dm_if_ge 24 28) rfl (dm_if_ge_f (hP.2.2.2)) ?_
  refine qs (f := dm_push 25 (.int 1)) rfl rfl ?_
  refine qs (f := dm_goto 29) rfl rfl ?_
  exact qr (f := dm_ret .boolean) rfl rfl
set_option maxRecDepth 100000 in
theorem hsy_16 (p : Int64) (n : Int32) (hP : okP p n) : dm_ex dm_tb dm_cd 2000000 40 181 [.ref 68, .int 0, .long p, .int n] (dm_putl hmm_13 116 0 1) = some (some (.int 1), hmm_14) := by
  refine rx (Nat.le_of_ble_eq_true rfl) ?_
  refine qs (f := dm_ald 1 0) rfl rfl ?_
  refine qs (f := dm_push 2 (.int 0)) rfl rfl ?_
  refine qs (f := dm_putf 5 8 40 .int) rfl (dm_putf_same hff_34 rfl) ?_
  refine qs (f := dm_ald 6 0) rfl rfl ?_
  refine qs (f := dm_ild 7 1) rfl rfl ?_
  refine qc (f := dm_inv 10 137 1 8) rfl (dm_inv_ok hff_35 rfl (Nat.le_of_ble_eq_true rfl)) (ev_ok hmc_14) ?_
  refine qs (f := dm_if_eq 13 22) rfl (dm_if_eq_f (by decide)) ?_
  refine qs (f := dm_lld 14 2) rfl rfl ?_
  refine qs (f := dm_ild 16 4) rfl rfl ?_
  refine qc (f := dm_ins 19 178 2) rfl rfl (hsy_15 p n hP) ?_
  refine qs (f := dm_if_ne 22 29) rfl (dm_if_ne_t (by decide)) ?_
  refine qs (f := dm_lld 30 2) rfl rfl ?_
  refine qs (f := dm_push 32 (.int 60)) rfl rfl ?_
  refine qs (f := dm_ild 34 4) rfl rfl ?_
  refine qs (f := dm_ii 35 (fun x y => x - y)) rfl rfl ?_
  refine qs (f := dm_li 36 (fun x y => x <<< (y.toInt64 &&& 63))) rfl rfl ?_
  refine qs (f := dm_lst 38 5) rfl rfl ?_
  refine qs (f := dm_push 39 (.int 0)) rfl rfl ?_
  refine qs (f := dm_ist 41 7) rfl rfl ?_
  refine qs (f := dm_ald 42 0) rfl rfl ?_
  refine qs (f := dm_getf 45 8 5) rfl (dm_getf_ok hff_36) ?_
  refine qs (f := dm_ild 46 1) rfl rfl ?_
  refine qs (f := dm_iald 47) rfl (dm_iald_ok hff_37) ?_
  refine qs (f := dm_ist 49 8) rfl rfl ?_
  refine qs (f := dm_ild 51 8) rfl rfl ?_
  refine qs (f := dm_ald 52 0) rfl rfl ?_
  refine qs (f := dm_getf 55 8 5) rfl (dm_getf_ok hff_36) ?_
  refine qs (f := dm_ild 56 1) rfl rfl ?_
  refine qs (f := dm_push 57 (.int 1)) rfl rfl ?_
  refine qs (f := dm_ii 58 (fun x y => x + y)) rfl rfl ?_
  refine qs (f := dm_iald 59) rfl (dm_iald_ok hff_38) ?_
  refine qs (f := dm_ic_ge 62 106) rfl (dm_ic_ge_f (by decide)) ?_
  refine qs (f := dm_ild 64 7) rfl rfl ?_
  refine qs (f := dm_if_ne 67 93) rfl (dm_if_ne_f (by decide)) ?_
  refine qs (f := dm_ald 68 0) rfl rfl ?_
  refine qs (f := dm_getf 71 8 2) rfl (dm_getf_ok hff_39) ?_
  refine qs (f := dm_ild 73 8) rfl rfl ?_
  refine qs (f := dm_lald 74) rfl (dm_lald_ok hff_40) ?_
  refine qs (f := dm_lld 76 5) rfl rfl ?_
  refine qs (f := dm_lc 77) rfl rfl ?_
  refine qs (f := dm_if_gt 80 97) rfl (dm_if_gt_f (i_sh0 hP)) ?_
  refine qs (f := dm_lld 82 5) rfl rfl ?_
  refine qs (f := dm_ald 83 0) rfl rfl ?_
  refine qs (f := dm_getf 86 8 3) rfl (dm_getf_ok hff_41) ?_
  refine qs (f := dm_ild 88 8) rfl rfl ?_
  refine qs (f := dm_lald 89) rfl (dm_lald_ok hff_42) ?_
  refine qs (f := dm_lc 90) rfl rfl ?_
  refine qs (f := dm_if_ge 93 97) rfl (dm_if_ge_f (i_sh1 hP)) ?_
  refine qs (f := dm_push 94 (.int 1)) rfl rfl ?_
  refine qs (f := dm_goto 98) rfl rfl ?_
  refine qs (f := dm_ist 100 7) rfl rfl ?_
  refine qs (f := dm_iinc 103 8 1) rfl rfl ?_
  refine qs (f := dm_goto 49) rfl rfl ?_
  refine qs (f := dm_ild 51 8) rfl rfl ?_
  refine qs (f := dm_ald 52 0) rfl rfl ?_
  refine qs (f := dm_getf 55 8 5) rfl (dm_getf_ok hff_36) ?_
  refine qs (f := dm_ild 56 1) rfl rfl ?_
  refine qs (f := dm_push 57 (.int 1)) rfl rfl ?_
  refine qs (f := dm_ii 58 (fun x y => x + y)) rfl rfl ?_
  refine qs (f := dm_iald 59) rfl (dm_iald_ok hff_38) ?_
  refine qs (f := dm_ic_ge 62 106) rfl (dm_ic_ge_t (by decide)) ?_
  refine qs (f := dm_ild 108 7) rfl rfl ?_
  exact qr (f := dm_ret .boolean) rfl rfl
set_option maxRecDepth 100000 in
theorem hsy_17 (s : Int32) (p : Int64) (n : Int32) (hs : ¬ s = 0) : dm_ex dm_tb dm_cd 2000000 40 181 [.ref 68, .int s, .long p, .int n] (ev_3 ++ [tx_x]) = some (some (.int 0), (dm_put (ev_3 ++ [tx_x]) 68 8 40 (.int 1))) := by
  refine rx (Nat.le_of_ble_eq_true rfl) ?_
  refine qs (f := dm_ald 1 0) rfl rfl ?_
  refine qs (f := dm_push 2 (.int 0)) rfl rfl ?_
  refine qs (f := dm_putf 5 8 40 .int) rfl (dm_putf_same hff_21 rfl) ?_
  refine qs (f := dm_ald 6 0) rfl rfl ?_
  refine qs (f := dm_ild 7 1) rfl rfl ?_
  refine qc (f := dm_inv 10 137 1 8) rfl (dm_inv_ok hff_23 rfl (Nat.le_of_ble_eq_true rfl)) (hsy_8 s hs) ?_
  refine qs (f := dm_if_eq 13 22) rfl (dm_if_eq_t (by decide)) ?_
  refine qs (f := dm_ald 23 0) rfl rfl ?_
  refine qs (f := dm_push 24 (.int 1)) rfl rfl ?_
  refine qs (f := dm_putf 27 8 40 .int) rfl (dm_putf_new hff_21 rfl) ?_
  refine qs (f := dm_push 28 (.int 0)) rfl rfl ?_
  exact qr (f := dm_ret .boolean) rfl rfl
set_option maxRecDepth 100000 in
theorem hsy_18 (p : Int64) (n : Int32) (hP : ¬ okP p n) : dm_ex dm_tb dm_cd 2000000 40 181 [.ref 68, .int 0, .long p, .int n] (hmm_8 ++ [tx_x]) = some (some (.int 0), (dm_put hmm_9 68 8 40 (.int 1))) := by
  refine rx (Nat.le_of_ble_eq_true rfl) ?_
  refine qs (f := dm_ald 1 0) rfl rfl ?_
  refine qs (f := dm_push 2 (.int 0)) rfl rfl ?_
  refine qs (f := dm_putf 5 8 40 .int) rfl (dm_putf_same hff_26 rfl) ?_
  refine qs (f := dm_ald 6 0) rfl rfl ?_
  refine qs (f := dm_ild 7 1) rfl rfl ?_
  refine qc (f := dm_inv 10 137 1 8) rfl (dm_inv_ok hff_27 rfl (Nat.le_of_ble_eq_true rfl)) (ev_ok hmc_9) ?_
  refine qs (f := dm_if_eq 13 22) rfl (dm_if_eq_f (by decide)) ?_
  refine qs (f := dm_lld 14 2) rfl rfl ?_
  refine qs (f := dm_ild 16 4) rfl rfl ?_
  refine qc (f := dm_ins 19 178 2) rfl rfl (hsy_11 p n hP) ?_
  refine qs (f := dm_if_ne 22 29) rfl (dm_if_ne_f (by decide)) ?_
  refine qs (f := dm_ald 23 0) rfl rfl ?_
  refine qs (f := dm_push 24 (.int 1)) rfl rfl ?_
  refine qs (f := dm_putf 27 8 40 .int) rfl (dm_putf_new hff_28 rfl) ?_
  refine qs (f := dm_push 28 (.int 0)) rfl rfl ?_
  exact qr (f := dm_ret .boolean) rfl rfl
set_option maxRecDepth 100000 in
theorem ln_13 (p : Int64) (n : Int32) (hP : okP p n) : dm_run ev_E (tl_cd false) 2000000 (0, lv_args 0 [.ref 0, .int 0, .long p, .int n, .ref 116], []) ev_3 = some (some (.int 0), (dm_putl hmm_4 116 0 0)) := by
  refine qs (f := dm_ald 2 5) rfl (rfl) ?_
  refine qs (f := dm_push 3 (.int 0)) rfl (rfl) ?_
  refine qs (f := dm_ald 4 0) rfl (rfl) ?_
  refine qs (f := dm_ild 5 1) rfl (rfl) ?_
  refine qs (f := dm_lld 6 2) rfl (rfl) ?_
  refine qs (f := dm_ild 8 4) rfl (rfl) ?_
  refine qc (f := dm_inv 11 108 3 7) rfl (dm_inv_ok hff_8 rfl (Nat.le_of_ble_eq_true rfl)) (hsy_3 p n hP) ?_
  refine qs (f := dm_i1 12 (fun x => .long x.toInt64)) rfl (rfl) ?_
  refine qs (f := dm_last 13) rfl (dm_last_ok hff_9) ?_
  refine qs (f := dm_goto 20) rfl (rfl) ?_
  refine qs (f := dm_push 21 (.int 0)) rfl (rfl) ?_
  exact qr (f := dm_ret .int) rfl rfl
set_option maxRecDepth 100000 in
theorem lt_13_0 (s : Int32) (p : Int64) (n : Int32) (hs : ¬ s = 0) : dm_run ev_E (tx_mk (dm_cd (tl_mi false))) 2000000 (0, lv_args 0 [.ref 0, .int s, .long p, .int n], []) ev_3 = some (some (.long 77), ev_3) := by
  refine qs (f := tx_nr (dm_ald 1 0)) rfl (tx_nr_s rfl) ?_
  refine qs (f := tx_nr (dm_getf 4 7 0)) rfl (tx_nr_s (dm_getf_ok hff_1)) ?_
  refine qs (f := tx_nr (dm_ild 5 1)) rfl (tx_nr_s rfl) ?_
  refine qc (f := tx_nr (dm_inv 8 17 1 2)) rfl (tx_nr_c (dm_inv_ok hff_2 rfl (Nat.le_of_ble_eq_true rfl))) (hsy_7 s hs) ?_
  refine qs (f := tx_nr (dm_if_eq 11 20)) rfl (tx_nr_s (dm_if_eq_t (by decide))) ?_
  exact qr (f := tx_mark) rfl rfl
set_option maxRecDepth 100000 in
theorem lt_13_1 (p : Int64) (n : Int32) (hP : ¬ okP p n) : dm_run ev_E (tx_mk (dm_cd (tl_mi false))) 2000000 (0, lv_args 0 [.ref 0, .int 0, .long p, .int n], []) ev_3 = some (some (.long 77), hmm_8) := by
  refine qs (f := tx_nr (dm_ald 1 0)) rfl (tx_nr_s rfl) ?_
  refine qs (f := tx_nr (dm_getf 4 7 0)) rfl (tx_nr_s (dm_getf_ok hff_1)) ?_
  refine qs (f := tx_nr (dm_ild 5 1)) rfl (tx_nr_s rfl) ?_
  refine qc (f := tx_nr (dm_inv 8 17 1 2)) rfl (tx_nr_c (dm_inv_ok hff_2 rfl (Nat.le_of_ble_eq_true rfl))) (ev_ok hmc_8) ?_
  refine qs (f := tx_nr (dm_if_eq 11 20)) rfl (tx_nr_s (dm_if_eq_f (by decide))) ?_
  refine qs (f := tx_nr (dm_lld 12 2)) rfl (tx_nr_s rfl) ?_
  refine qs (f := tx_nr (dm_ild 14 4)) rfl (tx_nr_s rfl) ?_
  refine qc (f := tx_nr (dm_ins 17 133 2)) rfl (tx_nr_c rfl) (hsy_10 p n hP) ?_
  refine qs (f := tx_nr (dm_if_ne 20 30)) rfl (tx_nr_s (dm_if_ne_f (by decide))) ?_
  exact qr (f := tx_mark) rfl rfl
set_option maxRecDepth 100000 in
theorem ln_14 (p : Int64) (n : Int32) (hP : okP p n) : dm_run ev_E (tl_cd true) 2000000 (0, lv_args 0 [.ref 0, .int 0, .long p, .int n, .ref 116], []) ev_3 = some (some (.int 0), (dm_putl hmm_13 116 0 1)) := by
  refine qs (f := dm_ald 2 5) rfl (rfl) ?_
  refine qs (f := dm_push 3 (.int 0)) rfl (rfl) ?_
  refine qs (f := dm_ald 4 0) rfl (rfl) ?_
  refine qs (f := dm_ild 5 1) rfl (rfl) ?_
  refine qs (f := dm_lld 6 2) rfl (rfl) ?_
  refine qs (f := dm_ild 8 4) rfl (rfl) ?_
  refine qc (f := dm_inv 11 109 3 7) rfl (dm_inv_ok hff_8 rfl (Nat.le_of_ble_eq_true rfl)) (hsy_14 p n hP) ?_
  refine qs (f := dm_if_eq 14 18) rfl (dm_if_eq_f (by decide)) ?_
  refine qs (f := dm_push 15 (.long 1)) rfl (rfl) ?_
  refine qs (f := dm_goto 19) rfl (rfl) ?_
  refine qs (f := dm_last 20) rfl (dm_last_ok hff_33) ?_
  refine qs (f := dm_goto 27) rfl (rfl) ?_
  refine qs (f := dm_push 28 (.int 0)) rfl (rfl) ?_
  exact qr (f := dm_ret .int) rfl rfl
set_option maxRecDepth 100000 in
theorem lt_14_0 (s : Int32) (p : Int64) (n : Int32) (hs : ¬ s = 0) : dm_run ev_E (tx_mk (dm_cd (tl_mi true))) 2000000 (0, lv_args 0 [.ref 0, .int s, .long p, .int n], []) ev_3 = some (some (.long 77), ev_3) := by
  refine qs (f := tx_nr (dm_ald 1 0)) rfl (tx_nr_s rfl) ?_
  refine qs (f := tx_nr (dm_getf 4 7 0)) rfl (tx_nr_s (dm_getf_ok hff_1)) ?_
  refine qs (f := tx_nr (dm_ild 5 1)) rfl (tx_nr_s rfl) ?_
  refine qc (f := tx_nr (dm_inv 8 17 1 2)) rfl (tx_nr_c (dm_inv_ok hff_2 rfl (Nat.le_of_ble_eq_true rfl))) (hsy_7 s hs) ?_
  refine qs (f := tx_nr (dm_if_eq 11 20)) rfl (tx_nr_s (dm_if_eq_t (by decide))) ?_
  exact qr (f := tx_mark) rfl rfl
set_option maxRecDepth 100000 in
theorem lt_14_1 (p : Int64) (n : Int32) (hP : ¬ okP p n) : dm_run ev_E (tx_mk (dm_cd (tl_mi true))) 2000000 (0, lv_args 0 [.ref 0, .int 0, .long p, .int n], []) ev_3 = some (some (.long 77), hmm_8) := by
  refine qs (f := tx_nr (dm_ald 1 0)) rfl (tx_nr_s rfl) ?_
  refine qs (f := tx_nr (dm_getf 4 7 0)) rfl (tx_nr_s (dm_getf_ok hff_1)) ?_
  refine qs (f := tx_nr (dm_ild 5 1)) rfl (tx_nr_s rfl) ?_
  refine qc (f := tx_nr (dm_inv 8 17 1 2)) rfl (tx_nr_c (dm_inv_ok hff_2 rfl (Nat.le_of_ble_eq_true rfl))) (ev_ok hmc_8) ?_
  refine qs (f := tx_nr (dm_if_eq 11 20)) rfl (tx_nr_s (dm_if_eq_f (by decide))) ?_
  refine qs (f := tx_nr (dm_lld 12 2)) rfl (tx_nr_s rfl) ?_
  refine qs (f := tx_nr (dm_ild 14 4)) rfl (tx_nr_s rfl) ?_
  refine qc (f := tx_nr (dm_ins 17 133 2)) rfl (tx_nr_c rfl) (hsy_10 p n hP) ?_
  refine qs (f := tx_nr (dm_if_ne 20 30)) rfl (tx_nr_s (dm_if_ne_f (by decide))) ?_
  exact qr (f := tx_mark) rfl rfl
set_option maxRecDepth 100000 in
theorem lp_0 (xs : Nat → Int32) (h : xs 0 &&& 31 = 13) (zs : xs 1 = 0) (hP : okP (((xs 2).toInt64 <<< ((32 : Int32).toInt64 &&& 63)) ||| ((xs 3).toInt64 &&& (4294967295 : Int64))) (xs 4)) : ∃ M, dm_run ev_E (cdL 9 xs (tl_sem false false 582) (tl_sem false true 694)) 1999976 (40, lvA, [.int (xs 0 &&& 31)]) ev_3 = some (some (.int 1), M) ∧ dm_bd M = true := by
  refine ⟨hmm_6, ?_, hff_19⟩
  refine qs (f := dm_tsw 0 28 1263 [172, 183, 208, 233, 270, 295, 320, 357, 382, 419, 432, 469, 506, 543, 655, 774, 811, 860, 874, 887, 1042, 1067, 1092, 1161, 1186, 1199, 1212, 1225, 1238]) rfl (dm_tsw_at h rfl) ?_
  refine qs (f := dm_ald 544 1) rfl (rfl) ?_
  refine qs (f := dm_ald 545 0) rfl (rfl) ?_
  refine qs (f := dm_ild 547 4) rfl (rfl) ?_
  refine qs (f := dm_push 548 (.int 1)) rfl (rfl) ?_
  refine qs (f := dm_ii 549 (fun x y => x + y)) rfl (rfl) ?_
  refine qs (f := dm_sld 550 9 xs) rfl (dm_sld_ok (j := 1) (by decide) (by decide)) ?_
  refine qs (f := dm_ald 551 0) rfl (rfl) ?_
  refine qs (f := dm_ild 553 4) rfl (rfl) ?_
  refine qs (f := dm_push 554 (.int 2)) rfl (rfl) ?_
  refine qs (f := dm_ii 555 (fun x y => x + y)) rfl (rfl) ?_
  refine qs (f := dm_sld 556 9 xs) rfl (dm_sld_ok (j := 2) (by decide) (by decide)) ?_
  refine qs (f := dm_i1 557 (fun x => .long x.toInt64)) rfl (rfl) ?_
  refine qs (f := dm_push 559 (.int 32)) rfl (rfl) ?_
  refine qs (f := dm_li 560 (fun x y => x <<< (y.toInt64 &&& 63))) rfl (rfl) ?_
  refine qs (f := dm_ald 561 0) rfl (rfl) ?_
  refine qs (f := dm_ild 563 4) rfl (rfl) ?_
  refine qs (f := dm_push 564 (.int 3)) rfl (rfl) ?_
  refine qs (f := dm_ii 565 (fun x y => x + y)) rfl (rfl) ?_
  refine qs (f := dm_sld 566 9 xs) rfl (dm_sld_ok (j := 3) (by decide) (by decide)) ?_
  refine qs (f := dm_i1 567 (fun x => .long x.toInt64)) rfl (rfl) ?_
  refine qs (f := dm_push 570 (.long 4294967295)) rfl (rfl) ?_
  refine qs (f := dm_ll 571 (fun x y => x &&& y)) rfl (rfl) ?_
  refine qs (f := dm_ll 572 (fun x y => x ||| y)) rfl (rfl) ?_
  refine qs (f := dm_ald 573 0) rfl (rfl) ?_
  refine qs (f := dm_ild 575 4) rfl (rfl) ?_
  refine qs (f := dm_push 576 (.int 4)) rfl (rfl) ?_
  refine qs (f := dm_ii 577 (fun x y => x + y)) rfl (rfl) ?_
  refine qs (f := dm_sld 578 9 xs) rfl (dm_sld_ok (j := 4) (by decide) (by decide)) ?_
  refine qs (f := dm_ald 579 3) rfl (rfl) ?_
  refine qs (f := tl_sem false false 582) rfl (tl_sN_ok (Nat.le_of_ble_eq_true rfl) (by rw [zs]; exact ln_13 _ _ hP)) ?_
  refine qs (f := dm_ist 584 5) rfl (rfl) ?_
  refine qs (f := dm_ald 585 2) rfl (rfl) ?_
  refine qs (f := dm_ald 586 0) rfl (rfl) ?_
  refine qs (f := dm_ild 588 4) rfl (rfl) ?_
  refine qs (f := dm_push 589 (.int 1)) rfl (rfl) ?_
  refine qs (f := dm_ii 590 (fun x y => x + y)) rfl (rfl) ?_
  refine qs (f := dm_sld 591 9 xs) rfl (dm_sld_ok (j := 1) (by decide) (by decide)) ?_
  refine qs (f := dm_ald 592 0) rfl (rfl) ?_
  refine qs (f := dm_ild 594 4) rfl (rfl) ?_
  refine qs (f := dm_push 595 (.int 2)) rfl (rfl) ?_
  refine qs (f := dm_ii 596 (fun x y => x + y)) rfl (rfl) ?_
  refine qs (f := dm_sld 597 9 xs) rfl (dm_sld_ok (j := 2) (by decide) (by decide)) ?_
  refine qs (f := dm_i1 598 (fun x => .long x.toInt64)) rfl (rfl) ?_
  refine qs (f := dm_push 600 (.int 32)) rfl (rfl) ?_
  refine qs (f := dm_li 601 (fun x y => x <<< (y.toInt64 &&& 63))) rfl (rfl) ?_
  refine qs (f := dm_ald 602 0) rfl (rfl) ?_
  refine qs (f := dm_ild 604 4) rfl (rfl) ?_
  refine qs (f := dm_push 605 (.int 3)) rfl (rfl) ?_
  refine qs (f := dm_ii 606 (fun x y => x + y)) rfl (rfl) ?_
  refine qs (f := dm_sld 607 9 xs) rfl (dm_sld_ok (j := 3) (by decide) (by decide)) ?_
  refine qs (f := dm_i1 608 (fun x => .long x.toInt64)) rfl (rfl) ?_
  refine qs (f := dm_push 611 (.long 4294967295)) rfl (rfl) ?_
  refine qs (f := dm_ll 612 (fun x y => x &&& y)) rfl (rfl) ?_
  refine qs (f := dm_ll 613 (fun x y => x ||| y)) rfl (rfl) ?_
  refine qs (f := dm_ald 614 0) rfl (rfl) ?_
  refine qs (f := dm_ild 616 4) rfl (rfl) ?_
  refine qs (f := dm_push 617 (.int 4)) rfl (rfl) ?_
  refine qs (f := dm_ii 618 (fun x y => x + y)) rfl (rfl) ?_
  refine qs (f := dm_sld 619 9 xs) rfl (dm_sld_ok (j := 4) (by decide) (by decide)) ?_
  refine qc (f := dm_inv 622 180 3 8) rfl (dm_inv_ok hff_11 rfl (Nat.le_of_ble_eq_true rfl)) ((by rw [zs]; exact (hsy_6 (((xs 2).toInt64 <<< ((32 : Int32).toInt64 &&& 63)) ||| ((xs 3).toInt64 &&& (4294967295 : Int64))) (xs 4) hP) : ev_E 180 [.ref 68, .int (xs 1), .long (((xs 2).toInt64 <<< ((32 : Int32).toInt64 &&& 63)) ||| ((xs 3).toInt64 &&& (4294967295 : Int64))), .int (xs 4)] (dm_putl hmm_4 116 0 0) = some (some (.int 0), hmm_5))) ?_
  refine qs (f := dm_ist 624 6) rfl (rfl) ?_
  refine qs (f := dm_ald 625 2) rfl (rfl) ?_
  refine qc (f := dm_inv 628 135 0 8) rfl (dm_inv_ok hff_17 rfl (Nat.le_of_ble_eq_true rfl)) (ev_ok hmc_6) ?_
  refine qs (f := dm_ild 630 5) rfl (rfl) ?_
  refine qs (f := dm_ic_eq 633 635) rfl (dm_ic_eq_t (by first | rfl | decide)) ?_
  refine qs (f := dm_ild 637 5) rfl (rfl) ?_
  refine qs (f := dm_if_ne 640 652) rfl (dm_if_ne_f (by first | rfl | decide)) ?_
  refine qs (f := dm_ald 641 3) rfl (rfl) ?_
  refine qs (f := dm_push 642 (.int 0)) rfl (rfl) ?_
  refine qs (f := dm_lald 643) rfl (dm_lald_ok hff_18) ?_
  refine qs (f := dm_ild 645 6) rfl (rfl) ?_
  refine qs (f := dm_i1 646 (fun x => .long x.toInt64)) rfl (rfl) ?_
  refine qs (f := dm_lc 647) rfl (rfl) ?_
  refine qs (f := dm_if_eq 650 652) rfl (dm_if_eq_t (by first | rfl | decide)) ?_
  refine qs (f := dm_goto 1263) rfl (rfl) ?_
  refine qs (f := dm_iinc 1266 4 9) rfl (rfl) ?_
  refine qs (f := dm_goto 23) rfl (rfl) ?_
  refine qs (f := dm_ild 25 4) rfl (rfl) ?_
  refine qs (f := dm_ald 26 0) rfl (rfl) ?_
  refine qs (f := dm_sln 27 9) rfl (rfl) ?_
  refine qs (f := dm_push 29 (.int 9)) rfl (rfl) ?_
  refine qs (f := dm_ii 30 (fun x y => x - y)) rfl (rfl) ?_
  refine qs (f := dm_ic_gt 33 1269) rfl (dm_ic_gt_t (by decide)) ?_
  refine qs (f := dm_push 1270 (.int 1)) rfl (rfl) ?_
  exact qr (f := dm_ret .boolean) rfl rfl
set_option maxRecDepth 100000 in
theorem lp_1 (xs : Nat → Int32) (h : xs 0 &&& 31 = 13) (hs : ¬ xs 1 = 0) : ∃ M, dm_run ev_E (cdL 9 xs (tl_sem true false 582) (tl_sem true true 694)) 1999976 (40, lvA, [.int (xs 0 &&& 31)]) ev_3 = some (some (.int 1), M) ∧ dm_bd M = true := by
  refine ⟨hmm_7, ?_, hff_25⟩
  refine qs (f := dm_tsw 0 28 1263 [172, 183, 208, 233, 270, 295, 320, 357, 382, 419, 432, 469, 506, 543, 655, 774, 811, 860, 874, 887, 1042, 1067, 1092, 1161, 1186, 1199, 1212, 1225, 1238]) rfl (dm_tsw_at h rfl) ?_
  refine qs (f := dm_ald 544 1) rfl (rfl) ?_
  refine qs (f := dm_ald 545 0) rfl (rfl) ?_
  refine qs (f := dm_ild 547 4) rfl (rfl) ?_
  refine qs (f := dm_push 548 (.int 1)) rfl (rfl) ?_
  refine qs (f := dm_ii 549 (fun x y => x + y)) rfl (rfl) ?_
  refine qs (f := dm_sld 550 9 xs) rfl (dm_sld_ok (j := 1) (by decide) (by decide)) ?_
  refine qs (f := dm_ald 551 0) rfl (rfl) ?_
  refine qs (f := dm_ild 553 4) rfl (rfl) ?_
  refine qs (f := dm_push 554 (.int 2)) rfl (rfl) ?_
  refine qs (f := dm_ii 555 (fun x y => x + y)) rfl (rfl) ?_
  refine qs (f := dm_sld 556 9 xs) rfl (dm_sld_ok (j := 2) (by decide) (by decide)) ?_
  refine qs (f := dm_i1 557 (fun x => .long x.toInt64)) rfl (rfl) ?_
  refine qs (f := dm_push 559 (.int 32)) rfl (rfl) ?_
  refine qs (f := dm_li 560 (fun x y => x <<< (y.toInt64 &&& 63))) rfl (rfl) ?_
  refine qs (f := dm_ald 561 0) rfl (rfl) ?_
  refine qs (f := dm_ild 563 4) rfl (rfl) ?_
  refine qs (f := dm_push 564 (.int 3)) rfl (rfl) ?_
  refine qs (f := dm_ii 565 (fun x y => x + y)) rfl (rfl) ?_
  refine qs (f := dm_sld 566 9 xs) rfl (dm_sld_ok (j := 3) (by decide) (by decide)) ?_
  refine qs (f := dm_i1 567 (fun x => .long x.toInt64)) rfl (rfl) ?_
  refine qs (f := dm_push 570 (.long 4294967295)) rfl (rfl) ?_
  refine qs (f := dm_ll 571 (fun x y => x &&& y)) rfl (rfl) ?_
  refine qs (f := dm_ll 572 (fun x y => x ||| y)) rfl (rfl) ?_
  refine qs (f := dm_ald 573 0) rfl (rfl) ?_
  refine qs (f := dm_ild 575 4) rfl (rfl) ?_
  refine qs (f := dm_push 576 (.int 4)) rfl (rfl) ?_
  refine qs (f := dm_ii 577 (fun x y => x + y)) rfl (rfl) ?_
  refine qs (f := dm_sld 578 9 xs) rfl (dm_sld_ok (j := 4) (by decide) (by decide)) ?_
  refine qs (f := dm_ald 579 3) rfl (rfl) ?_
  refine qs (f := tl_sem true false 582) rfl (tl_sT_ok (Nat.le_of_ble_eq_true rfl) hff_8 (lt_13_0 (xs 1) _ _ hs)) ?_
  refine qs (f := dm_ist 584 5) rfl (rfl) ?_
  refine qs (f := dm_ald 585 2) rfl (rfl) ?_
  refine qs (f := dm_ald 586 0) rfl (rfl) ?_
  refine qs (f := dm_ild 588 4) rfl (rfl) ?_
  refine qs (f := dm_push 589 (.int 1)) rfl (rfl) ?_
  refine qs (f := dm_ii 590 (fun x y => x + y)) rfl (rfl) ?_
  refine qs (f := dm_sld 591 9 xs) rfl (dm_sld_ok (j := 1) (by decide) (by decide)) ?_
  refine qs (f := dm_ald 592 0) rfl (rfl) ?_
  refine qs (f := dm_ild 594 4) rfl (rfl) ?_
  refine qs (f := dm_push 595 (.int 2)) rfl (rfl) ?_
  refine qs (f := dm_ii 596 (fun x y => x + y)) rfl (rfl) ?_
  refine qs (f := dm_sld 597 9 xs) rfl (dm_sld_ok (j := 2) (by decide) (by decide)) ?_
  refine qs (f := dm_i1 598 (fun x => .long x.toInt64)) rfl (rfl) ?_
  refine qs (f := dm_push 600 (.int 32)) rfl (rfl) ?_
  refine qs (f := dm_li 601 (fun x y => x <<< (y.toInt64 &&& 63))) rfl (rfl) ?_
  refine qs (f := dm_ald 602 0) rfl (rfl) ?_
  refine qs (f := dm_ild 604 4) rfl (rfl) ?_
  refine qs (f := dm_push 605 (.int 3)) rfl (rfl) ?_
  refine qs (f := dm_ii 606 (fun x y => x + y)) rfl (rfl) ?_
  refine qs (f := dm_sld 607 9 xs) rfl (dm_sld_ok (j := 3) (by decide) (by decide)) ?_
  refine qs (f := dm_i1 608 (fun x => .long x.toInt64)) rfl (rfl) ?_
  refine qs (f := dm_push 611 (.long 4294967295)) rfl (rfl) ?_
  refine qs (f := dm_ll 612 (fun x y => x &&& y)) rfl (rfl) ?_
  refine qs (f := dm_ll 613 (fun x y => x ||| y)) rfl (rfl) ?_
  refine qs (f := dm_ald 614 0) rfl (rfl) ?_
  refine qs (f := dm_ild 616 4) rfl (rfl) ?_
  refine qs (f := dm_push 617 (.int 4)) rfl (rfl) ?_
  refine qs (f := dm_ii 618 (fun x y => x + y)) rfl (rfl) ?_
  refine qs (f := dm_sld 619 9 xs) rfl (dm_sld_ok (j := 4) (by decide) (by decide)) ?_
  refine qc (f := dm_inv 622 180 3 8) rfl (dm_inv_ok hff_23 rfl (Nat.le_of_ble_eq_true rfl)) (((hsy_9 (xs 1) (((xs 2).toInt64 <<< ((32 : Int32).toInt64 &&& 63)) ||| ((xs 3).toInt64 &&& (4294967295 : Int64))) (xs 4) hs) : ev_E 180 [.ref 68, .int (xs 1), .long (((xs 2).toInt64 <<< ((32 : Int32).toInt64 &&& 63)) ||| ((xs 3).toInt64 &&& (4294967295 : Int64))), .int (xs 4)] (ev_3 ++ [tx_x]) = some (some (.int 0), (dm_put (ev_3 ++ [tx_x]) 68 8 40 (.int 1))))) ?_
  refine qs (f := dm_ist 624 6) rfl (rfl) ?_
  refine qs (f := dm_ald 625 2) rfl (rfl) ?_
  refine qc (f := dm_inv 628 135 0 8) rfl (dm_inv_ok hff_24 rfl (Nat.le_of_ble_eq_true rfl)) (ev_ok hmc_7) ?_
  refine qs (f := dm_ild 630 5) rfl (rfl) ?_
  refine qs (f := dm_ic_eq 633 635) rfl (dm_ic_eq_t (by first | rfl | decide)) ?_
  refine qs (f := dm_ild 637 5) rfl (rfl) ?_
  refine qs (f := dm_if_ne 640 652) rfl (dm_if_ne_t (by first | rfl | decide)) ?_
  refine qs (f := dm_goto 1263) rfl (rfl) ?_
  refine qs (f := dm_iinc 1266 4 9) rfl (rfl) ?_
  refine qs (f := dm_goto 23) rfl (rfl) ?_
  refine qs (f := dm_ild 25 4) rfl (rfl) ?_
  refine qs (f := dm_ald 26 0) rfl (rfl) ?_
  refine qs (f := dm_sln 27 9) rfl (rfl) ?_
  refine qs (f := dm_push 29 (.int 9)) rfl (rfl) ?_
  refine qs (f := dm_ii 30 (fun x y => x - y)) rfl (rfl) ?_
  refine qs (f := dm_ic_gt 33 1269) rfl (dm_ic_gt_t (by decide)) ?_
  refine qs (f := dm_push 1270 (.int 1)) rfl (rfl) ?_
  exact qr (f := dm_ret .boolean) rfl rfl
set_option maxRecDepth 100000 in
theorem lp_2 (xs : Nat → Int32) (h : xs 0 &&& 31 = 13) (zs : xs 1 = 0) (hP : ¬ okP (((xs 2).toInt64 <<< ((32 : Int32).toInt64 &&& 63)) ||| ((xs 3).toInt64 &&& (4294967295 : Int64))) (xs 4)) : ∃ M, dm_run ev_E (cdL 9 xs (tl_sem true false 582) (tl_sem true true 694)) 1999976 (40, lvA, [.int (xs 0 &&& 31)]) ev_3 = some (some (.int 1), M) ∧ dm_bd M = true := by
  refine ⟨hmm_10, ?_, hff_30⟩
  refine qs (f := dm_tsw 0 28 1263 [172, 183, 208, 233, 270, 295, 320, 357, 382, 419, 432, 469, 506, 543, 655, 774, 811, 860, 874, 887, 1042, 1067, 1092, 1161, 1186, 1199, 1212, 1225, 1238]) rfl (dm_tsw_at h rfl) ?_
  refine qs (f := dm_ald 544 1) rfl (rfl) ?_
  refine qs (f := dm_ald 545 0) rfl (rfl) ?_
  refine qs (f := dm_ild 547 4) rfl (rfl) ?_
  refine qs (f := dm_push 548 (.int 1)) rfl (rfl) ?_
  refine qs (f := dm_ii 549 (fun x y => x + y)) rfl (rfl) ?_
  refine qs (f := dm_sld 550 9 xs) rfl (dm_sld_ok (j := 1) (by decide) (by decide)) ?_
  refine qs (f := dm_ald 551 0) rfl (rfl) ?_
  refine qs (f := dm_ild 553 4) rfl (rfl) ?_
  refine qs (f := dm_push 554 (.int 2)) rfl (rfl) ?_
  refine qs (f := dm_ii 555 (fun x y => x + y)) rfl (rfl) ?_
  refine qs (f := dm_sld 556 9 xs) rfl (dm_sld_ok (j := 2) (by decide) (by decide)) ?_
  refine qs (f := dm_i1 557 (fun x => .long x.toInt64)) rfl (rfl) ?_
  refine qs (f := dm_push 559 (.int 32)) rfl (rfl) ?_
  refine qs (f := dm_li 560 (fun x y => x <<< (y.toInt64 &&& 63))) rfl (rfl) ?_
  refine qs (f := dm_ald 561 0) rfl (rfl) ?_
  refine qs (f := dm_ild 563 4) rfl (rfl) ?_
  refine qs (f := dm_push 564 (.int 3)) rfl (rfl) ?_
  refine qs (f := dm_ii 565 (fun x y => x + y)) rfl (rfl) ?_
  refine qs (f := dm_sld 566 9 xs) rfl (dm_sld_ok (j := 3) (by decide) (by decide)) ?_
  refine qs (f := dm_i1 567 (fun x => .long x.toInt64)) rfl (rfl) ?_
  refine qs (f := dm_push 570 (.long 4294967295)) rfl (rfl) ?_
  refine qs (f := dm_ll 571 (fun x y => x &&& y)) rfl (rfl) ?_
  refine qs (f := dm_ll 572 (fun x y => x ||| y)) rfl (rfl) ?_
  refine qs (f := dm_ald 573 0) rfl (rfl) ?_
  refine qs (f := dm_ild 575 4) rfl (rfl) ?_
  refine qs (f := dm_push 576 (.int 4)) rfl (rfl) ?_
  refine qs (f := dm_ii 577 (fun x y => x + y)) rfl (rfl) ?_
  refine qs (f := dm_sld 578 9 xs) rfl (dm_sld_ok (j := 4) (by decide) (by decide)) ?_
  refine qs (f := dm_ald 579 3) rfl (rfl) ?_
  refine qs (f := tl_sem true false 582) rfl (tl_sT_ok (Nat.le_of_ble_eq_true rfl) hff_8 (by rw [zs]; exact lt_13_1 _ _ hP)) ?_
  refine qs (f := dm_ist 584 5) rfl (rfl) ?_
  refine qs (f := dm_ald 585 2) rfl (rfl) ?_
  refine qs (f := dm_ald 586 0) rfl (rfl) ?_
  refine qs (f := dm_ild 588 4) rfl (rfl) ?_
  refine qs (f := dm_push 589 (.int 1)) rfl (rfl) ?_
  refine qs (f := dm_ii 590 (fun x y => x + y)) rfl (rfl) ?_
  refine qs (f := dm_sld 591 9 xs) rfl (dm_sld_ok (j := 1) (by decide) (by decide)) ?_
  refine qs (f := dm_ald 592 0) rfl (rfl) ?_
  refine qs (f := dm_ild 594 4) rfl (rfl) ?_
  refine qs (f := dm_push 595 (.int 2)) rfl (rfl) ?_
  refine qs (f := dm_ii 596 (fun x y => x + y)) rfl (rfl) ?_
  refine qs (f := dm_sld 597 9 xs) rfl (dm_sld_ok (j := 2) (by decide) (by decide)) ?_
  refine qs (f := dm_i1 598 (fun x => .long x.toInt64)) rfl (rfl) ?_
  refine qs (f := dm_push 600 (.int 32)) rfl (rfl) ?_
  refine qs (f := dm_li 601 (fun x y => x <<< (y.toInt64 &&& 63))) rfl (rfl) ?_
  refine qs (f := dm_ald 602 0) rfl (rfl) ?_
  refine qs (f := dm_ild 604 4) rfl (rfl) ?_
  refine qs (f := dm_push 605 (.int 3)) rfl (rfl) ?_
  refine qs (f := dm_ii 606 (fun x y => x + y)) rfl (rfl) ?_
  refine qs (f := dm_sld 607 9 xs) rfl (dm_sld_ok (j := 3) (by decide) (by decide)) ?_
  refine qs (f := dm_i1 608 (fun x => .long x.toInt64)) rfl (rfl) ?_
  refine qs (f := dm_push 611 (.long 4294967295)) rfl (rfl) ?_
  refine qs (f := dm_ll 612 (fun x y => x &&& y)) rfl (rfl) ?_
  refine qs (f := dm_ll 613 (fun x y => x ||| y)) rfl (rfl) ?_
  refine qs (f := dm_ald 614 0) rfl (rfl) ?_
  refine qs (f := dm_ild 616 4) rfl (rfl) ?_
  refine qs (f := dm_push 617 (.int 4)) rfl (rfl) ?_
  refine qs (f := dm_ii 618 (fun x y => x + y)) rfl (rfl) ?_
  refine qs (f := dm_sld 619 9 xs) rfl (dm_sld_ok (j := 4) (by decide) (by decide)) ?_
  refine qc (f := dm_inv 622 180 3 8) rfl (dm_inv_ok hff_27 rfl (Nat.le_of_ble_eq_true rfl)) ((by rw [zs]; exact (hsy_12 (((xs 2).toInt64 <<< ((32 : Int32).toInt64 &&& 63)) ||| ((xs 3).toInt64 &&& (4294967295 : Int64))) (xs 4) hP) : ev_E 180 [.ref 68, .int (xs 1), .long (((xs 2).toInt64 <<< ((32 : Int32).toInt64 &&& 63)) ||| ((xs 3).toInt64 &&& (4294967295 : Int64))), .int (xs 4)] (hmm_8 ++ [tx_x]) = some (some (.int 0), (dm_put hmm_9 68 8 40 (.int 1))))) ?_
  refine qs (f := dm_ist 624 6) rfl (rfl) ?_
  refine qs (f := dm_ald 625 2) rfl (rfl) ?_
  refine qc (f := dm_inv 628 135 0 8) rfl (dm_inv_ok hff_29 rfl (Nat.le_of_ble_eq_true rfl)) (ev_ok hmc_10) ?_
  refine qs (f := dm_ild 630 5) rfl (rfl) ?_
  refine qs (f := dm_ic_eq 633 635) rfl (dm_ic_eq_t (by first | rfl | decide)) ?_
  refine qs (f := dm_ild 637 5) rfl (rfl) ?_
  refine qs (f := dm_if_ne 640 652) rfl (dm_if_ne_t (by first | rfl | decide)) ?_
  refine qs (f := dm_goto 1263) rfl (rfl) ?_
  refine qs (f := dm_iinc 1266 4 9) rfl (rfl) ?_
  refine qs (f := dm_goto 23) rfl (rfl) ?_
  refine qs (f := dm_ild 25 4) rfl (rfl) ?_
  refine qs (f := dm_ald 26 0) rfl (rfl) ?_
  refine qs (f := dm_sln 27 9) rfl (rfl) ?_
  refine qs (f := dm_push 29 (.int 9)) rfl (rfl) ?_
  refine qs (f := dm_ii 30 (fun x y => x - y)) rfl (rfl) ?_
  refine qs (f := dm_ic_gt 33 1269) rfl (dm_ic_gt_t (by decide)) ?_
  refine qs (f := dm_push 1270 (.int 1)) rfl (rfl) ?_
  exact qr (f := dm_ret .boolean) rfl rfl
set_option maxRecDepth 100000 in
theorem lp_3 (xs : Nat → Int32) (h : xs 0 &&& 31 = 14) (zs : xs 1 = 0) (hP : okP (((xs 2).toInt64 <<< ((32 : Int32).toInt64 &&& 63)) ||| ((xs 3).toInt64 &&& (4294967295 : Int64))) (xs 4)) : ∃ M, dm_run ev_E (cdL 9 xs (tl_sem false false 582) (tl_sem false true 694)) 1999976 (40, lvA, [.int (xs 0 &&& 31)]) ev_3 = some (some (.int 1), M) ∧ dm_bd M = true := by
  refine ⟨hmm_15, ?_, hff_45⟩
  refine qs (f := dm_tsw 0 28 1263 [172, 183, 208, 233, 270, 295, 320, 357, 382, 419, 432, 469, 506, 543, 655, 774, 811, 860, 874, 887, 1042, 1067, 1092, 1161, 1186, 1199, 1212, 1225, 1238]) rfl (dm_tsw_at h rfl) ?_
  refine qs (f := dm_ald 656 1) rfl (rfl) ?_
  refine qs (f := dm_ald 657 0) rfl (rfl) ?_
  refine qs (f := dm_ild 659 4) rfl (rfl) ?_
  refine qs (f := dm_push 660 (.int 1)) rfl (rfl) ?_
  refine qs (f := dm_ii 661 (fun x y => x + y)) rfl (rfl) ?_
  refine qs (f := dm_sld 662 9 xs) rfl (dm_sld_ok (j := 1) (by decide) (by decide)) ?_
  refine qs (f := dm_ald 663 0) rfl (rfl) ?_
  refine qs (f := dm_ild 665 4) rfl (rfl) ?_
  refine qs (f := dm_push 666 (.int 2)) rfl (rfl) ?_
  refine qs (f := dm_ii 667 (fun x y => x + y)) rfl (rfl) ?_
  refine qs (f := dm_sld 668 9 xs) rfl (dm_sld_ok (j := 2) (by decide) (by decide)) ?_
  refine qs (f := dm_i1 669 (fun x => .long x.toInt64)) rfl (rfl) ?_
  refine qs (f := dm_push 671 (.int 32)) rfl (rfl) ?_
  refine qs (f := dm_li 672 (fun x y => x <<< (y.toInt64 &&& 63))) rfl (rfl) ?_
  refine qs (f := dm_ald 673 0) rfl (rfl) ?_
  refine qs (f := dm_ild 675 4) rfl (rfl) ?_
  refine qs (f := dm_push 676 (.int 3)) rfl (rfl) ?_
  refine qs (f := dm_ii 677 (fun x y => x + y)) rfl (rfl) ?_
  refine qs (f := dm_sld 678 9 xs) rfl (dm_sld_ok (j := 3) (by decide) (by decide)) ?_
  refine qs (f := dm_i1 679 (fun x => .long x.toInt64)) rfl (rfl) ?_
  refine qs (f := dm_push 682 (.long 4294967295)) rfl (rfl) ?_
  refine qs (f := dm_ll 683 (fun x y => x &&& y)) rfl (rfl) ?_
  refine qs (f := dm_ll 684 (fun x y => x ||| y)) rfl (rfl) ?_
  refine qs (f := dm_ald 685 0) rfl (rfl) ?_
  refine qs (f := dm_ild 687 4) rfl (rfl) ?_
  refine qs (f := dm_push 688 (.int 4)) rfl (rfl) ?_
  refine qs (f := dm_ii 689 (fun x y => x + y)) rfl (rfl) ?_
  refine qs (f := dm_sld 690 9 xs) rfl (dm_sld_ok (j := 4) (by decide) (by decide)) ?_
  refine qs (f := dm_ald 691 3) rfl (rfl) ?_
  refine qs (f := tl_sem false true 694) rfl (tl_sN_ok (Nat.le_of_ble_eq_true rfl) (by rw [zs]; exact ln_14 _ _ hP)) ?_
  refine qs (f := dm_ist 696 5) rfl (rfl) ?_
  refine qs (f := dm_ald 697 2) rfl (rfl) ?_
  refine qs (f := dm_ald 698 0) rfl (rfl) ?_
  refine qs (f := dm_ild 700 4) rfl (rfl) ?_
  refine qs (f := dm_push 701 (.int 1)) rfl (rfl) ?_
  refine qs (f := dm_ii 702 (fun x y => x + y)) rfl (rfl) ?_
  refine qs (f := dm_sld 703 9 xs) rfl (dm_sld_ok (j := 1) (by decide) (by decide)) ?_
  refine qs (f := dm_ald 704 0) rfl (rfl) ?_
  refine qs (f := dm_ild 706 4) rfl (rfl) ?_
  refine qs (f := dm_push 707 (.int 2)) rfl (rfl) ?_
  refine qs (f := dm_ii 708 (fun x y => x + y)) rfl (rfl) ?_
  refine qs (f := dm_sld 709 9 xs) rfl (dm_sld_ok (j := 2) (by decide) (by decide)) ?_
  refine qs (f := dm_i1 710 (fun x => .long x.toInt64)) rfl (rfl) ?_
  refine qs (f := dm_push 712 (.int 32)) rfl (rfl) ?_
  refine qs (f := dm_li 713 (fun x y => x <<< (y.toInt64 &&& 63))) rfl (rfl) ?_
  refine qs (f := dm_ald 714 0) rfl (rfl) ?_
  refine qs (f := dm_ild 716 4) rfl (rfl) ?_
  refine qs (f := dm_push 717 (.int 3)) rfl (rfl) ?_
  refine qs (f := dm_ii 718 (fun x y => x + y)) rfl (rfl) ?_
  refine qs (f := dm_sld 719 9 xs) rfl (dm_sld_ok (j := 3) (by decide) (by decide)) ?_
  refine qs (f := dm_i1 720 (fun x => .long x.toInt64)) rfl (rfl) ?_
  refine qs (f := dm_push 723 (.long 4294967295)) rfl (rfl) ?_
  refine qs (f := dm_ll 724 (fun x y => x &&& y)) rfl (rfl) ?_
  refine qs (f := dm_ll 725 (fun x y => x ||| y)) rfl (rfl) ?_
  refine qs (f := dm_ald 726 0) rfl (rfl) ?_
  refine qs (f := dm_ild 728 4) rfl (rfl) ?_
  refine qs (f := dm_push 729 (.int 4)) rfl (rfl) ?_
  refine qs (f := dm_ii 730 (fun x y => x + y)) rfl (rfl) ?_
  refine qs (f := dm_sld 731 9 xs) rfl (dm_sld_ok (j := 4) (by decide) (by decide)) ?_
  refine qc (f := dm_inv 734 181 3 8) rfl (dm_inv_ok hff_35 rfl (Nat.le_of_ble_eq_true rfl)) ((by rw [zs]; exact (hsy_16 (((xs 2).toInt64 <<< ((32 : Int32).toInt64 &&& 63)) ||| ((xs 3).toInt64 &&& (4294967295 : Int64))) (xs 4) hP) : ev_E 181 [.ref 68, .int (xs 1), .long (((xs 2).toInt64 <<< ((32 : Int32).toInt64 &&& 63)) ||| ((xs 3).toInt64 &&& (4294967295 : Int64))), .int (xs 4)] (dm_putl hmm_13 116 0 1) = some (some (.int 1), hmm_14))) ?_
  refine qs (f := dm_ist 736 6) rfl (rfl) ?_
  refine qs (f := dm_ald 737 2) rfl (rfl) ?_
  refine qc (f := dm_inv 740 135 0 8) rfl (dm_inv_ok hff_43 rfl (Nat.le_of_ble_eq_true rfl)) (ev_ok hmc_15) ?_
  refine qs (f := dm_ild 742 5) rfl (rfl) ?_
  refine qs (f := dm_ic_eq 745 747) rfl (dm_ic_eq_t (by first | rfl | decide)) ?_
  refine qs (f := dm_ild 749 5) rfl (rfl) ?_
  refine qs (f := dm_if_ne 752 771) rfl (dm_if_ne_f (by first | rfl | decide)) ?_
  refine qs (f := dm_ald 753 3) rfl (rfl) ?_
  refine qs (f := dm_push 754 (.int 0)) rfl (rfl) ?_
  refine qs (f := dm_lald 755) rfl (dm_lald_ok hff_44) ?_
  refine qs (f := dm_ild 757 6) rfl (rfl) ?_
  refine qs (f := dm_if_eq 760 764) rfl (dm_if_eq_f (by first | rfl | decide)) ?_
  refine qs (f := dm_push 761 (.long 1)) rfl (rfl) ?_
  refine qs (f := dm_goto 765) rfl (rfl) ?_
  refine qs (f := dm_lc 766) rfl (rfl) ?_
  refine qs (f := dm_if_eq 769 771) rfl (dm_if_eq_t (by first | rfl | decide)) ?_
  refine qs (f := dm_goto 1263) rfl (rfl) ?_
  refine qs (f := dm_iinc 1266 4 9) rfl (rfl) ?_
  refine qs (f := dm_goto 23) rfl (rfl) ?_
  refine qs (f := dm_ild 25 4) rfl (rfl) ?_
  refine qs (f := dm_ald 26 0) rfl (rfl) ?_
  refine qs (f := dm_sln 27 9) rfl (rfl) ?_
  refine qs (f := dm_push 29 (.int 9)) rfl (rfl) ?_
  refine qs (f := dm_ii 30 (fun x y => x - y)) rfl (rfl) ?_
  refine qs (f := dm_ic_gt 33 1269) rfl (dm_ic_gt_t (by decide)) ?_
  refine qs (f := dm_push 1270 (.int 1)) rfl (rfl) ?_
  exact qr (f := dm_ret .boolean) rfl rfl
set_option maxRecDepth 100000 in
theorem lp_4 (xs : Nat → Int32) (h : xs 0 &&& 31 = 14) (hs : ¬ xs 1 = 0) : ∃ M, dm_run ev_E (cdL 9 xs (tl_sem true false 582) (tl_sem true true 694)) 1999976 (40, lvA, [.int (xs 0 &&& 31)]) ev_3 = some (some (.int 1), M) ∧ dm_bd M = true := by
  refine ⟨hmm_7, ?_, hff_25⟩
  refine qs (f := dm_tsw 0 28 1263 [172, 183, 208, 233, 270, 295, 320, 357, 382, 419, 432, 469, 506, 543, 655, 774, 811, 860, 874, 887, 1042, 1067, 1092, 1161, 1186, 1199, 1212, 1225, 1238]) rfl (dm_tsw_at h rfl) ?_
  refine qs (f := dm_ald 656 1) rfl (rfl) ?_
  refine qs (f := dm_ald 657 0) rfl (rfl) ?_
  refine qs (f := dm_ild 659 4) rfl (rfl) ?_
  refine qs (f := dm_push 660 (.int 1)) rfl (rfl) ?_
  refine qs (f := dm_ii 661 (fun x y => x + y)) rfl (rfl) ?_
  refine qs (f := dm_sld 662 9 xs) rfl (dm_sld_ok (j := 1) (by decide) (by decide)) ?_
  refine qs (f := dm_ald 663 0) rfl (rfl) ?_
  refine qs (f := dm_ild 665 4) rfl (rfl) ?_
  refine qs (f := dm_push 666 (.int 2)) rfl (rfl) ?_
  refine qs (f := dm_ii 667 (fun x y => x + y)) rfl (rfl) ?_
  refine qs (f := dm_sld 668 9 xs) rfl (dm_sld_ok (j := 2) (by decide) (by decide)) ?_
  refine qs (f := dm_i1 669 (fun x => .long x.toInt64)) rfl (rfl) ?_
  refine qs (f := dm_push 671 (.int 32)) rfl (rfl) ?_
  refine qs (f := dm_li 672 (fun x y => x <<< (y.toInt64 &&& 63))) rfl (rfl) ?_
  refine qs (f := dm_ald 673 0) rfl (rfl) ?_
  refine qs (f := dm_ild 675 4) rfl (rfl) ?_
  refine qs (f := dm_push 676 (.int 3)) rfl (rfl) ?_
  refine qs (f := dm_ii 677 (fun x y => x + y)) rfl (rfl) ?_
  refine qs (f := dm_sld 678 9 xs) rfl (dm_sld_ok (j := 3) (by decide) (by decide)) ?_
  refine qs (f := dm_i1 679 (fun x => .long x.toInt64)) rfl (rfl) ?_
  refine qs (f := dm_push 682 (.long 4294967295)) rfl (rfl) ?_
  refine qs (f := dm_ll 683 (fun x y => x &&& y)) rfl (rfl) ?_
  refine qs (f := dm_ll 684 (fun x y => x ||| y)) rfl (rfl) ?_
  refine qs (f := dm_ald 685 0) rfl (rfl) ?_
  refine qs (f := dm_ild 687 4) rfl (rfl) ?_
  refine qs (f := dm_push 688 (.int 4)) rfl (rfl) ?_
  refine qs (f := dm_ii 689 (fun x y => x + y)) rfl (rfl) ?_
  refine qs (f := dm_sld 690 9 xs) rfl (dm_sld_ok (j := 4) (by decide) (by decide)) ?_
  refine qs (f := dm_ald 691 3) rfl (rfl) ?_
  refine qs (f := tl_sem true true 694) rfl (tl_sT_ok (Nat.le_of_ble_eq_true rfl) hff_8 (lt_14_0 (xs 1) _ _ hs)) ?_
  refine qs (f := dm_ist 696 5) rfl (rfl) ?_
  refine qs (f := dm_ald 697 2) rfl (rfl) ?_
  refine qs (f := dm_ald 698 0) rfl (rfl) ?_
  refine qs (f := dm_ild 700 4) rfl (rfl) ?_
  refine qs (f := dm_push 701 (.int 1)) rfl (rfl) ?_
  refine qs (f := dm_ii 702 (fun x y => x + y)) rfl (rfl) ?_
  refine qs (f := dm_sld 703 9 xs) rfl (dm_sld_ok (j := 1) (by decide) (by decide)) ?_
  refine qs (f := dm_ald 704 0) rfl (rfl) ?_
  refine qs (f := dm_ild 706 4) rfl (rfl) ?_
  refine qs (f := dm_push 707 (.int 2)) rfl (rfl) ?_
  refine qs (f := dm_ii 708 (fun x y => x + y)) rfl (rfl) ?_
  refine qs (f := dm_sld 709 9 xs) rfl (dm_sld_ok (j := 2) (by decide) (by decide)) ?_
  refine qs (f := dm_i1 710 (fun x => .long x.toInt64)) rfl (rfl) ?_
  refine qs (f := dm_push 712 (.int 32)) rfl (rfl) ?_
  refine qs (f := dm_li 713 (fun x y => x <<< (y.toInt64 &&& 63))) rfl (rfl) ?_
  refine qs (f := dm_ald 714 0) rfl (rfl) ?_
  refine qs (f := dm_ild 716 4) rfl (rfl) ?_
  refine qs (f := dm_push 717 (.int 3)) rfl (rfl) ?_
  refine qs (f := dm_ii 718 (fun x y => x + y)) rfl (rfl) ?_
  refine qs (f := dm_sld 719 9 xs) rfl (dm_sld_ok (j := 3) (by decide) (by decide)) ?_
  refine qs (f := dm_i1 720 (fun x => .long x.toInt64)) rfl (rfl) ?_
  refine qs (f := dm_push 723 (.long 4294967295)) rfl (rfl) ?_
  refine qs (f := dm_ll 724 (fun x y => x &&& y)) rfl (rfl) ?_
  refine qs (f := dm_ll 725 (fun x y => x ||| y)) rfl (rfl) ?_
  refine qs (f := dm_ald 726 0) rfl (rfl) ?_
  refine qs (f := dm_ild 728 4) rfl (rfl) ?_
  refine qs (f := dm_push 729 (.int 4)) rfl (rfl) ?_
  refine qs (f := dm_ii 730 (fun x y => x + y)) rfl (rfl) ?_
  refine qs (f := dm_sld 731 9 xs) rfl (dm_sld_ok (j := 4) (by decide) (by decide)) ?_
  refine qc (f := dm_inv 734 181 3 8) rfl (dm_inv_ok hff_23 rfl (Nat.le_of_ble_eq_true rfl)) (((hsy_17 (xs 1) (((xs 2).toInt64 <<< ((32 : Int32).toInt64 &&& 63)) ||| ((xs 3).toInt64 &&& (4294967295 : Int64))) (xs 4) hs) : ev_E 181 [.ref 68, .int (xs 1), .long (((xs 2).toInt64 <<< ((32 : Int32).toInt64 &&& 63)) ||| ((xs 3).toInt64 &&& (4294967295 : Int64))), .int (xs 4)] (ev_3 ++ [tx_x]) = some (some (.int 0), (dm_put (ev_3 ++ [tx_x]) 68 8 40 (.int 1))))) ?_
  refine qs (f := dm_ist 736 6) rfl (rfl) ?_
  refine qs (f := dm_ald 737 2) rfl (rfl) ?_
  refine qc (f := dm_inv 740 135 0 8) rfl (dm_inv_ok hff_24 rfl (Nat.le_of_ble_eq_true rfl)) (ev_ok hmc_7) ?_
  refine qs (f := dm_ild 742 5) rfl (rfl) ?_
  refine qs (f := dm_ic_eq 745 747) rfl (dm_ic_eq_t (by first | rfl | decide)) ?_
  refine qs (f := dm_ild 749 5) rfl (rfl) ?_
  refine qs (f := dm_if_ne 752 771) rfl (dm_if_ne_t (by first | rfl | decide)) ?_
  refine qs (f := dm_goto 1263) rfl (rfl) ?_
  refine qs (f := dm_iinc 1266 4 9) rfl (rfl) ?_
  refine qs (f := dm_goto 23) rfl (rfl) ?_
  refine qs (f := dm_ild 25 4) rfl (rfl) ?_
  refine qs (f := dm_ald 26 0) rfl (rfl) ?_
  refine qs (f := dm_sln 27 9) rfl (rfl) ?_
  refine qs (f := dm_push 29 (.int 9)) rfl (rfl) ?_
  refine qs (f := dm_ii 30 (fun x y => x - y)) rfl (rfl) ?_
  refine qs (f := dm_ic_gt 33 1269) rfl (dm_ic_gt_t (by decide)) ?_
  refine qs (f := dm_push 1270 (.int 1)) rfl (rfl) ?_
  exact qr (f := dm_ret .boolean) rfl rfl
set_option maxRecDepth 100000 in
theorem lp_5 (xs : Nat → Int32) (h : xs 0 &&& 31 = 14) (zs : xs 1 = 0) (hP : ¬ okP (((xs 2).toInt64 <<< ((32 : Int32).toInt64 &&& 63)) ||| ((xs 3).toInt64 &&& (4294967295 : Int64))) (xs 4)) : ∃ M, dm_run ev_E (cdL 9 xs (tl_sem true false 582) (tl_sem true true 694)) 1999976 (40, lvA, [.int (xs 0 &&& 31)]) ev_3 = some (some (.int 1), M) ∧ dm_bd M = true := by
  refine ⟨hmm_10, ?_, hff_30⟩
  refine qs (f := dm_tsw 0 28 1263 [172, 183, 208, 233, 270, 295, 320, 357, 382, 419, 432, 469, 506, 543, 655, 774, 811, 860, 874, 887, 1042, 1067, 1092, 1161, 1186, 1199, 1212, 1225, 1238]) rfl (dm_tsw_at h rfl) ?_
  refine qs (f := dm_ald 656 1) rfl (rfl) ?_
  refine qs (f := dm_ald 657 0) rfl (rfl) ?_
  refine qs (f := dm_ild 659 4) rfl (rfl) ?_
  refine qs (f := dm_push 660 (.int 1)) rfl (rfl) ?_
  refine qs (f := dm_ii 661 (fun x y => x + y)) rfl (rfl) ?_
  refine qs (f := dm_sld 662 9 xs) rfl (dm_sld_ok (j := 1) (by decide) (by decide)) ?_
  refine qs (f := dm_ald 663 0) rfl (rfl) ?_
  refine qs (f := dm_ild 665 4) rfl (rfl) ?_
  refine qs (f := dm_push 666 (.int 2)) rfl (rfl) ?_
  refine qs (f := dm_ii 667 (fun x y => x + y)) rfl (rfl) ?_
  refine qs (f := dm_sld 668 9 xs) rfl (dm_sld_ok (j := 2) (by decide) (by decide)) ?_
  refine qs (f := dm_i1 669 (fun x => .long x.toInt64)) rfl (rfl) ?_
  refine qs (f := dm_push 671 (.int 32)) rfl (rfl) ?_
  refine qs (f := dm_li 672 (fun x y => x <<< (y.toInt64 &&& 63))) rfl (rfl) ?_
  refine qs (f := dm_ald 673 0) rfl (rfl) ?_
  refine qs (f := dm_ild 675 4) rfl (rfl) ?_
  refine qs (f := dm_push 676 (.int 3)) rfl (rfl) ?_
  refine qs (f := dm_ii 677 (fun x y => x + y)) rfl (rfl) ?_
  refine qs (f := dm_sld 678 9 xs) rfl (dm_sld_ok (j := 3) (by decide) (by decide)) ?_
  refine qs (f := dm_i1 679 (fun x => .long x.toInt64)) rfl (rfl) ?_
  refine qs (f := dm_push 682 (.long 4294967295)) rfl (rfl) ?_
  refine qs (f := dm_ll 683 (fun x y => x &&& y)) rfl (rfl) ?_
  refine qs (f := dm_ll 684 (fun x y => x ||| y)) rfl (rfl) ?_
  refine qs (f := dm_ald 685 0) rfl (rfl) ?_
  refine qs (f := dm_ild 687 4) rfl (rfl) ?_
  refine qs (f := dm_push 688 (.int 4)) rfl (rfl) ?_
  refine qs (f := dm_ii 689 (fun x y => x + y)) rfl (rfl) ?_
  refine qs (f := dm_sld 690 9 xs) rfl (dm_sld_ok (j := 4) (by decide) (by decide)) ?_
  refine qs (f := dm_ald 691 3) rfl (rfl) ?_
  refine qs (f := tl_sem true true 694) rfl (tl_sT_ok (Nat.le_of_ble_eq_true rfl) hff_8 (by rw [zs]; exact lt_14_1 _ _ hP)) ?_
  refine qs (f := dm_ist 696 5) rfl (rfl) ?_
  refine qs (f := dm_ald 697 2) rfl (rfl) ?_
  refine qs (f := dm_ald 698 0) rfl (rfl) ?_
  refine qs (f := dm_ild 700 4) rfl (rfl) ?_
  refine qs (f := dm_push 701 (.int 1)) rfl (rfl) ?_
  refine qs (f := dm_ii 702 (fun x y => x + y)) rfl (rfl) ?_
  refine qs (f := dm_sld 703 9 xs) rfl (dm_sld_ok (j := 1) (by decide) (by decide)) ?_
  refine qs (f := dm_ald 704 0) rfl (rfl) ?_
  refine qs (f := dm_ild 706 4) rfl (rfl) ?_
  refine qs (f := dm_push 707 (.int 2)) rfl (rfl) ?_
  refine qs (f := dm_ii 708 (fun x y => x + y)) rfl (rfl) ?_
  refine qs (f := dm_sld 709 9 xs) rfl (dm_sld_ok (j := 2) (by decide) (by decide)) ?_
  refine qs (f := dm_i1 710 (fun x => .long x.toInt64)) rfl (rfl) ?_
  refine qs (f := dm_push 712 (.int 32)) rfl (rfl) ?_
  refine qs (f := dm_li 713 (fun x y => x <<< (y.toInt64 &&& 63))) rfl (rfl) ?_
  refine qs (f := dm_ald 714 0) rfl (rfl) ?_
  refine qs (f := dm_ild 716 4) rfl (rfl) ?_
  refine qs (f := dm_push 717 (.int 3)) rfl (rfl) ?_
  refine qs (f := dm_ii 718 (fun x y => x + y)) rfl (rfl) ?_
  refine qs (f := dm_sld 719 9 xs) rfl (dm_sld_ok (j := 3) (by decide) (by decide)) ?_
  refine qs (f := dm_i1 720 (fun x => .long x.toInt64)) rfl (rfl) ?_
  refine qs (f := dm_push 723 (.long 4294967295)) rfl (rfl) ?_
  refine qs (f := dm_ll 724 (fun x y => x &&& y)) rfl (rfl) ?_
  refine qs (f := dm_ll 725 (fun x y => x ||| y)) rfl (rfl) ?_
  refine qs (f := dm_ald 726 0) rfl (rfl) ?_
  refine qs (f := dm_ild 728 4) rfl (rfl) ?_
  refine qs (f := dm_push 729 (.int 4)) rfl (rfl) ?_
  refine qs (f := dm_ii 730 (fun x y => x + y)) rfl (rfl) ?_
  refine qs (f := dm_sld 731 9 xs) rfl (dm_sld_ok (j := 4) (by decide) (by decide)) ?_
  refine qc (f := dm_inv 734 181 3 8) rfl (dm_inv_ok hff_27 rfl (Nat.le_of_ble_eq_true rfl)) ((by rw [zs]; exact (hsy_18 (((xs 2).toInt64 <<< ((32 : Int32).toInt64 &&& 63)) ||| ((xs 3).toInt64 &&& (4294967295 : Int64))) (xs 4) hP) : ev_E 181 [.ref 68, .int (xs 1), .long (((xs 2).toInt64 <<< ((32 : Int32).toInt64 &&& 63)) ||| ((xs 3).toInt64 &&& (4294967295 : Int64))), .int (xs 4)] (hmm_8 ++ [tx_x]) = some (some (.int 0), (dm_put hmm_9 68 8 40 (.int 1))))) ?_
  refine qs (f := dm_ist 736 6) rfl (rfl) ?_
  refine qs (f := dm_ald 737 2) rfl (rfl) ?_
  refine qc (f := dm_inv 740 135 0 8) rfl (dm_inv_ok hff_29 rfl (Nat.le_of_ble_eq_true rfl)) (ev_ok hmc_10) ?_
  refine qs (f := dm_ild 742 5) rfl (rfl) ?_
  refine qs (f := dm_ic_eq 745 747) rfl (dm_ic_eq_t (by first | rfl | decide)) ?_
  refine qs (f := dm_ild 749 5) rfl (rfl) ?_
  refine qs (f := dm_if_ne 752 771) rfl (dm_if_ne_t (by first | rfl | decide)) ?_
  refine qs (f := dm_goto 1263) rfl (rfl) ?_
  refine qs (f := dm_iinc 1266 4 9) rfl (rfl) ?_
  refine qs (f := dm_goto 23) rfl (rfl) ?_
  refine qs (f := dm_ild 25 4) rfl (rfl) ?_
  refine qs (f := dm_ald 26 0) rfl (rfl) ?_
  refine qs (f := dm_sln 27 9) rfl (rfl) ?_
  refine qs (f := dm_push 29 (.int 9)) rfl (rfl) ?_
  refine qs (f := dm_ii 30 (fun x y => x - y)) rfl (rfl) ?_
  refine qs (f := dm_ic_gt 33 1269) rfl (dm_ic_gt_t (by decide)) ?_
  refine qs (f := dm_push 1270 (.int 1)) rfl (rfl) ?_
  exact qr (f := dm_ret .boolean) rfl rfl
