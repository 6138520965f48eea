/-! every script: the law's run -/
theorem i_31 (x : Int32) : ∃ j : Nat, j < 32 ∧ x &&& 31 = nI j := by
  refine ⟨(x &&& 31).toBitVec.toNat, ?_, ?_⟩
  · have h1 : (x &&& 31).toBitVec = x.toBitVec &&& 31#32 := rfl
    rw [h1, BitVec.toNat_and]
    have h2 : x.toBitVec.toNat &&& (31#32).toNat ≤ (31#32).toNat := Nat.and_le_right
    have h3 : (31#32).toNat = 31 := rfl
    omega
  · apply Int32.toBitVec_inj.mp
    show _ = BitVec.ofNat 32 _
    rw [BitVec.ofNat_toNat, BitVec.setWidth_eq]
theorem i_wk (w : Int32) (k : Nat) (hk : k < 100) : (w.toInt < 0 ∨ (k : Int) < w.toInt) ∨ ∃ j : Nat, j ≤ k ∧ w = nI j := by
  by_cases h1 : w.toInt < 0
  · exact Or.inl (Or.inl h1)
  · by_cases h2 : (k : Int) < w.toInt
    · exact Or.inl (Or.inr h2)
    · refine Or.inr ⟨w.toInt.toNat, by omega, Int32.toInt_inj.mp ?_⟩
      rw [nI_toInt (by omega)]
      omega
def lw_R (xs : Nat → Int32) : Prop := ∃ (tt : Bool) (M : dm_Mem), dm_run ev_E (cdL 9 xs (tl_sem tt false 582) (tl_sem tt true 694)) 1999976 (40, lvA, [.int (xs 0 &&& 31)]) ev_3 = some (some (.int 1), M) ∧ dm_bd M = true
theorem lw_Ri {xs : Nat → Int32} (h : ∀ f1 f2 : dm_Sem, ∃ M, dm_run ev_E (cdL 9 xs f1 f2) 1999976 (40, lvA, [.int (xs 0 &&& 31)]) ev_3 = some (some (.int 1), M) ∧ dm_bd M = true) : lw_R xs := by
  obtain ⟨M, h1, h2⟩ := h (tl_sem false false 582) (tl_sem false true 694)
  exact ⟨false, M, h1, h2⟩
theorem lw_op0 (xs : Nat → Int32) (h : xs 0 &&& 31 = 0) : lw_R xs := by
  exact lw_Ri (fun f1 f2 => lo_0 xs f1 f2 h )
theorem lw_op1 (xs : Nat → Int32) (h : xs 0 &&& 31 = 1) : lw_R xs := by
  by_cases hs : xs 1 = 0
  · exact lw_Ri (fun f1 f2 => lo_1 xs f1 f2 h hs)
  · exact lw_Ri (fun f1 f2 => lo_2 xs f1 f2 h hs)
theorem lw_op2 (xs : Nat → Int32) (h : xs 0 &&& 31 = 2) : lw_R xs := by
  by_cases hs : xs 1 = 0
  · exact lw_Ri (fun f1 f2 => lo_3 xs f1 f2 h hs)
  · exact lw_Ri (fun f1 f2 => lo_4 xs f1 f2 h hs)
theorem lw_op3 (xs : Nat → Int32) (h : xs 0 &&& 31 = 3) : lw_R xs := by
  by_cases hs : xs 1 = 0
  · by_cases ht : xs 2 = 0
    · exact lw_Ri (fun f1 f2 => lo_5 xs f1 f2 h hs ht)
    · exact lw_Ri (fun f1 f2 => lo_7 xs f1 f2 h ht hs)
  · exact lw_Ri (fun f1 f2 => lo_6 xs f1 f2 h hs)
theorem lw_op4 (xs : Nat → Int32) (h : xs 0 &&& 31 = 4) : lw_R xs := by
  by_cases hs : xs 1 = 0
  · exact lw_Ri (fun f1 f2 => lo_8 xs f1 f2 h hs)
  · exact lw_Ri (fun f1 f2 => lo_9 xs f1 f2 h hs)
theorem lw_op5 (xs : Nat → Int32) (h : xs 0 &&& 31 = 5) : lw_R xs := by
  by_cases hs : xs 1 = 0
  · exact lw_Ri (fun f1 f2 => lo_10 xs f1 f2 h hs)
  · exact lw_Ri (fun f1 f2 => lo_11 xs f1 f2 h hs)
theorem lw_op6 (xs : Nat → Int32) (h : xs 0 &&& 31 = 6) : lw_R xs := by
  by_cases hs : xs 1 = 0
  · by_cases ht : xs 2 = 0
    · exact lw_Ri (fun f1 f2 => lo_12 xs f1 f2 h hs ht)
    · exact lw_Ri (fun f1 f2 => lo_14 xs f1 f2 h ht hs)
  · exact lw_Ri (fun f1 f2 => lo_13 xs f1 f2 h hs)
theorem lw_op7 (xs : Nat → Int32) (h : xs 0 &&& 31 = 7) : lw_R xs := by
  by_cases hs : xs 1 = 0
  · exact lw_Ri (fun f1 f2 => lo_15 xs f1 f2 h hs)
  · exact lw_Ri (fun f1 f2 => lo_16 xs f1 f2 h hs)
theorem lw_op8 (xs : Nat → Int32) (h : xs 0 &&& 31 = 8) : lw_R xs := by
  by_cases hs : xs 1 = 0
  · by_cases ht : xs 2 = 0
    · exact lw_Ri (fun f1 f2 => lo_17 xs f1 f2 h hs ht)
    · exact lw_Ri (fun f1 f2 => lo_19 xs f1 f2 h ht hs)
  · exact lw_Ri (fun f1 f2 => lo_18 xs f1 f2 h hs)
theorem lw_op9 (xs : Nat → Int32) (h : xs 0 &&& 31 = 9) : lw_R xs := by
  exact lw_Ri (fun f1 f2 => lo_20 xs f1 f2 h )
theorem lw_op10 (xs : Nat → Int32) (h : xs 0 &&& 31 = 10) : lw_R xs := by
  by_cases hs : xs 1 = 0
  · by_cases ht : xs 2 = 0
    · exact lw_Ri (fun f1 f2 => lo_21 xs f1 f2 h hs ht)
    · exact lw_Ri (fun f1 f2 => lo_23 xs f1 f2 h ht hs)
  · exact lw_Ri (fun f1 f2 => lo_22 xs f1 f2 h hs)
theorem lw_op11 (xs : Nat → Int32) (h : xs 0 &&& 31 = 11) : lw_R xs := by
  by_cases hs : xs 1 = 0
  · by_cases ht : xs 2 = 0
    · exact lw_Ri (fun f1 f2 => lo_24 xs f1 f2 h hs ht)
    · exact lw_Ri (fun f1 f2 => lo_26 xs f1 f2 h ht hs)
  · exact lw_Ri (fun f1 f2 => lo_25 xs f1 f2 h hs)
theorem lw_op12 (xs : Nat → Int32) (h : xs 0 &&& 31 = 12) : lw_R xs := by
  by_cases hs : xs 1 = 0
  · by_cases ht : xs 2 = 0
    · exact lw_Ri (fun f1 f2 => lo_27 xs f1 f2 h hs ht)
    · exact lw_Ri (fun f1 f2 => lo_29 xs f1 f2 h ht hs)
  · exact lw_Ri (fun f1 f2 => lo_28 xs f1 f2 h hs)
theorem lw_op13 (xs : Nat → Int32) (h : xs 0 &&& 31 = 13) : lw_R xs := by
  by_cases hs : xs 1 = 0
  · by_cases hP : okP (((xs 2).toInt64 <<< ((32 : Int32).toInt64 &&& 63)) ||| ((xs 3).toInt64 &&& (4294967295 : Int64))) (xs 4)
    · exact ⟨false, lp_0 xs h hs hP⟩
    · exact ⟨true, lp_2 xs h hs hP⟩
  · exact ⟨true, lp_1 xs h hs⟩
theorem lw_op14 (xs : Nat → Int32) (h : xs 0 &&& 31 = 14) : lw_R xs := by
  by_cases hs : xs 1 = 0
  · by_cases hP : okP (((xs 2).toInt64 <<< ((32 : Int32).toInt64 &&& 63)) ||| ((xs 3).toInt64 &&& (4294967295 : Int64))) (xs 4)
    · exact ⟨false, lp_3 xs h hs hP⟩
    · exact ⟨true, lp_5 xs h hs hP⟩
  · exact ⟨true, lp_4 xs h hs⟩
theorem lw_op15 (xs : Nat → Int32) (h : xs 0 &&& 31 = 15) : lw_R xs := by
  by_cases hs : xs 1 = 0
  · rcases i_wk (xs 2) 10 (by omega) with hw | ⟨j, hj, hw⟩
    · exact lw_Ri (fun f1 f2 => lo_42 xs f1 f2 h hw hs)
    · have hj2 : j = 0 ∨ j = 1 ∨ j = 2 ∨ j = 3 ∨ j = 4 ∨ j = 5 ∨ j = 6 ∨ j = 7 ∨ j = 8 ∨ j = 9 ∨ j = 10 := by omega
      rcases hj2 with rfl | rfl | rfl | rfl | rfl | rfl | rfl | rfl | rfl | rfl | rfl
      · exact lw_Ri (fun f1 f2 => lo_30 xs f1 f2 h hs (hw.trans (by decide)))
      · exact lw_Ri (fun f1 f2 => lo_31 xs f1 f2 h hs (hw.trans (by decide)))
      · exact lw_Ri (fun f1 f2 => lo_32 xs f1 f2 h hs (hw.trans (by decide)))
      · exact lw_Ri (fun f1 f2 => lo_33 xs f1 f2 h hs (hw.trans (by decide)))
      · exact lw_Ri (fun f1 f2 => lo_34 xs f1 f2 h hs (hw.trans (by decide)))
      · exact lw_Ri (fun f1 f2 => lo_35 xs f1 f2 h hs (hw.trans (by decide)))
      · exact lw_Ri (fun f1 f2 => lo_36 xs f1 f2 h hs (hw.trans (by decide)))
      · exact lw_Ri (fun f1 f2 => lo_37 xs f1 f2 h hs (hw.trans (by decide)))
      · exact lw_Ri (fun f1 f2 => lo_38 xs f1 f2 h hs (hw.trans (by decide)))
      · exact lw_Ri (fun f1 f2 => lo_39 xs f1 f2 h hs (hw.trans (by decide)))
      · exact lw_Ri (fun f1 f2 => lo_40 xs f1 f2 h hs (hw.trans (by decide)))
  · exact lw_Ri (fun f1 f2 => lo_41 xs f1 f2 h hs)
theorem lw_op16 (xs : Nat → Int32) (h : xs 0 &&& 31 = 16) : lw_R xs := by
  by_cases hs : xs 1 = 0
  · by_cases ht : xs 2 = 0
    · exact lw_Ri (fun f1 f2 => lo_45 xs f1 f2 h hs ht)
    · exact lw_Ri (fun f1 f2 => lo_44 xs f1 f2 h ht hs)
  · exact lw_Ri (fun f1 f2 => lo_43 xs f1 f2 h hs)
theorem lw_op17 (xs : Nat → Int32) (h : xs 0 &&& 31 = 17) : lw_R xs := by
  exact lw_Ri (fun f1 f2 => lo_46 xs f1 f2 h )
theorem lw_op18 (xs : Nat → Int32) (h : xs 0 &&& 31 = 18) : lw_R xs := by
  exact lw_Ri (fun f1 f2 => lo_47 xs f1 f2 h )
theorem lw_op19 (xs : Nat → Int32) (h : xs 0 &&& 31 = 19) : lw_R xs := by
  by_cases hs : xs 1 = 0
  · by_cases ht : xs 2 = 0
    · by_cases hP : okP (((xs 3).toInt64 <<< ((32 : Int32).toInt64 &&& 63)) ||| ((xs 4).toInt64 &&& (4294967295 : Int64))) (xs 5)
      · by_cases hQ : okP (((xs 6).toInt64 <<< ((32 : Int32).toInt64 &&& 63)) ||| ((xs 7).toInt64 &&& (4294967295 : Int64))) (xs 8)
        · exact lw_Ri (fun f1 f2 => lo_52 xs f1 f2 h hP hQ hs ht)
        · exact lw_Ri (fun f1 f2 => lo_51 xs f1 f2 h hP hQ hs ht)
      · exact lw_Ri (fun f1 f2 => lo_50 xs f1 f2 h hP hs ht)
    · exact lw_Ri (fun f1 f2 => lo_49 xs f1 f2 h ht hs)
  · exact lw_Ri (fun f1 f2 => lo_48 xs f1 f2 h hs)
theorem lw_op20 (xs : Nat → Int32) (h : xs 0 &&& 31 = 20) : lw_R xs := by
  by_cases hs : xs 1 = 0
  · exact lw_Ri (fun f1 f2 => lo_53 xs f1 f2 h hs)
  · exact lw_Ri (fun f1 f2 => lo_54 xs f1 f2 h hs)
theorem lw_op21 (xs : Nat → Int32) (h : xs 0 &&& 31 = 21) : lw_R xs := by
  exact lw_Ri (fun f1 f2 => lo_55 xs f1 f2 h )
theorem lw_op22 (xs : Nat → Int32) (h : xs 0 &&& 31 = 22) : lw_R xs := by
  by_cases h1 : xs 3 < 0
  · exact lw_Ri (fun f1 f2 => lo_56 xs f1 f2 h (Or.inl h1))
  · by_cases h2 : 64 < xs 3
    · exact lw_Ri (fun f1 f2 => lo_56 xs f1 f2 h (Or.inr h2))
    · exact lw_Ri (fun f1 f2 => lo_70 xs f1 f2 h h1 h2)
theorem lw_op23 (xs : Nat → Int32) (h : xs 0 &&& 31 = 23) : lw_R xs := by
  by_cases hs : xs 1 = 0
  · exact lw_Ri (fun f1 f2 => lo_57 xs f1 f2 h hs)
  · exact lw_Ri (fun f1 f2 => lo_58 xs f1 f2 h hs)
theorem lw_op24 (xs : Nat → Int32) (h : xs 0 &&& 31 = 24) : lw_R xs := by
  exact lw_Ri (fun f1 f2 => lo_59 xs f1 f2 h )
theorem lw_op25 (xs : Nat → Int32) (h : xs 0 &&& 31 = 25) : lw_R xs := by
  exact lw_Ri (fun f1 f2 => lo_60 xs f1 f2 h )
theorem lw_op26 (xs : Nat → Int32) (h : xs 0 &&& 31 = 26) : lw_R xs := by
  exact lw_Ri (fun f1 f2 => lo_71 xs f1 f2 h )
theorem lw_op27 (xs : Nat → Int32) (h : xs 0 &&& 31 = 27) : lw_R xs := by
  exact lw_Ri (fun f1 f2 => lo_61 xs f1 f2 h )
theorem lw_op28 (xs : Nat → Int32) (h : xs 0 &&& 31 = 28) : lw_R xs := by
  rcases i_wk (xs 1) 6 (by omega) with hw | ⟨j, hj, hw⟩
  · exact lw_Ri (fun f1 f2 => lo_69 xs f1 f2 h hw)
  · have hj2 : j = 0 ∨ j = 1 ∨ j = 2 ∨ j = 3 ∨ j = 4 ∨ j = 5 ∨ j = 6 := by omega
    rcases hj2 with rfl | rfl | rfl | rfl | rfl | rfl | rfl
    · exact lw_Ri (fun f1 f2 => lo_62 xs f1 f2 h (hw.trans (by decide)))
    · exact lw_Ri (fun f1 f2 => lo_63 xs f1 f2 h (hw.trans (by decide)))
    · exact lw_Ri (fun f1 f2 => lo_64 xs f1 f2 h (hw.trans (by decide)))
    · exact lw_Ri (fun f1 f2 => lo_65 xs f1 f2 h (hw.trans (by decide)))
    · exact lw_Ri (fun f1 f2 => lo_66 xs f1 f2 h (hw.trans (by decide)))
    · exact lw_Ri (fun f1 f2 => lo_67 xs f1 f2 h (hw.trans (by decide)))
    · exact lw_Ri (fun f1 f2 => lo_68 xs f1 f2 h (hw.trans (by decide)))
theorem lw_op29 (xs : Nat → Int32) (h : xs 0 &&& 31 = 29) : lw_R xs := by
  exact lw_Ri (fun f1 f2 => lo_72 xs f1 f2 h )
theorem lw_op30 (xs : Nat → Int32) (h : xs 0 &&& 31 = 30) : lw_R xs := by
  exact lw_Ri (fun f1 f2 => lo_73 xs f1 f2 h )
theorem lw_op31 (xs : Nat → Int32) (h : xs 0 &&& 31 = 31) : lw_R xs := by
  exact lw_Ri (fun f1 f2 => lo_74 xs f1 f2 h )
theorem lw_all (xs : Nat → Int32) : lw_R xs := by
  obtain ⟨j, hj, h⟩ := i_31 (xs 0)
  have hj2 : j = 0 ∨ j = 1 ∨ j = 2 ∨ j = 3 ∨ j = 4 ∨ j = 5 ∨ j = 6 ∨ j = 7 ∨ j = 8 ∨ j = 9 ∨ j = 10 ∨ j = 11 ∨ j = 12 ∨ j = 13 ∨ j = 14 ∨ j = 15 ∨ j = 16 ∨ j = 17 ∨ j = 18 ∨ j = 19 ∨ j = 20 ∨ j = 21 ∨ j = 22 ∨ j = 23 ∨ j = 24 ∨ j = 25 ∨ j = 26 ∨ j = 27 ∨ j = 28 ∨ j = 29 ∨ j = 30 ∨ j = 31 := by omega
  rcases hj2 with rfl | rfl | rfl | rfl | rfl | rfl | rfl | rfl | rfl | rfl | rfl | rfl | rfl | rfl | rfl | rfl | rfl | rfl | rfl | rfl | rfl | rfl | rfl | rfl | rfl | rfl | rfl | rfl | rfl | rfl | rfl | rfl
  · exact lw_op0 xs (h.trans (by decide))
  · exact lw_op1 xs (h.trans (by decide))
  · exact lw_op2 xs (h.trans (by decide))
  · exact lw_op3 xs (h.trans (by decide))
  · exact lw_op4 xs (h.trans (by decide))
  · exact lw_op5 xs (h.trans (by decide))
  · exact lw_op6 xs (h.trans (by decide))
  · exact lw_op7 xs (h.trans (by decide))
  · exact lw_op8 xs (h.trans (by decide))
  · exact lw_op9 xs (h.trans (by decide))
  · exact lw_op10 xs (h.trans (by decide))
  · exact lw_op11 xs (h.trans (by decide))
  · exact lw_op12 xs (h.trans (by decide))
  · exact lw_op13 xs (h.trans (by decide))
  · exact lw_op14 xs (h.trans (by decide))
  · exact lw_op15 xs (h.trans (by decide))
  · exact lw_op16 xs (h.trans (by decide))
  · exact lw_op17 xs (h.trans (by decide))
  · exact lw_op18 xs (h.trans (by decide))
  · exact lw_op19 xs (h.trans (by decide))
  · exact lw_op20 xs (h.trans (by decide))
  · exact lw_op21 xs (h.trans (by decide))
  · exact lw_op22 xs (h.trans (by decide))
  · exact lw_op23 xs (h.trans (by decide))
  · exact lw_op24 xs (h.trans (by decide))
  · exact lw_op25 xs (h.trans (by decide))
  · exact lw_op26 xs (h.trans (by decide))
  · exact lw_op27 xs (h.trans (by decide))
  · exact lw_op28 xs (h.trans (by decide))
  · exact lw_op29 xs (h.trans (by decide))
  · exact lw_op30 xs (h.trans (by decide))
  · exact lw_op31 xs (h.trans (by decide))
/-- every script of at most 9 ints: our run of the law -/
theorem lw_run (L : Nat) (hL : L ≤ 9) (xs : Nat → Int32) : ∃ (tt : Bool) (M : dm_Mem), dm_run ev_E (cdL L xs (tl_sem tt false 582) (tl_sem tt true 694)) 2000000 (0, [(0, .float 0)], []) [] = some (some (.int 1), M) ∧ dm_bd M = true := by
  by_cases h : L = 9
  · subst h
    obtain ⟨tt, M, h1, h2⟩ := lw_all xs
    exact ⟨tt, M, lw_sw xs _ _ h1, h2⟩
  · exact ⟨false, ev_3, lw_few L (by omega) xs _ _, ev_b.2.2⟩
