/-! the law's locals, its calls of height and owns -/
theorem lw_get1 {i k : Nat} {v w : Value} (hk : k ≠ i) (hw : w.category = 1) : ∀ lv : dm_Lv, dm_lget lv k = some w → dm_lget (lv.filter (fun q => !(q.1 == i) && !(q.1 + 1 == i && q.2.category == 2))) k = some w := by
  intro lv
  induction lv with
  | nil => intro h; cases h
  | cons q r ih =>
    intro h
    unfold dm_lget at h
    by_cases e : q.1 = k
    · have hb : Nat.beq q.1 k = true := by rw [e]; exact Nat.beq_refl k
      rw [hb] at h
      have h2 : q.2 = w := Option.some.inj h
      have hkeep : (!(q.1 == i) && !(q.1 + 1 == i && q.2.category == 2)) = true := by
        rw [h2, hw, e]
        simp [hk]
      rw [List.filter_cons, if_pos hkeep]
      unfold dm_lget
      rw [hb]
      exact h
    · have hb : Nat.beq q.1 k = false := by
        cases hq : Nat.beq q.1 k with
        | false => rfl
        | true => exact absurd (Nat.eq_of_beq_eq_true hq) e
      rw [hb] at h
      have h3 := ih h
      rw [List.filter_cons]
      split
      · unfold dm_lget
        rw [hb]
        exact h3
      · exact h3
theorem lw_get {i k : Nat} {v w : Value} {lv : dm_Lv} (hk : k ≠ i) (hw : w.category = 1) (h : dm_lget lv k = some w) : dm_lget (dm_set1 lv i v) k = some w := by
  unfold dm_set1 dm_lget
  have hb : Nat.beq i k = false := by
    cases hq : Nat.beq i k with
    | false => rfl
    | true => exact absurd (Nat.eq_of_beq_eq_true hq).symm hk
  rw [hb]
  exact lw_get1 (v := v) hk hw lv h
theorem lw_gets {i : Nat} {v : Value} {lv : dm_Lv} : dm_lget (dm_set1 lv i v) i = some v := by
  unfold dm_set1 dm_lget
  rw [show Nat.beq i i = true from Nat.beq_refl i]
  rfl
theorem lw_V5 {i : Int32} {lv : dm_Lv} {k : Nat} {v : Value} (hk : 4 < k) (h : lw_V i lv) : lw_V i (dm_set1 lv k v) := by
  obtain ⟨h0, h1, h2, h3, h4⟩ := h
  exact ⟨lw_get (by omega) rfl h0, lw_get (by omega) rfl h1, lw_get (by omega) rfl h2, lw_get (by omega) rfl h3, lw_get (by omega) rfl h4⟩
theorem lw_V4 {i j : Int32} {lv : dm_Lv} (h : lw_V i lv) : lw_V j (dm_set1 lv 4 (.int j)) := by
  obtain ⟨h0, h1, h2, h3, h4⟩ := h
  exact ⟨lw_get (by omega) rfl h0, lw_get (by omega) rfl h1, lw_get (by omega) rfl h2, lw_get (by omega) rfl h3, lw_gets⟩
theorem lw_inc {n : Nat} {i d : Int32} {lv : dm_Lv} {st : List Value} {M : dm_Mem} (h : lw_V i lv) : dm_iinc n 4 d lv st M = some (.inl ((n, dm_set1 lv 4 (.int (i + d)), st), M)) := by
  unfold dm_iinc
  rw [h.2.2.2.2]
theorem lw_Last {d : Nat} {t : dm_Code} {pc n : Nat} {lv : dm_Lv} {r : List Value} {M : dm_Mem} {Q : Option Value → dm_Mem → Prop} {x : Int64} (hf : dm_fetch t pc = some (dm_last n)) (ho : lw_o M) (h : ∀ f, hG d t n lv r (M.set 116 (.inl (.long, 1, .inr (.inl f)))) Q) : hG d t pc lv (.long x :: .int 0 :: .ref 116 :: r) M Q := by
  obtain ⟨f, hM⟩ := ho
  refine hs (M' := M.set 116 (.inl (.long, 1, .inr (.inl (vp_updL f 0 x))))) (pc' := n) (lv' := lv) (st' := r) hf ?_ (h _)
  unfold dm_last
  simp only [hM]
  rfl
/-- the law's height, owns when nothing is thrown -/
theorem lw_LN {T : Int} {S C : Nat} {fl : Int32} {q : rS} {M : dm_Mem} (hL : LK T S C fl q M) (s : Int32) (w : Int64) (n : Int32) (o : Bool) (h : hT 8 (tl_mi o) [.ref 0, .int s, .long w, .int n] M (qI M)) : hG 8 (tl_cd o) 0 (lv_args 0 [.ref 0, .int s, .long w, .int n, .ref 116]) [] M (fun r M' => ∃ f, r = some (.int 0) ∧ M' = M.set 116 (.inl (.long, 1, .inr (.inl f)))) := by
  cases o
  · refine hs (f := dm_ald 2 5) rfl rfl ?_
    refine hs (f := dm_push 3 (.int 0)) rfl rfl ?_
    refine hs (f := dm_ald 4 0) rfl rfl ?_
    refine hs (f := dm_ild 5 1) rfl rfl ?_
    refine hs (f := dm_lld 6 2) rfl rfl ?_
    refine hs (f := dm_ild 8 4) rfl rfl ?_
    refine v_inv (n := 11) (mj := 108) (na := 3) (ci := 7) rfl rfl rfl (Nat.le_of_ble_eq_true rfl) hL.1 lw_7 (w_I (Nat.le_refl _) h (fun z => ?_))
    refine hs (f := dm_i1 12 (fun x => .long x.toInt64)) rfl rfl ?_
    refine lw_Last (n := 13) rfl hL.2.2.2.2 (fun f => ?_)
    refine hs (f := dm_goto 20) rfl rfl ?_
    refine hs (f := dm_push 21 (.int 0)) rfl rfl ?_
    exact hr (f := dm_ret .int) rfl rfl ⟨f, rfl, rfl⟩
  · have e : ∀ x lv, hG 8 cdLO 19 lv [.long x, .int 0, .ref 116] M (fun r M' => ∃ f, r = some (.int 0) ∧ M' = M.set 116 (.inl (.long, 1, .inr (.inl f)))) := fun x lv => by
      refine lw_Last (n := 20) rfl hL.2.2.2.2 (fun f => ?_)
      refine hs (f := dm_goto 27) rfl rfl ?_
      refine hs (f := dm_push 28 (.int 0)) rfl rfl ?_
      exact hr (f := dm_ret .int) rfl rfl ⟨f, rfl, rfl⟩
    refine hs (f := dm_ald 2 5) rfl rfl ?_
    refine hs (f := dm_push 3 (.int 0)) rfl rfl ?_
    refine hs (f := dm_ald 4 0) rfl rfl ?_
    refine hs (f := dm_ild 5 1) rfl rfl ?_
    refine hs (f := dm_lld 6 2) rfl rfl ?_
    refine hs (f := dm_ild 8 4) rfl rfl ?_
    refine v_inv (n := 11) (mj := 109) (na := 3) (ci := 7) rfl rfl rfl (Nat.le_of_ble_eq_true rfl) hL.1 lw_7 (w_I (Nat.le_refl _) h (fun z => ?_))
    refine h_if_eq (n := 14) (tt := 18) rfl (fun _ => ?_) (fun _ => ?_)
    · refine hs (f := dm_push 19 (.long 0)) rfl rfl ?_
      exact e _ _
    · refine hs (f := dm_push 15 (.long 1)) rfl rfl ?_
      refine hs (f := dm_goto 19) rfl rfl ?_
      exact e _ _
theorem lw_len {T : Int} {S C : Nat} {fl : Int32} {q : rS} {M : dm_Mem} (hL : LK T S C fl q M) : 117 ≤ M.length := by
  obtain ⟨Ls, g1, g2, g3, g4, g5, g6⟩ := hL.1
  exact g6
theorem lw_h {d : Nat} (hd : 8 ≤ d) {T : Int} {S C : Nat} {fl : Int32} {q : rS} {M : dm_Mem} (hL : LK T S C fl q M) (s : Int32) (w : Int64) (n : Int32) (o : Bool) (nx : Nat) (lv : dm_Lv) : ∃ k M', tl_sX d lw_G o nx lv [.ref 116, .int n, .long w, .int s, .ref 0] M = some (.inl ((nx, lv, [.int k]), M')) ∧ lw_G M M' := by
  have hlen := lw_len hL
  have hor : hT 8 (tl_mi o) [.ref 0, .int s, .long w, .int n] M (qI M) ∨ hG 7 (tx_mk (dm_cd (tl_mi o))) 0 (lv_args 0 [.ref 0, .int s, .long w, .int n]) [] M (fun r M' => r = some (.long 77) ∧ M' = M) := by
    cases o
    · exact h_108 hL.1 s w n
    · exact h_109 hL.1 s w n
  rcases hor with h | h
  · obtain ⟨N, m, r, M', e1, f, rfl, rfl⟩ := hG_mono hd (lw_LN hL s w n o h) (fun r M' h => h)
    have e2 := dm_run_mono (K' := dm_ex dm_tb dm_cd (max N m) d) (fun mj as M o h => dm_ex_mono (Nat.le_max_left _ _) _ _ _ _ _ _ (Nat.le_refl _) h) m (max N m) _ _ _ (Nat.le_max_right _ _) e1
    refine tl_sX_o (N := max N m) (k1 := 0) (st := [.ref 116, .int n, .long w, .int s, .ref 0]) (Or.inl ?_) (lw_G_set (f := f) (by omega) hL.2.2.2.2)
    unfold tl_sN
    simp only [List.map_nil, List.sum_nil, Nat.zero_le, if_true]
    rw [e2]
    rfl
  · obtain ⟨N, m, r, M', e1, rfl, e3⟩ := hG_mono (show 7 ≤ d by omega) h (fun r M' h => h)
    rw [e3] at e1
    have e2 := dm_run_mono (K' := dm_ex dm_tb dm_cd (max N m) d) (fun mj as M o h => dm_ex_mono (Nat.le_max_left _ _) _ _ _ _ _ _ (Nat.le_refl _) h) m (max N m) _ _ _ (Nat.le_max_right _ _) e1
    refine tl_sX_o (N := max N m) (k1 := 1) (st := [.ref 116, .int n, .long w, .int s, .ref 0]) (Or.inr ?_) (lw_G_app hlen)
    unfold tl_sT
    simp only [List.map_nil, List.sum_nil, Nat.zero_le, iv_isO hL.1 lw_7, and_self, if_true]
    rw [e2]
    rfl
