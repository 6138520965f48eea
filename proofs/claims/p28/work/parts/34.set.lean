/-! a row that is laid anew -/
def xI (w : Nat → Int64) (N f t : Int) (G : Prop) (x : Nat → Int64) (n P : Int) : Prop :=
  (∀ i : Int, 0 ≤ i → i + 1 < n → rB x i < rB x (i + 1)) ∧ (0 < n → rB x 0 = 0) ∧ (∀ i : Int, 0 ≤ i → i < n → rB x i < P ∧ (rB x i = f ∨ rB x i = t ∨ ∃ k : Int, 0 ≤ k ∧ k < N ∧ rB x i = rB w k ∧ (G ∨ ¬ (f < rB w k ∧ rB w k < t))))
theorem xI_up {w : Nat → Int64} {N f t : Int} {G : Prop} {x : Nat → Int64} {n P P' : Int} (h : xI w N f t G x n P) (hP : P ≤ P') : xI w N f t G x n P' := ⟨h.1, h.2.1, fun i i0 i1 => ⟨by have := (h.2.2 i i0 i1).1; omega, (h.2.2 i i0 i1).2⟩⟩
theorem xI_nil {w : Nat → Int64} {N f t : Int} {G : Prop} {x : Nat → Int64} {P : Int} : xI w N f t G x 0 P := ⟨fun i i0 i1 => by omega, fun h => by omega, fun i i0 i1 => by omega⟩
theorem xI_lay {w : Nat → Int64} {N f t : Int} {G : Prop} {x : Nat → Int64} {n P P' : Int} {m : Nat} {p : Int64} (h : xI w N f t G x n P) (hm : n = m) (hP : P ≤ p.toInt) (hP' : p.toInt < P') (h0 : n = 0 → p.toInt = 0) (ha : p.toInt = f ∨ p.toInt = t ∨ ∃ k : Int, 0 ≤ k ∧ k < N ∧ p.toInt = rB w k ∧ (G ∨ ¬ (f < rB w k ∧ rB w k < t))) : xI w N f t G (vp_updL x m p) (n + 1) P' := by
  obtain ⟨h1, h2, h3⟩ := h
  refine ⟨fun i i0 i1 => ?_, fun _ => ?_, fun i i0 i1 => ?_⟩
  · rw [rB_upd i0, rB_upd (by omega)]
    by_cases e : i + 1 = m
    · rw [if_pos e, if_neg (by omega)]
      have := (h3 i i0 (by omega)).1
      omega
    · rw [if_neg e, if_neg (by omega)]
      exact h1 i i0 (by omega)
  · rw [rB_upd (by omega)]
    by_cases e : (0 : Int) = m
    · rw [if_pos e]
      exact h0 (by omega)
    · rw [if_neg e]
      exact h2 (by omega)
  · rw [rB_upd i0]
    by_cases e : i = m
    · rw [if_pos e]
      exact ⟨hP', ha⟩
    · rw [if_neg e]
      have := h3 i i0 (by omega)
      exact ⟨by omega, this.2⟩
theorem xI_wS {w : Nat → Int64} {N f t : Int} {G : Prop} {x y : Nat → Int64} {n : Int} (h : xI w N f t G x n 1152921504606846976) (hn : 1 ≤ n) (he : ∀ i : Int, 0 ≤ i → i < n → y i.toNat = x i.toNat) : wS y n := by
  have he2 : ∀ i : Int, 0 ≤ i → i < n → rB y i = rB x i := fun i i0 i1 => by unfold rB; rw [he i i0 i1]
  refine ⟨hn, ?_, fun i i0 i1 => ?_, fun i i0 i1 => ?_⟩
  · rw [he2 0 (by omega) (by omega)]
    exact h.2.1 (by omega)
  · rw [he2 i i0 (by omega), he2 (i + 1) (by omega) i1]
    exact h.1 i i0 i1
  · rw [he2 i i0 i1]
    exact (h.2.2 i i0 i1).1
theorem rA_last {a : Nat → Int32} {n : Int} {m : Nat} {x : Int32} (hm : n = m) : rA (upd a m x) (n + 1 - 1) = x.toInt := by
  rw [rA_upd (by omega), if_pos (by omega)]
theorem r_146 {X : dm_Mem} {q : rS} {M : dm_Mem} (hM : Rm X q M) (f s : Int64) (hS : wS (q.2.2.2 92) (q.1 29).toInt) (hn : (q.1 29).toInt ≤ 24000) (hf : 0 ≤ f.toInt) (hs0 : 0 < s.toInt) (hfs : f.toInt + s.toInt ≤ 1152921504606846976) : hT 2 146 [.ref 68, .long f, .long s] M (fun r M' => ∃ v : Int32, r = some (.int v) ∧ M' = M) := by
  have hn0 := hS.1
  have h00 := hS.2.1
  have j10 : ∀ (nn : Nat), ∀ (k u : Int32) (M : dm_Mem), Rm X q M → (0 ≤ k.toInt) → (k.toInt ≤ (q.1 29).toInt) → ((q.1 29).toInt - k.toInt).toNat = nn → hG 1 cd_146 10 [(6, .int k), (5, .int u), (0, .ref 68), (1, .long f), (3, .long s)] [] M (fun r M' => ∃ v : Int32, r = some (.int v) ∧ M' = M) := by
    intro nn
    induction nn using Nat.strongRecOn with
    | ind nn IH =>
      intro k u M hM k0 k1 hms
      refine hs (f := dm_ild 12 6) rfl rfl ?_
      refine hs (f := dm_ald 13 0) rfl rfl ?_
      refine r_geti (q.1 29) rfl hM rfl rfl ?_
      refine g_ic_ge (n := 19) (tt := 65) rfl (fun h1 => ?_) (fun h1 => ?_)
      · skip
        have h1 : k.toInt ≥ (q.1 29).toInt := h1
        refine hs (f := dm_ild 67 5) rfl rfl ?_
        exact hr (f := dm_ret .int) rfl rfl (⟨_, rfl, rfl⟩)
      · skip
        have h1 : k.toInt < (q.1 29).toInt := h1
        refine hs (f := dm_ald 20 0) rfl rfl ?_
        refine r_geta (c := 89) rfl hM rfl ?_
        refine hs (f := dm_ild 25 6) rfl rfl ?_
        refine r_lald (L := 24000) (i := k) ((q.2.2.2 92) k.toInt.toNat) rfl hM rfl (by omega) rfl ?_
        generalize g3 : (q.2.2.2 92) k.toInt.toNat = v2
        have x4 : v2.toInt = rB (q.2.2.2 92) k.toInt := rB_of (i := k) g3 rfl
        refine hs (f := dm_lld 27 1) rfl rfl ?_
        refine hs (f := dm_lld 28 3) rfl rfl ?_
        have e5 : (f + s).toInt = f.toInt + s.toInt := by have w := j_add (x := f) (y := s) (by omega) (by omega); omega
        refine hs (f := dm_ll 29 (fun x y => x + y)) (st' := [.long (f + s), .long v2]) rfl rfl ?_
        refine g_lc_ge (x := v2) (y := (f + s)) (m := 30) (n := 33) (tt := 65) rfl rfl (fun h6 => ?_) (fun h6 => ?_)
        · skip
          have h6 : v2.toInt ≥ (f + s).toInt := h6
          refine hs (f := dm_ild 67 5) rfl rfl ?_
          exact hr (f := dm_ret .int) rfl rfl (⟨_, rfl, rfl⟩)
        · skip
          have h6 : v2.toInt < (f + s).toInt := h6
          refine hs (f := dm_ald 34 0) rfl rfl ?_
          refine r_geta (c := 90) rfl hM rfl ?_
          refine hs (f := dm_ild 39 6) rfl rfl ?_
          refine r_iald (L := 24000) (i := k) ((q.2.2.1 93) k.toInt.toNat) rfl hM rfl (by omega) rfl ?_
          generalize g8 : (q.2.2.1 93) k.toInt.toNat = v7
          have x9 : v7.toInt = rA (q.2.2.1 93) k.toInt := rA_of (i := k) g8 rfl
          refine hs (f := dm_ild 42 5) rfl rfl ?_
          refine g_ic_le (n := 45) (tt := 55) rfl (fun h10 => ?_) (fun h10 => ?_)
          · skip
            have h10 : v7.toInt ≤ u.toInt := h10
            refine hs (f := dm_ild 57 5) rfl rfl ?_
            refine hs (f := dm_ist 59 5) (lv' := [(5, .int u), (6, .int k), (0, .ref 68), (1, .long f), (3, .long s)]) rfl rfl ?_
            have e11 : (k + 1).toInt = k.toInt + 1 := by have w := i_addc (x := k) (y := 1) 1 rfl (by omega) (by omega); omega
            refine hs (f := dm_iinc 62 6 1) (lv' := [(6, .int (k + 1)), (5, .int u), (0, .ref 68), (1, .long f), (3, .long s)]) rfl rfl ?_
            refine hs (f := dm_goto 10) rfl rfl ?_
            exact (IH _ (by omega)) (k + 1) u _ hM (by omega) (by omega) rfl
          · skip
            have h10 : v7.toInt > u.toInt := h10
            refine hs (f := dm_ald 46 0) rfl rfl ?_
            refine r_geta (c := 90) rfl hM rfl ?_
            refine hs (f := dm_ild 51 6) rfl rfl ?_
            refine r_iald (L := 24000) (i := k) ((q.2.2.1 93) k.toInt.toNat) rfl hM rfl (by omega) rfl ?_
            generalize g13 : (q.2.2.1 93) k.toInt.toNat = v12
            have x14 : v12.toInt = rA (q.2.2.1 93) k.toInt := rA_of (i := k) g13 rfl
            refine hs (f := dm_goto 57) rfl rfl ?_
            refine hs (f := dm_ist 59 5) (lv' := [(5, .int v12), (6, .int k), (0, .ref 68), (1, .long f), (3, .long s)]) rfl rfl ?_
            have e15 : (k + 1).toInt = k.toInt + 1 := by have w := i_addc (x := k) (y := 1) 1 rfl (by omega) (by omega); omega
            refine hs (f := dm_iinc 62 6 1) (lv' := [(6, .int (k + 1)), (5, .int v12), (0, .ref 68), (1, .long f), (3, .long s)]) rfl rfl ?_
            refine hs (f := dm_goto 10) rfl rfl ?_
            exact (IH _ (by omega)) (k + 1) v12 _ hM (by omega) (by omega) rfl
  refine hx (t := cd_146) rfl (Nat.le_of_ble_eq_true rfl) (lv := [(0, .ref 68), (1, .long f), (3, .long s)]) rfl ?_
  refine hs (f := dm_push 1 (.int 0)) rfl rfl ?_
  refine hs (f := dm_ist 3 5) (lv' := [(5, .int 0), (0, .ref 68), (1, .long f), (3, .long s)]) rfl rfl ?_
  refine hs (f := dm_ald 4 0) rfl rfl ?_
  refine hs (f := dm_lld 5 1) rfl rfl ?_
  refine r_inv rfl hM rfl (as := [.ref 68, .long f]) rfl (Nat.le_of_ble_eq_true rfl) (hT_mono (by decide) (r_143 hM f ⟨hn0, hn⟩ (by omega)) (fun r1 M17 w => ?_))
  obtain ⟨u16, rfl, rfl, u160, u161, u162, u163⟩ := w
  refine hs (f := dm_ist 10 6) (lv' := [(6, .int u16), (5, .int 0), (0, .ref 68), (1, .long f), (3, .long s)]) rfl rfl ?_
  exact (j10 _) u16 (0 : Int32) _ hM (by omega) (by omega) rfl
theorem r_147 {X : dm_Mem} {q : rS} {M : dm_Mem} (hM : Rm X q M) (f s : Int64) (hS : wS (q.2.2.2 92) (q.1 29).toInt) (hn : (q.1 29).toInt ≤ 24000) (hf : 0 ≤ f.toInt) (hs0 : 0 < s.toInt) (hfs : f.toInt + s.toInt ≤ 1152921504606846976) : hT 2 147 [.ref 68, .long f, .long s] M (fun r M' => r = some (.int (leastF (q.2.2.2 92) (q.2.2.1 93) (q.1 29).toInt f.toInt s.toInt)) ∧ M' = M) := by
  have hn0 := hS.1
  have h00 := hS.2.1
  have j11 : ∀ (nn : Nat), ∀ (k u : Int32) (M : dm_Mem), Rm X q M → (0 ≤ k.toInt) → (k.toInt ≤ (q.1 29).toInt) → (lF (q.2.2.2 92) (q.2.2.1 93) (q.1 29).toInt (f.toInt + s.toInt) ((q.1 29).toInt - k.toInt).toNat k.toInt u = leastF (q.2.2.2 92) (q.2.2.1 93) (q.1 29).toInt f.toInt s.toInt) → ((q.1 29).toInt - k.toInt).toNat = nn → hG 1 cd_147 11 [(6, .int k), (5, .int u), (0, .ref 68), (1, .long f), (3, .long s)] [] M (fun r M' => r = some (.int (leastF (q.2.2.2 92) (q.2.2.1 93) (q.1 29).toInt f.toInt s.toInt)) ∧ M' = M) := by
    intro nn
    induction nn using Nat.strongRecOn with
    | ind nn IH =>
      intro k u M hM k0 k1 hk hms
      refine hs (f := dm_ild 13 6) rfl rfl ?_
      refine hs (f := dm_ald 14 0) rfl rfl ?_
      refine r_geti (q.1 29) rfl hM rfl rfl ?_
      refine g_ic_ge (n := 20) (tt := 66) rfl (fun h1 => ?_) (fun h1 => ?_)
      · skip
        have h1 : k.toInt ≥ (q.1 29).toInt := h1
        refine hs (f := dm_ild 68 5) rfl rfl ?_
        exact hr (f := dm_ret .int) rfl rfl (⟨by rw [← hk, lF_end (by omega)], rfl⟩)
      · skip
        have h1 : k.toInt < (q.1 29).toInt := h1
        refine hs (f := dm_ald 21 0) rfl rfl ?_
        refine r_geta (c := 89) rfl hM rfl ?_
        refine hs (f := dm_ild 26 6) rfl rfl ?_
        refine r_lald (L := 24000) (i := k) ((q.2.2.2 92) k.toInt.toNat) rfl hM rfl (by omega) rfl ?_
        generalize g3 : (q.2.2.2 92) k.toInt.toNat = v2
        have x4 : v2.toInt = rB (q.2.2.2 92) k.toInt := rB_of (i := k) g3 rfl
        refine hs (f := dm_lld 28 1) rfl rfl ?_
        refine hs (f := dm_lld 29 3) rfl rfl ?_
        have e5 : (f + s).toInt = f.toInt + s.toInt := by have w := j_add (x := f) (y := s) (by omega) (by omega); omega
        refine hs (f := dm_ll 30 (fun x y => x + y)) (st' := [.long (f + s), .long v2]) rfl rfl ?_
        refine g_lc_ge (x := v2) (y := (f + s)) (m := 31) (n := 34) (tt := 66) rfl rfl (fun h6 => ?_) (fun h6 => ?_)
        · skip
          have h6 : v2.toInt ≥ (f + s).toInt := h6
          refine hs (f := dm_ild 68 5) rfl rfl ?_
          exact hr (f := dm_ret .int) rfl rfl (⟨by rw [← hk, lF_end (by omega)], rfl⟩)
        · skip
          have h6 : v2.toInt < (f + s).toInt := h6
          refine hs (f := dm_ald 35 0) rfl rfl ?_
          refine r_geta (c := 90) rfl hM rfl ?_
          refine hs (f := dm_ild 40 6) rfl rfl ?_
          refine r_iald (L := 24000) (i := k) ((q.2.2.1 93) k.toInt.toNat) rfl hM rfl (by omega) rfl ?_
          generalize g8 : (q.2.2.1 93) k.toInt.toNat = v7
          have x9 : v7.toInt = rA (q.2.2.1 93) k.toInt := rA_of (i := k) g8 rfl
          refine hs (f := dm_ild 43 5) rfl rfl ?_
          refine g_ic_ge (n := 46) (tt := 56) rfl (fun h10 => ?_) (fun h10 => ?_)
          · skip
            have h10 : v7.toInt ≥ u.toInt := h10
            refine hs (f := dm_ild 58 5) rfl rfl ?_
            refine hs (f := dm_ist 60 5) (lv' := [(5, .int u), (6, .int k), (0, .ref 68), (1, .long f), (3, .long s)]) rfl rfl ?_
            have e11 : (k + 1).toInt = k.toInt + 1 := by have w := i_addc (x := k) (y := 1) 1 rfl (by omega) (by omega); omega
            refine hs (f := dm_iinc 63 6 1) (lv' := [(6, .int (k + 1)), (5, .int u), (0, .ref 68), (1, .long f), (3, .long s)]) rfl rfl ?_
            refine hs (f := dm_goto 11) rfl rfl ?_
            exact (IH _ (by omega)) (k + 1) u _ hM (by omega) (by omega) (by have hk2 := hk; rw [lF_go (by omega) (by omega), if_neg (by rw [g8]; omega)] at hk2; rw [e11]; exact hk2) rfl
          · skip
            have h10 : v7.toInt < u.toInt := h10
            refine hs (f := dm_ald 47 0) rfl rfl ?_
            refine r_geta (c := 90) rfl hM rfl ?_
            refine hs (f := dm_ild 52 6) rfl rfl ?_
            refine r_iald (L := 24000) (i := k) ((q.2.2.1 93) k.toInt.toNat) rfl hM rfl (by omega) rfl ?_
            generalize g13 : (q.2.2.1 93) k.toInt.toNat = v12
            have x14 : v12.toInt = rA (q.2.2.1 93) k.toInt := rA_of (i := k) g13 rfl
            refine hs (f := dm_goto 58) rfl rfl ?_
            refine hs (f := dm_ist 60 5) (lv' := [(5, .int v12), (6, .int k), (0, .ref 68), (1, .long f), (3, .long s)]) rfl rfl ?_
            have e15 : (k + 1).toInt = k.toInt + 1 := by have w := i_addc (x := k) (y := 1) 1 rfl (by omega) (by omega); omega
            refine hs (f := dm_iinc 63 6 1) (lv' := [(6, .int (k + 1)), (5, .int v12), (0, .ref 68), (1, .long f), (3, .long s)]) rfl rfl ?_
            refine hs (f := dm_goto 11) rfl rfl ?_
            exact (IH _ (by omega)) (k + 1) v12 _ hM (by omega) (by omega) (by have hk2 := hk; rw [lF_go (by omega) (by omega), if_pos (by rw [g8]; omega), g13] at hk2; rw [e15]; exact hk2) rfl
  refine hx (t := cd_147) rfl (Nat.le_of_ble_eq_true rfl) (lv := [(0, .ref 68), (1, .long f), (3, .long s)]) rfl ?_
  refine hs (f := dm_push 2 (.int 2147483647)) rfl rfl ?_
  refine hs (f := dm_ist 4 5) (lv' := [(5, .int 2147483647), (0, .ref 68), (1, .long f), (3, .long s)]) rfl rfl ?_
  refine hs (f := dm_ald 5 0) rfl rfl ?_
  refine hs (f := dm_lld 6 1) rfl rfl ?_
  refine r_inv rfl hM rfl (as := [.ref 68, .long f]) rfl (Nat.le_of_ble_eq_true rfl) (hT_mono (by decide) (r_143 hM f ⟨hn0, hn⟩ (by omega)) (fun r1 M17 w => ?_))
  obtain ⟨u16, rfl, rfl, u160, u161, u162, u163⟩ := w
  refine hs (f := dm_ist 11 6) (lv' := [(6, .int u16), (5, .int 2147483647), (0, .ref 68), (1, .long f), (3, .long s)]) rfl rfl ?_
  exact (j11 _) u16 (2147483647 : Int32) _ hM (by omega) (by omega) (by unfold leastF; rw [aF_eq hS ⟨u160, u161, u162, u163⟩]) rfl
theorem r_148 {X : dm_Mem} {q : rS} {M : dm_Mem} (hM : Rm X q M) (n : Int32) (p : Int64) (v : Int32) (n0 : 0 ≤ n.toInt) (n1 : n.toInt < 24000) : hT 1 148 [.ref 68, .int n, .long p, .int v] M (fun r M' => (M' = M ∧ r = some (.int n) ∧ 0 < n.toInt ∧ rA (q.2.2.1 95) (n.toInt - 1) = v.toInt) ∨ (r = some (.int (n + 1)) ∧ (0 < n.toInt → ¬ rA (q.2.2.1 95) (n.toInt - 1) = v.toInt) ∧ Rm X (sA (sB q 94 (vp_updL (q.2.2.2 94) n.toInt.toNat p)) 95 (upd (q.2.2.1 95) n.toInt.toNat v)) M')) := by
  refine hx (t := cd_148) rfl (Nat.le_of_ble_eq_true rfl) (lv := [(0, .ref 68), (1, .int n), (2, .long p), (4, .int v)]) rfl ?_
  refine hs (f := dm_ild 1 1) rfl rfl ?_
  refine g_if_le (n := 4) (tt := 19) rfl (fun h1 => ?_) (fun h1 => ?_)
  · skip
    have h1 : n.toInt ≤ 0 := h1
    refine hs (f := dm_ald 20 0) rfl rfl ?_
    refine r_geta (c := 91) rfl hM rfl ?_
    refine hs (f := dm_ild 24 1) rfl rfl ?_
    refine hs (f := dm_lld 25 2) rfl rfl ?_
    refine r_last (L := 24000) (i := n) (x := p) (q.2.2.2 94) rfl hM rfl (by omega) rfl (fun M2 hM2 => ?_)
    replace hM2 := rm_to (q' := (sB q 94 (vp_updL (q.2.2.2 94) n.toInt.toNat p))) hM2 (show sB q 94 (vp_updL (q.2.2.2 94) n.toInt.toNat p) = (sB q 94 (vp_updL (q.2.2.2 94) n.toInt.toNat p)) from (show sB q 94 (vp_updL (q.2.2.2 94) n.toInt.toNat p) = (sB q 94 (vp_updL (q.2.2.2 94) n.toInt.toNat p)) from rfl))
    refine hs (f := dm_ald 27 0) rfl rfl ?_
    refine r_geta (c := 92) rfl hM2 rfl ?_
    refine hs (f := dm_ild 31 1) rfl rfl ?_
    refine hs (f := dm_ild 33 4) rfl rfl ?_
    refine r_iast (L := 24000) (i := n) (x := v) (q.2.2.1 95) rfl hM2 rfl (by omega) rfl (fun M3 hM3 => ?_)
    replace hM3 := rm_to (q' := (sA (sB q 94 (vp_updL (q.2.2.2 94) n.toInt.toNat p)) 95 (upd (q.2.2.1 95) n.toInt.toNat v))) hM3 (show sA (sB q 94 (vp_updL (q.2.2.2 94) n.toInt.toNat p)) 95 (upd (q.2.2.1 95) n.toInt.toNat v) = (sA (sB q 94 (vp_updL (q.2.2.2 94) n.toInt.toNat p)) 95 (upd (q.2.2.1 95) n.toInt.toNat v)) from (show sA (sB q 94 (vp_updL (q.2.2.2 94) n.toInt.toNat p)) 95 (upd (q.2.2.1 95) n.toInt.toNat v) = (sA (sB q 94 (vp_updL (q.2.2.2 94) n.toInt.toNat p)) 95 (upd (q.2.2.1 95) n.toInt.toNat v)) from rfl))
    refine hs (f := dm_ild 35 1) rfl rfl ?_
    refine hs (f := dm_push 36 (.int 1)) rfl rfl ?_
    have e4 : (n + (1 : Int32)).toInt = n.toInt + 1 := by have w := i_addc (x := n) (y := (1 : Int32)) 1 rfl (by omega) (by omega); omega
    refine hs (f := dm_ii 37 (fun x y => x + y)) (st' := [.int (n + (1 : Int32))]) rfl rfl ?_
    exact hr (f := dm_ret .int) rfl rfl (Or.inr ⟨rfl, fun _ => by first | omega | (exfalso; omega), hM3⟩)
  · skip
    have h1 : n.toInt > 0 := h1
    refine hs (f := dm_ald 5 0) rfl rfl ?_
    refine r_geta (c := 92) rfl hM rfl ?_
    refine hs (f := dm_ild 9 1) rfl rfl ?_
    refine hs (f := dm_push 10 (.int 1)) rfl rfl ?_
    have e5 : (n - (1 : Int32)).toInt = n.toInt - 1 := by have w := i_subc (x := n) (y := (1 : Int32)) 1 rfl (by omega) (by omega); omega
    refine hs (f := dm_ii 11 (fun x y => x - y)) (st' := [.int (n - (1 : Int32)), .ref 95]) rfl rfl ?_
    refine r_iald (L := 24000) (i := (n - (1 : Int32))) ((q.2.2.1 95) (n - (1 : Int32)).toInt.toNat) rfl hM rfl (by omega) rfl ?_
    generalize g7 : (q.2.2.1 95) (n - (1 : Int32)).toInt.toNat = v6
    have x8 : v6.toInt = rA (q.2.2.1 95) (n.toInt - 1) := rA_of (i := (n - (1 : Int32))) g7 e5
    refine hs (f := dm_ild 14 4) rfl rfl ?_
    refine g_ic_ne (n := 17) (tt := 19) rfl (fun h9 => ?_) (fun h9 => ?_)
    · skip
      have h9 : ¬ v6.toInt = v.toInt := h9
      refine hs (f := dm_ald 20 0) rfl rfl ?_
      refine r_geta (c := 91) rfl hM rfl ?_
      refine hs (f := dm_ild 24 1) rfl rfl ?_
      refine hs (f := dm_lld 25 2) rfl rfl ?_
      refine r_last (L := 24000) (i := n) (x := p) (q.2.2.2 94) rfl hM rfl (by omega) rfl (fun M10 hM10 => ?_)
      replace hM10 := rm_to (q' := (sB q 94 (vp_updL (q.2.2.2 94) n.toInt.toNat p))) hM10 (show sB q 94 (vp_updL (q.2.2.2 94) n.toInt.toNat p) = (sB q 94 (vp_updL (q.2.2.2 94) n.toInt.toNat p)) from (show sB q 94 (vp_updL (q.2.2.2 94) n.toInt.toNat p) = (sB q 94 (vp_updL (q.2.2.2 94) n.toInt.toNat p)) from rfl))
      refine hs (f := dm_ald 27 0) rfl rfl ?_
      refine r_geta (c := 92) rfl hM10 rfl ?_
      refine hs (f := dm_ild 31 1) rfl rfl ?_
      refine hs (f := dm_ild 33 4) rfl rfl ?_
      refine r_iast (L := 24000) (i := n) (x := v) (q.2.2.1 95) rfl hM10 rfl (by omega) rfl (fun M11 hM11 => ?_)
      replace hM11 := rm_to (q' := (sA (sB q 94 (vp_updL (q.2.2.2 94) n.toInt.toNat p)) 95 (upd (q.2.2.1 95) n.toInt.toNat v))) hM11 (show sA (sB q 94 (vp_updL (q.2.2.2 94) n.toInt.toNat p)) 95 (upd (q.2.2.1 95) n.toInt.toNat v) = (sA (sB q 94 (vp_updL (q.2.2.2 94) n.toInt.toNat p)) 95 (upd (q.2.2.1 95) n.toInt.toNat v)) from (show sA (sB q 94 (vp_updL (q.2.2.2 94) n.toInt.toNat p)) 95 (upd (q.2.2.1 95) n.toInt.toNat v) = (sA (sB q 94 (vp_updL (q.2.2.2 94) n.toInt.toNat p)) 95 (upd (q.2.2.1 95) n.toInt.toNat v)) from rfl))
      refine hs (f := dm_ild 35 1) rfl rfl ?_
      refine hs (f := dm_push 36 (.int 1)) rfl rfl ?_
      have e12 : (n + (1 : Int32)).toInt = n.toInt + 1 := by have w := i_addc (x := n) (y := (1 : Int32)) 1 rfl (by omega) (by omega); omega
      refine hs (f := dm_ii 37 (fun x y => x + y)) (st' := [.int (n + (1 : Int32))]) rfl rfl ?_
      exact hr (f := dm_ret .int) rfl rfl (Or.inr ⟨rfl, fun _ => by first | omega | (exfalso; omega), hM11⟩)
    · skip
      have h9 : v6.toInt = v.toInt := h9
      refine hs (f := dm_ild 18 1) rfl rfl ?_
      exact hr (f := dm_ret .int) rfl rfl (Or.inl ⟨rfl, rfl, by omega, by omega⟩)
theorem r_149 {X : dm_Mem} {q : rS} {M : dm_Mem} (hM : Rm X q M) (n : Int32) (n0 : 0 ≤ n.toInt) (n1 : n.toInt ≤ 24000) : hT 1 149 [.ref 68, .int n] M (fun r M' => r = none ∧ ∃ (b1 : Nat → Int64) (b2 : Nat → Int32), (∀ i : Int, 0 ≤ i → i < n.toInt → b1 i.toNat = q.2.2.2 94 i.toNat ∧ b2 i.toNat = q.2.2.1 95 i.toNat) ∧ Rm X (sA (sB (sF q 29 n) 92 b1) 93 b2) M') := by
  have j2 : ∀ (nn : Nat), ∀ (k : Int32) (b1 : Nat → Int64) (b2 : Nat → Int32) (M : dm_Mem), Rm X (sA (sB q 92 b1) 93 b2) M → (0 ≤ k.toInt) → (k.toInt ≤ n.toInt) → (∀ i : Int, 0 ≤ i → i < k.toInt → b1 i.toNat = q.2.2.2 94 i.toNat ∧ b2 i.toNat = q.2.2.1 95 i.toNat) → (n.toInt - k.toInt).toNat = nn → hG 0 cd_149 2 [(2, .int k), (0, .ref 68), (1, .int n)] [] M (fun r M' => r = none ∧ ∃ (b1 : Nat → Int64) (b2 : Nat → Int32), (∀ i : Int, 0 ≤ i → i < n.toInt → b1 i.toNat = q.2.2.2 94 i.toNat ∧ b2 i.toNat = q.2.2.1 95 i.toNat) ∧ Rm X (sA (sB (sF q 29 n) 92 b1) 93 b2) M') := by
    intro nn
    induction nn using Nat.strongRecOn with
    | ind nn IH =>
      intro k b1 b2 M hM k0 k1 hc hms
      refine hs (f := dm_ild 3 2) rfl rfl ?_
      refine hs (f := dm_ild 4 1) rfl rfl ?_
      refine g_ic_ge (n := 7) (tt := 37) rfl (fun h1 => ?_) (fun h1 => ?_)
      · skip
        have h1 : k.toInt ≥ n.toInt := h1
        refine hs (f := dm_ald 38 0) rfl rfl ?_
        refine hs (f := dm_ild 39 1) rfl rfl ?_
        refine r_puti rfl hM rfl (fun M2 hM2 => ?_)
        replace hM2 := rm_to (q' := (sA (sB (sF q 29 n) 92 b1) 93 b2)) hM2 (show sF (sA (sB q 92 b1) 93 b2) 29 n = (sA (sB (sF q 29 n) 92 b1) 93 b2) from (congrArg (fun z => (sA (sB z 92 b1) 93 b2)) (show sF q 29 n = (sF q 29 n) from rfl)))
        exact hr (f := dm_vret) rfl rfl (⟨rfl, b1, b2, fun i i0 i1 => hc i i0 (by omega), hM2⟩)
      · skip
        have h1 : k.toInt < n.toInt := h1
        refine hs (f := dm_ald 8 0) rfl rfl ?_
        refine r_geta (c := 89) rfl hM rfl ?_
        refine hs (f := dm_ild 12 2) rfl rfl ?_
        refine hs (f := dm_ald 13 0) rfl rfl ?_
        refine r_geta (c := 91) rfl hM rfl ?_
        refine hs (f := dm_ild 17 2) rfl rfl ?_
        refine r_lald (L := 24000) (i := k) ((q.2.2.2 94) k.toInt.toNat) rfl hM rfl (by omega) rfl ?_
        generalize g4 : (q.2.2.2 94) k.toInt.toNat = v3
        have x5 : v3.toInt = rB (q.2.2.2 94) k.toInt := rB_of (i := k) g4 rfl
        refine r_last (L := 24000) (i := k) (x := v3) b1 rfl hM rfl (by omega) rfl (fun M6 hM6 => ?_)
        replace hM6 := rm_to (q' := (sA (sB q 92 (vp_updL b1 k.toInt.toNat v3)) 93 b2)) hM6 (show sB (sA (sB q 92 b1) 93 b2) 92 (vp_updL b1 k.toInt.toNat v3) = (sA (sB q 92 (vp_updL b1 k.toInt.toNat v3)) 93 b2) from (congrArg (fun z => (sA z 93 b2)) (show sB (sB q 92 b1) 92 (vp_updL b1 k.toInt.toNat v3) = (sB q 92 (vp_updL b1 k.toInt.toNat v3)) from sB_sB)))
        refine hs (f := dm_ald 20 0) rfl rfl ?_
        refine r_geta (c := 90) rfl hM6 rfl ?_
        refine hs (f := dm_ild 24 2) rfl rfl ?_
        refine hs (f := dm_ald 25 0) rfl rfl ?_
        refine r_geta (c := 92) rfl hM6 rfl ?_
        refine hs (f := dm_ild 29 2) rfl rfl ?_
        refine r_iald (L := 24000) (i := k) ((q.2.2.1 95) k.toInt.toNat) rfl hM6 rfl (by omega) rfl ?_
        generalize g8 : (q.2.2.1 95) k.toInt.toNat = v7
        have x9 : v7.toInt = rA (q.2.2.1 95) k.toInt := rA_of (i := k) g8 rfl
        refine r_iast (L := 24000) (i := k) (x := v7) b2 rfl hM6 rfl (by omega) rfl (fun M10 hM10 => ?_)
        replace hM10 := rm_to (q' := (sA (sB q 92 (vp_updL b1 k.toInt.toNat v3)) 93 (upd b2 k.toInt.toNat v7))) hM10 (show sA (sA (sB q 92 (vp_updL b1 k.toInt.toNat v3)) 93 b2) 93 (upd b2 k.toInt.toNat v7) = (sA (sB q 92 (vp_updL b1 k.toInt.toNat v3)) 93 (upd b2 k.toInt.toNat v7)) from (show sA (sA (sB q 92 (vp_updL b1 k.toInt.toNat v3)) 93 b2) 93 (upd b2 k.toInt.toNat v7) = (sA (sB q 92 (vp_updL b1 k.toInt.toNat v3)) 93 (upd b2 k.toInt.toNat v7)) from sA_sA))
        have e11 : (k + 1).toInt = k.toInt + 1 := by have w := i_addc (x := k) (y := 1) 1 rfl (by omega) (by omega); omega
        refine hs (f := dm_iinc 34 2 1) (lv' := [(2, .int (k + 1)), (0, .ref 68), (1, .int n)]) rfl rfl ?_
        refine hs (f := dm_goto 2) rfl rfl ?_
        refine (IH _ (by omega)) (k + 1) (vp_updL b1 k.toInt.toNat v3) (upd b2 k.toInt.toNat v7) _ hM10 (by omega) (by omega) ?_ rfl
        intro i i0 i1
        by_cases ik : i = k.toInt
        · subst ik
          refine ⟨?_, ?_⟩
          · unfold vp_updL
            rw [if_pos rfl, ← g4]
          · unfold upd
            rw [if_pos rfl, ← g8]
        · have hz := hc i i0 (by omega)
          refine ⟨?_, ?_⟩
          · unfold vp_updL
            rw [if_neg (by omega)]
            exact hz.1
          · unfold upd
            rw [if_neg (by omega)]
            exact hz.2
  refine hx (t := cd_149) rfl (Nat.le_of_ble_eq_true rfl) (lv := [(0, .ref 68), (1, .int n)]) rfl ?_
  refine hs (f := dm_push 1 (.int 0)) rfl rfl ?_
  refine hs (f := dm_ist 2 2) (lv' := [(2, .int 0), (0, .ref 68), (1, .int n)]) rfl rfl ?_
  replace hM := rm_to (q' := (sB q 92 (q.2.2.2 92))) hM (Eq.trans (sB_id (q := q) (k := 92) (v := (q.2.2.2 92)) rfl) (show sB q 92 (q.2.2.2 92) = (sB q 92 (q.2.2.2 92)) from (show sB q 92 (q.2.2.2 92) = (sB q 92 (q.2.2.2 92)) from rfl)))
  replace hM := rm_to (q' := (sA (sB q 92 (q.2.2.2 92)) 93 (q.2.2.1 93))) hM (Eq.trans (sA_id (q := (sB q 92 (q.2.2.2 92))) (k := 93) (v := (q.2.2.1 93)) rfl) (show sA (sB q 92 (q.2.2.2 92)) 93 (q.2.2.1 93) = (sA (sB q 92 (q.2.2.2 92)) 93 (q.2.2.1 93)) from (show sA (sB q 92 (q.2.2.2 92)) 93 (q.2.2.1 93) = (sA (sB q 92 (q.2.2.2 92)) 93 (q.2.2.1 93)) from rfl)))
  exact (j2 _) 0 (q.2.2.2 92) (q.2.2.1 93) _ hM (by decide) (by show (0 : Int) ≤ _; omega) (fun i i0 i1 => absurd i1 (by show ¬ i < (0 : Int); omega)) rfl
set_option maxHeartbeats 8000000 in
theorem r_150 {X : dm_Mem} {q : rS} {M : dm_Mem} (hM : Rm X q M) (f s : Int64) (v ad : Int32) (hS : wS (q.2.2.2 92) (q.1 29).toInt) (hn : (q.1 29).toInt ≤ 22000) (hf : 0 ≤ f.toInt) (hs0 : 0 < s.toInt) (hfs : f.toInt + s.toInt ≤ 1152921504606846976) : hT 2 150 [.ref 68, .long f, .long s, .int v, .int ad] M (fun r M' => r = none ∧ ∃ (n : Int32) (b92 b94 : Nat → Int64) (b93 b95 : Nat → Int32), wS b92 n.toInt ∧ n.toInt ≤ (q.1 29).toInt + 2 ∧ (∀ i : Int, 0 ≤ i → i < n.toInt → rB b92 i = f.toInt ∨ rB b92 i = f.toInt + s.toInt ∨ ∃ k : Int, 0 ≤ k ∧ k < (q.1 29).toInt ∧ rB b92 i = rB (q.2.2.2 92) k ∧ (¬ ad.toInt = 0 ∨ ¬ (f.toInt < rB (q.2.2.2 92) k ∧ rB (q.2.2.2 92) k < f.toInt + s.toInt))) ∧ Rm X (sA (sA (sB (sB (sF q 29 n) 92 b92) 94 b94) 93 b93) 95 b95) M') := by
  have hn0 := hS.1
  have h00 := hS.2.1
  refine hx (t := cd_150) rfl (Nat.le_of_ble_eq_true rfl) (lv := [(0, .ref 68), (1, .long f), (3, .long s), (5, .int v), (6, .int ad)]) rfl ?_
  refine hs (f := dm_push 1 (.int 0)) rfl rfl ?_
  refine hs (f := dm_ist 3 7) (lv' := [(7, .int 0), (0, .ref 68), (1, .long f), (3, .long s), (5, .int v), (6, .int ad)]) rfl rfl ?_
  refine hs (f := dm_lld 4 1) rfl rfl ?_
  refine hs (f := dm_lld 5 3) rfl rfl ?_
  have e1 : (f + s).toInt = f.toInt + s.toInt := by have w := j_add (x := f) (y := s) (by omega) (by omega); omega
  refine hs (f := dm_ll 6 (fun x y => x + y)) (st' := [.long (f + s)]) rfl rfl ?_
  refine hs (f := dm_lst 8 8) (lv' := [(8, .long (f + s)), (7, .int 0), (0, .ref 68), (1, .long f), (3, .long s), (5, .int v), (6, .int ad)]) rfl rfl ?_
  generalize g2 : f + s = t at e1 ⊢
  have ht : t.toInt = f.toInt + s.toInt := by omega
  have j11 : ∀ (nn : Nat), (∀ (k n : Int32) (e : Int64) (b94 : Nat → Int64) (b95 : Nat → Int32) (M : dm_Mem), Rm X (sA (sB q 94 b94) 95 b95) M → (0 ≤ k.toInt) → (k.toInt ≤ (q.1 29).toInt) → (0 ≤ n.toInt) → (n.toInt ≤ k.toInt + 2) → ((if k.toInt < (q.1 29).toInt then rB (q.2.2.2 92) k.toInt else 1152921504606846976) ≤ t.toInt → n.toInt ≤ k.toInt + 1) → ((if k.toInt < (q.1 29).toInt then rB (q.2.2.2 92) k.toInt else 1152921504606846976) ≤ f.toInt → n.toInt ≤ k.toInt) → (0 < k.toInt → 1 ≤ n.toInt) → (ad.toInt = 0 → f.toInt < (if k.toInt < (q.1 29).toInt then rB (q.2.2.2 92) k.toInt else 1152921504606846976) → (if k.toInt < (q.1 29).toInt then rB (q.2.2.2 92) k.toInt else 1152921504606846976) < t.toInt → rA b95 (n.toInt - 1) = v.toInt) → (xI (q.2.2.2 92) (q.1 29).toInt f.toInt t.toInt (¬ ad.toInt = 0) b94 n.toInt (if k.toInt < (q.1 29).toInt then rB (q.2.2.2 92) k.toInt else 1152921504606846976)) → ((q.1 29).toInt - k.toInt).toNat = nn → hG 1 cd_150 11 [(10, .int k), (8, .long t), (7, .int n), (0, .ref 68), (1, .long f), (3, .long s), (5, .int v), (6, .int ad)] [] M (fun r M' => r = none ∧ ∃ (n : Int32) (b92 b94 : Nat → Int64) (b93 b95 : Nat → Int32), wS b92 n.toInt ∧ n.toInt ≤ (q.1 29).toInt + 2 ∧ (∀ i : Int, 0 ≤ i → i < n.toInt → rB b92 i = f.toInt ∨ rB b92 i = f.toInt + s.toInt ∨ ∃ k : Int, 0 ≤ k ∧ k < (q.1 29).toInt ∧ rB b92 i = rB (q.2.2.2 92) k ∧ (¬ ad.toInt = 0 ∨ ¬ (f.toInt < rB (q.2.2.2 92) k ∧ rB (q.2.2.2 92) k < f.toInt + s.toInt))) ∧ Rm X (sA (sA (sB (sB (sF q 29 n) 92 b92) 94 b94) 93 b93) 95 b95) M')) ∧ (∀ (k n : Int32) (e : Int64) (b94 : Nat → Int64) (b95 : Nat → Int32) (M : dm_Mem), Rm X (sA (sB q 94 b94) 95 b95) M → (0 ≤ k.toInt) → (k.toInt ≤ (q.1 29).toInt) → (0 ≤ n.toInt) → (n.toInt ≤ k.toInt + 2) → ((if k.toInt < (q.1 29).toInt then rB (q.2.2.2 92) k.toInt else 1152921504606846976) ≤ t.toInt → n.toInt ≤ k.toInt + 1) → ((if k.toInt < (q.1 29).toInt then rB (q.2.2.2 92) k.toInt else 1152921504606846976) ≤ f.toInt → n.toInt ≤ k.toInt) → (0 < k.toInt → 1 ≤ n.toInt) → (ad.toInt = 0 → f.toInt < (if k.toInt < (q.1 29).toInt then rB (q.2.2.2 92) k.toInt else 1152921504606846976) → (if k.toInt < (q.1 29).toInt then rB (q.2.2.2 92) k.toInt else 1152921504606846976) < t.toInt → rA b95 (n.toInt - 1) = v.toInt) → (xI (q.2.2.2 92) (q.1 29).toInt f.toInt t.toInt (¬ ad.toInt = 0) b94 n.toInt (if k.toInt < (q.1 29).toInt then rB (q.2.2.2 92) k.toInt else 1152921504606846976)) → ((q.1 29).toInt - k.toInt).toNat = nn → hG 1 cd_150 11 [(10, .int k), (7, .int n), (11, .long e), (8, .long t), (0, .ref 68), (1, .long f), (3, .long s), (5, .int v), (6, .int ad)] [] M (fun r M' => r = none ∧ ∃ (n : Int32) (b92 b94 : Nat → Int64) (b93 b95 : Nat → Int32), wS b92 n.toInt ∧ n.toInt ≤ (q.1 29).toInt + 2 ∧ (∀ i : Int, 0 ≤ i → i < n.toInt → rB b92 i = f.toInt ∨ rB b92 i = f.toInt + s.toInt ∨ ∃ k : Int, 0 ≤ k ∧ k < (q.1 29).toInt ∧ rB b92 i = rB (q.2.2.2 92) k ∧ (¬ ad.toInt = 0 ∨ ¬ (f.toInt < rB (q.2.2.2 92) k ∧ rB (q.2.2.2 92) k < f.toInt + s.toInt))) ∧ Rm X (sA (sA (sB (sB (sF q 29 n) 92 b92) 94 b94) 93 b93) 95 b95) M')) := by
    intro nn
    induction nn using Nat.strongRecOn with
    | ind nn IH =>
      refine ⟨?_, ?_⟩
      · skip
        intro k n e b94 b95 M hM k0 k1 m0 m2 m3 m4 m1 hv hx hms
        refine hs (f := dm_ild 13 10) rfl rfl ?_
        refine hs (f := dm_ald 14 0) rfl rfl ?_
        refine r_geti (q.1 29) rfl hM rfl rfl ?_
        refine g_ic_ge (n := 20) (tt := 187) rfl (fun h3 => ?_) (fun h3 => ?_)
        · skip
          have h3 : k.toInt ≥ (q.1 29).toInt := h3
          refine hs (f := dm_ald 188 0) rfl rfl ?_
          refine hs (f := dm_ild 190 7) rfl rfl ?_
          rw [if_neg (show ¬ k.toInt < (q.1 29).toInt by omega)] at hx
          refine r_inv rfl hM rfl (as := [.ref 68, .int n]) rfl (Nat.le_of_ble_eq_true rfl) (hT_mono (by decide) (r_149 hM n (by omega) (by omega)) (fun r1 M4 w => ?_))
          obtain ⟨rfl, b1, b2, hb, hM4⟩ := w
          replace hM4 := rm_to (q' := (sA (sA (sB (sB (sF q 29 n) 92 b1) 94 b94) 93 b2) 95 b95)) hM4 (Eq.trans (congrArg (fun z => sA z 93 b2) (Eq.trans (congrArg (fun z => sB z 92 b1) (show sF (sA (sB q 94 b94) 95 b95) 29 n = (sA (sB (sF q 29 n) 94 b94) 95 b95) from (congrArg (fun z => (sA (sB z 94 b94) 95 b95)) (show sF q 29 n = (sF q 29 n) from rfl)))) (show sB (sA (sB (sF q 29 n) 94 b94) 95 b95) 92 b1 = (sA (sB (sB (sF q 29 n) 92 b1) 94 b94) 95 b95) from (congrArg (fun z => (sA z 95 b95)) (show sB (sB (sF q 29 n) 94 b94) 92 b1 = (sB (sB (sF q 29 n) 92 b1) 94 b94) from Eq.trans (show sB (sB (sF q 29 n) 94 b94) 92 b1 = sB (sB (sF q 29 n) 92 b1) 94 b94 from sB_cm (by decide)) (congrArg (fun z => sB z 94 b94) (show sB (sF q 29 n) 92 b1 = (sB (sF q 29 n) 92 b1) from rfl))))))) (show sA (sA (sB (sB (sF q 29 n) 92 b1) 94 b94) 95 b95) 93 b2 = (sA (sA (sB (sB (sF q 29 n) 92 b1) 94 b94) 93 b2) 95 b95) from (show sA (sA (sB (sB (sF q 29 n) 92 b1) 94 b94) 95 b95) 93 b2 = (sA (sA (sB (sB (sF q 29 n) 92 b1) 94 b94) 93 b2) 95 b95) from Eq.trans (show sA (sA (sB (sB (sF q 29 n) 92 b1) 94 b94) 95 b95) 93 b2 = sA (sA (sB (sB (sF q 29 n) 92 b1) 94 b94) 93 b2) 95 b95 from sA_cm (by decide)) (congrArg (fun z => sA z 95 b95) (show sA (sB (sB (sF q 29 n) 92 b1) 94 b94) 93 b2 = (sA (sB (sB (sF q 29 n) 92 b1) 94 b94) 93 b2) from rfl)))))
          exact hr (f := dm_vret) rfl rfl (⟨rfl, n, b1, b94, b2, b95, xI_wS hx (by omega) (fun i i0 i1 => (hb i i0 i1).1), by omega, fun i i0 i1 => by
                  have z := (hx.2.2 i i0 i1).2
                  have z2 : rB b1 i = rB b94 i := by unfold rB; rw [(hb i i0 i1).1]; rfl
                  rw [z2, ← ht]; exact z, hM4⟩)
        · skip
          have h3 : k.toInt < (q.1 29).toInt := h3
          refine hs (f := dm_ald 21 0) rfl rfl ?_
          refine hs (f := dm_ild 23 10) rfl rfl ?_
          refine r_inv rfl hM rfl (as := [.ref 68, .int k]) rfl (Nat.le_of_ble_eq_true rfl) (hT_mono (by decide) (r_144 hM k (show 1 ≤ (q.1 29).toInt ∧ (q.1 29).toInt ≤ 24000 from ⟨hn0, by omega⟩) (by omega) (show k.toInt < (q.1 29).toInt by omega)) (fun r1 M6 w => ?_))
          obtain ⟨u5, rfl, rfl, u50, u51⟩ := w
          have u50 : k.toInt + 1 < (q.1 29).toInt → u5.toInt = rB (q.2.2.2 92) (k.toInt + 1) := u50
          have u51 : ¬ k.toInt + 1 < (q.1 29).toInt → u5.toInt = 1152921504606846976 := u51
          rw [if_pos (show k.toInt < (q.1 29).toInt by omega)] at m3 m4 hv hx
          have wkk : rB (q.2.2.2 92) k.toInt < u5.toInt := by
            by_cases q1 : k.toInt + 1 < (q.1 29).toInt
            · rw [u50 q1]; exact hS.2.2.1 k.toInt k0 q1
            · rw [u51 q1]; exact hS.2.2.2 k.toInt k0 (by omega)
          have wk0 := wS_nn hS k0 (show k.toInt < (q.1 29).toInt by omega)
          have wkz : k.toInt = 0 → rB (q.2.2.2 92) k.toInt = 0 := fun q1 => by rw [q1]; exact h00
          have wky : 0 < k.toInt → 0 < rB (q.2.2.2 92) k.toInt := fun q1 => by have := wS_lt2 hS (show (0 : Int) ≤ 0 by omega) q1 (by omega); omega
          have hE1 : (if k.toInt + 1 < (q.1 29).toInt then rB (q.2.2.2 92) (k.toInt + 1) else 1152921504606846976) = u5.toInt := by
            split
            · rename_i q1; exact (u50 q1).symm
            · rename_i q1; exact (u51 q1).symm
          have wka : ∃ i : Int, 0 ≤ i ∧ i < (q.1 29).toInt ∧ rB (q.2.2.2 92) k.toInt = rB (q.2.2.2 92) i := ⟨k.toInt, k0, by omega, rfl⟩
          refine hs (f := dm_lst 28 11) (lv' := [(11, .long u5), (10, .int k), (8, .long t), (7, .int n), (0, .ref 68), (1, .long f), (3, .long s), (5, .int v), (6, .int ad)]) rfl rfl ?_
          have j181 : ∀ (n : Int32) (b94 : Nat → Int64) (b95 : Nat → Int32) (M : dm_Mem), Rm X (sA (sB q 94 b94) 95 b95) M → (1 ≤ n.toInt) → (n.toInt ≤ k.toInt + 3) → (u5.toInt ≤ t.toInt → n.toInt ≤ k.toInt + 2) → (u5.toInt ≤ f.toInt → n.toInt ≤ k.toInt + 1) → (ad.toInt = 0 → f.toInt < u5.toInt → u5.toInt < t.toInt → rA b95 (n.toInt - 1) = v.toInt) → (xI (q.2.2.2 92) (q.1 29).toInt f.toInt t.toInt (¬ ad.toInt = 0) b94 n.toInt u5.toInt) → hG 1 cd_150 181 [(7, .int n), (11, .long u5), (10, .int k), (8, .long t), (0, .ref 68), (1, .long f), (3, .long s), (5, .int v), (6, .int ad)] [] M (fun r M' => r = none ∧ ∃ (n : Int32) (b92 b94 : Nat → Int64) (b93 b95 : Nat → Int32), wS b92 n.toInt ∧ n.toInt ≤ (q.1 29).toInt + 2 ∧ (∀ i : Int, 0 ≤ i → i < n.toInt → rB b92 i = f.toInt ∨ rB b92 i = f.toInt + s.toInt ∨ ∃ k : Int, 0 ≤ k ∧ k < (q.1 29).toInt ∧ rB b92 i = rB (q.2.2.2 92) k ∧ (¬ ad.toInt = 0 ∨ ¬ (f.toInt < rB (q.2.2.2 92) k ∧ rB (q.2.2.2 92) k < f.toInt + s.toInt))) ∧ Rm X (sA (sA (sB (sB (sF q 29 n) 92 b92) 94 b94) 93 b93) 95 b95) M') := by
            intro n b94 b95 M hM m0 m2 m3 m4 hv hx
            have e7 : (k + 1).toInt = k.toInt + 1 := by have w := i_addc (x := k) (y := 1) 1 rfl (by omega) (by omega); omega
            refine hs (f := dm_iinc 184 10 1) (lv' := [(10, .int (k + 1)), (7, .int n), (11, .long u5), (8, .long t), (0, .ref 68), (1, .long f), (3, .long s), (5, .int v), (6, .int ad)]) rfl rfl ?_
            refine hs (f := dm_goto 11) rfl rfl ?_
            exact (IH _ (by omega)).2 (k + 1) n u5 b94 b95 _ hM (by omega) (by omega) (by omega) (by omega) (by rw [e7, hE1]; omega) (by rw [e7, hE1]; omega) (by omega) (by rw [e7, hE1]; exact hv) (by rw [e7, hE1]; exact xI_up hx (by omega)) rfl
          have j133n : (∀ (n : Int32) (b94 : Nat → Int64) (b95 : Nat → Int32) (M : dm_Mem), Rm X (sA (sB q 94 b94) 95 b95) M → (1 ≤ n.toInt) → (n.toInt ≤ k.toInt + 2) → (u5.toInt ≤ f.toInt → n.toInt ≤ k.toInt + 1) → (t.toInt ≤ rB (q.2.2.2 92) k.toInt) → (ad.toInt = 0 → f.toInt < u5.toInt → rB (q.2.2.2 92) k.toInt < t.toInt → rA b95 (n.toInt - 1) = v.toInt) → (xI (q.2.2.2 92) (q.1 29).toInt f.toInt t.toInt (¬ ad.toInt = 0) b94 n.toInt (if u5.toInt ≤ t.toInt then u5.toInt else if rB (q.2.2.2 92) k.toInt < t.toInt then t.toInt else rB (q.2.2.2 92) k.toInt)) → hG 1 cd_150 133 [(11, .long u5), (10, .int k), (8, .long t), (7, .int n), (0, .ref 68), (1, .long f), (3, .long s), (5, .int v), (6, .int ad)] [] M (fun r M' => r = none ∧ ∃ (n : Int32) (b92 b94 : Nat → Int64) (b93 b95 : Nat → Int32), wS b92 n.toInt ∧ n.toInt ≤ (q.1 29).toInt + 2 ∧ (∀ i : Int, 0 ≤ i → i < n.toInt → rB b92 i = f.toInt ∨ rB b92 i = f.toInt + s.toInt ∨ ∃ k : Int, 0 ≤ k ∧ k < (q.1 29).toInt ∧ rB b92 i = rB (q.2.2.2 92) k ∧ (¬ ad.toInt = 0 ∨ ¬ (f.toInt < rB (q.2.2.2 92) k ∧ rB (q.2.2.2 92) k < f.toInt + s.toInt))) ∧ Rm X (sA (sA (sB (sB (sF q 29 n) 92 b92) 94 b94) 93 b93) 95 b95) M')) ∧ (∀ (n : Int32) (b94 : Nat → Int64) (b95 : Nat → Int32) (M : dm_Mem), Rm X (sA (sB q 94 b94) 95 b95) M → (1 ≤ n.toInt) → (n.toInt ≤ k.toInt + 2) → (u5.toInt ≤ f.toInt → n.toInt ≤ k.toInt + 1) → (t.toInt ≤ rB (q.2.2.2 92) k.toInt) → (ad.toInt = 0 → f.toInt < u5.toInt → rB (q.2.2.2 92) k.toInt < t.toInt → rA b95 (n.toInt - 1) = v.toInt) → (xI (q.2.2.2 92) (q.1 29).toInt f.toInt t.toInt (¬ ad.toInt = 0) b94 n.toInt (if u5.toInt ≤ t.toInt then u5.toInt else if rB (q.2.2.2 92) k.toInt < t.toInt then t.toInt else rB (q.2.2.2 92) k.toInt)) → hG 1 cd_150 133 [(11, .long u5), (10, .int k), (7, .int n), (8, .long t), (0, .ref 68), (1, .long f), (3, .long s), (5, .int v), (6, .int ad)] [] M (fun r M' => r = none ∧ ∃ (n : Int32) (b92 b94 : Nat → Int64) (b93 b95 : Nat → Int32), wS b92 n.toInt ∧ n.toInt ≤ (q.1 29).toInt + 2 ∧ (∀ i : Int, 0 ≤ i → i < n.toInt → rB b92 i = f.toInt ∨ rB b92 i = f.toInt + s.toInt ∨ ∃ k : Int, 0 ≤ k ∧ k < (q.1 29).toInt ∧ rB b92 i = rB (q.2.2.2 92) k ∧ (¬ ad.toInt = 0 ∨ ¬ (f.toInt < rB (q.2.2.2 92) k ∧ rB (q.2.2.2 92) k < f.toInt + s.toInt))) ∧ Rm X (sA (sA (sB (sB (sF q 29 n) 92 b92) 94 b94) 93 b93) 95 b95) M')) := by
            refine ⟨?_, ?_⟩
            · skip
              intro n b94 b95 M hM m0 m2 m3 m5 hv hx
              refine hs (f := dm_lld 135 11) rfl rfl ?_
              refine hs (f := dm_lld 137 8) rfl rfl ?_
              refine g_lc_le (x := u5) (y := t) (m := 138) (n := 141) (tt := 181) rfl rfl (fun h8 => ?_) (fun h8 => ?_)
              · skip
                have h8 : u5.toInt ≤ t.toInt := h8
                exfalso
                omega
              · skip
                have h8 : u5.toInt > t.toInt := h8
                refine hs (f := dm_ald 142 0) rfl rfl ?_
                refine hs (f := dm_ild 144 7) rfl rfl ?_
                refine hs (f := dm_ald 145 0) rfl rfl ?_
                refine r_geta (c := 89) rfl hM rfl ?_
                refine hs (f := dm_ild 150 10) rfl rfl ?_
                refine r_lald (L := 24000) (i := k) ((q.2.2.2 92) k.toInt.toNat) rfl hM rfl (by omega) rfl ?_
                generalize g10 : (q.2.2.2 92) k.toInt.toNat = v9
                have x11 : v9.toInt = rB (q.2.2.2 92) k.toInt := rB_of (i := k) g10 rfl
                refine hs (f := dm_lld 153 8) rfl rfl ?_
                refine g_lc_ge (x := v9) (y := t) (m := 154) (n := 157) (tt := 162) rfl rfl (fun h12 => ?_) (fun h12 => ?_)
                · skip
                  have h12 : v9.toInt ≥ t.toInt := h12
                  refine hs (f := dm_ald 163 0) rfl rfl ?_
                  refine r_geta (c := 89) rfl hM rfl ?_
                  refine hs (f := dm_ild 168 10) rfl rfl ?_
                  refine r_lald (L := 24000) (i := k) ((q.2.2.2 92) k.toInt.toNat) rfl hM rfl (by omega) rfl ?_
                  generalize g14 : (q.2.2.2 92) k.toInt.toNat = v13
                  have x15 : v13.toInt = rB (q.2.2.2 92) k.toInt := rB_of (i := k) g14 rfl
                  refine hs (f := dm_ald 170 0) rfl rfl ?_
                  refine r_geta (c := 90) rfl hM rfl ?_
                  refine hs (f := dm_ild 175 10) rfl rfl ?_
                  refine r_iald (L := 24000) (i := k) ((q.2.2.1 93) k.toInt.toNat) rfl hM rfl (by omega) rfl ?_
                  generalize g17 : (q.2.2.1 93) k.toInt.toNat = v16
                  have x18 : v16.toInt = rA (q.2.2.1 93) k.toInt := rA_of (i := k) g17 rfl
                  refine r_inv rfl hM rfl (as := [.ref 68, .int n, .long v13, .int v16]) rfl (Nat.le_of_ble_eq_true rfl) (hT_mono (by decide) (r_148 hM n v13 v16 (by omega) (by omega)) (fun r1 M20 w => ?_))
                  rcases w with ⟨rfl, rfl, un, uv⟩ | ⟨rfl, uv, hM20⟩
                  · skip
                    have uv : rA b95 (n.toInt - 1) = v16.toInt := uv
                    have hx21 : xI (q.2.2.2 92) (q.1 29).toInt f.toInt t.toInt (¬ ad.toInt = 0) b94 n.toInt u5.toInt := xI_up hx (by first | omega | (repeat' split) <;> omega)
                    refine hs (f := dm_ist 181 7) (lv' := [(7, .int n), (11, .long u5), (10, .int k), (8, .long t), (0, .ref 68), (1, .long f), (3, .long s), (5, .int v), (6, .int ad)]) rfl rfl ?_
                    exact j181 n b94 b95 _ hM (by omega) (by omega) (by omega) (by omega) (fun z1 z2 z3 => by first | omega | (exfalso; omega)) hx21
                  · skip
                    have uv : 0 < n.toInt → ¬ rA b95 (n.toInt - 1) = v16.toInt := uv
                    replace hM20 := rm_to (q' := (sA (sB q 94 (vp_updL b94 n.toInt.toNat v13)) 95 (upd b95 n.toInt.toNat v16))) hM20 (Eq.trans (congrArg (fun z => sA z 95 (upd b95 n.toInt.toNat v16)) (show sB (sA (sB q 94 b94) 95 b95) 94 (vp_updL b94 n.toInt.toNat v13) = (sA (sB q 94 (vp_updL b94 n.toInt.toNat v13)) 95 b95) from (congrArg (fun z => (sA z 95 b95)) (show sB (sB q 94 b94) 94 (vp_updL b94 n.toInt.toNat v13) = (sB q 94 (vp_updL b94 n.toInt.toNat v13)) from sB_sB)))) (show sA (sA (sB q 94 (vp_updL b94 n.toInt.toNat v13)) 95 b95) 95 (upd b95 n.toInt.toNat v16) = (sA (sB q 94 (vp_updL b94 n.toInt.toNat v13)) 95 (upd b95 n.toInt.toNat v16)) from (show sA (sA (sB q 94 (vp_updL b94 n.toInt.toNat v13)) 95 b95) 95 (upd b95 n.toInt.toNat v16) = (sA (sB q 94 (vp_updL b94 n.toInt.toNat v13)) 95 (upd b95 n.toInt.toNat v16)) from sA_sA)))
                    have e22 : (n + 1).toInt = n.toInt + 1 := i_addc 1 rfl (by omega) (by omega)
                    have ul : rA (upd b95 n.toInt.toNat v16) ((n + 1).toInt - 1) = v16.toInt := by rw [e22]; exact rA_last (by omega)
                    have hx21 : xI (q.2.2.2 92) (q.1 29).toInt f.toInt t.toInt (¬ ad.toInt = 0) (vp_updL b94 n.toInt.toNat v13) (n + 1).toInt u5.toInt := by
                      rw [e22]
                      refine xI_lay hx (by omega) (by first | omega | (repeat' split) <;> omega) (by first | omega | (repeat' split) <;> omega) (by omega) ?_
                      obtain ⟨wi, wi0, wi1, wi2⟩ := wka
                      first
                      | exact Or.inl (by omega)
                      | exact Or.inr (Or.inl (by omega))
                      | exact Or.inr (Or.inr ⟨wi, wi0, wi1, by omega, Or.inr (by omega)⟩)
                      | exact Or.inr (Or.inr ⟨wi, wi0, wi1, by omega, Or.inl (by omega)⟩)
                      | (by_cases z1 : rB (q.2.2.2 92) k.toInt = f.toInt
                         · exact Or.inl (by omega)
                         · exact absurd (hv (by omega) (by omega) (by omega)) (uv (by omega)))
                    refine hs (f := dm_ist 181 7) (lv' := [(7, .int (n + 1)), (11, .long u5), (10, .int k), (8, .long t), (0, .ref 68), (1, .long f), (3, .long s), (5, .int v), (6, .int ad)]) rfl rfl ?_
                    exact j181 (n + 1) (vp_updL b94 n.toInt.toNat v13) (upd b95 n.toInt.toNat v16) _ hM20 (by omega) (by omega) (by omega) (by omega) (fun z1 z2 z3 => by first | exact ul | (exfalso; omega) | omega) hx21
                · skip
                  have h12 : v9.toInt < t.toInt := h12
                  refine hs (f := dm_lld 159 8) rfl rfl ?_
                  refine hs (f := dm_goto 169) rfl rfl ?_
                  refine hs (f := dm_ald 170 0) rfl rfl ?_
                  refine r_geta (c := 90) rfl hM rfl ?_
                  refine hs (f := dm_ild 175 10) rfl rfl ?_
                  refine r_iald (L := 24000) (i := k) ((q.2.2.1 93) k.toInt.toNat) rfl hM rfl (by omega) rfl ?_
                  generalize g24 : (q.2.2.1 93) k.toInt.toNat = v23
                  have x25 : v23.toInt = rA (q.2.2.1 93) k.toInt := rA_of (i := k) g24 rfl
                  refine r_inv rfl hM rfl (as := [.ref 68, .int n, .long t, .int v23]) rfl (Nat.le_of_ble_eq_true rfl) (hT_mono (by decide) (r_148 hM n t v23 (by omega) (by omega)) (fun r1 M27 w => ?_))
                  rcases w with ⟨rfl, rfl, un, uv⟩ | ⟨rfl, uv, hM27⟩
                  · skip
                    have uv : rA b95 (n.toInt - 1) = v23.toInt := uv
                    have hx28 : xI (q.2.2.2 92) (q.1 29).toInt f.toInt t.toInt (¬ ad.toInt = 0) b94 n.toInt u5.toInt := xI_up hx (by first | omega | (repeat' split) <;> omega)
                    refine hs (f := dm_ist 181 7) (lv' := [(7, .int n), (11, .long u5), (10, .int k), (8, .long t), (0, .ref 68), (1, .long f), (3, .long s), (5, .int v), (6, .int ad)]) rfl rfl ?_
                    exact j181 n b94 b95 _ hM (by omega) (by omega) (by omega) (by omega) (fun z1 z2 z3 => by first | omega | (exfalso; omega)) hx28
                  · skip
                    have uv : 0 < n.toInt → ¬ rA b95 (n.toInt - 1) = v23.toInt := uv
                    replace hM27 := rm_to (q' := (sA (sB q 94 (vp_updL b94 n.toInt.toNat t)) 95 (upd b95 n.toInt.toNat v23))) hM27 (Eq.trans (congrArg (fun z => sA z 95 (upd b95 n.toInt.toNat v23)) (show sB (sA (sB q 94 b94) 95 b95) 94 (vp_updL b94 n.toInt.toNat t) = (sA (sB q 94 (vp_updL b94 n.toInt.toNat t)) 95 b95) from (congrArg (fun z => (sA z 95 b95)) (show sB (sB q 94 b94) 94 (vp_updL b94 n.toInt.toNat t) = (sB q 94 (vp_updL b94 n.toInt.toNat t)) from sB_sB)))) (show sA (sA (sB q 94 (vp_updL b94 n.toInt.toNat t)) 95 b95) 95 (upd b95 n.toInt.toNat v23) = (sA (sB q 94 (vp_updL b94 n.toInt.toNat t)) 95 (upd b95 n.toInt.toNat v23)) from (show sA (sA (sB q 94 (vp_updL b94 n.toInt.toNat t)) 95 b95) 95 (upd b95 n.toInt.toNat v23) = (sA (sB q 94 (vp_updL b94 n.toInt.toNat t)) 95 (upd b95 n.toInt.toNat v23)) from sA_sA)))
                    have e29 : (n + 1).toInt = n.toInt + 1 := i_addc 1 rfl (by omega) (by omega)
                    have ul : rA (upd b95 n.toInt.toNat v23) ((n + 1).toInt - 1) = v23.toInt := by rw [e29]; exact rA_last (by omega)
                    have hx28 : xI (q.2.2.2 92) (q.1 29).toInt f.toInt t.toInt (¬ ad.toInt = 0) (vp_updL b94 n.toInt.toNat t) (n + 1).toInt u5.toInt := by
                      rw [e29]
                      refine xI_lay hx (by omega) (by first | omega | (repeat' split) <;> omega) (by first | omega | (repeat' split) <;> omega) (by omega) ?_
                      obtain ⟨wi, wi0, wi1, wi2⟩ := wka
                      first
                      | exact Or.inl (by omega)
                      | exact Or.inr (Or.inl (by omega))
                      | exact Or.inr (Or.inr ⟨wi, wi0, wi1, by omega, Or.inr (by omega)⟩)
                      | exact Or.inr (Or.inr ⟨wi, wi0, wi1, by omega, Or.inl (by omega)⟩)
                      | (by_cases z1 : rB (q.2.2.2 92) k.toInt = f.toInt
                         · exact Or.inl (by omega)
                         · exact absurd (hv (by omega) (by omega) (by omega)) (uv (by omega)))
                    refine hs (f := dm_ist 181 7) (lv' := [(7, .int (n + 1)), (11, .long u5), (10, .int k), (8, .long t), (0, .ref 68), (1, .long f), (3, .long s), (5, .int v), (6, .int ad)]) rfl rfl ?_
                    exact j181 (n + 1) (vp_updL b94 n.toInt.toNat t) (upd b95 n.toInt.toNat v23) _ hM27 (by omega) (by omega) (by omega) (by omega) (fun z1 z2 z3 => by first | exact ul | (exfalso; omega) | omega) hx28
            · skip
              intro n b94 b95 M hM m0 m2 m3 m5 hv hx
              refine hs (f := dm_lld 135 11) rfl rfl ?_
              refine hs (f := dm_lld 137 8) rfl rfl ?_
              refine g_lc_le (x := u5) (y := t) (m := 138) (n := 141) (tt := 181) rfl rfl (fun h30 => ?_) (fun h30 => ?_)
              · skip
                have h30 : u5.toInt ≤ t.toInt := h30
                exfalso
                omega
              · skip
                have h30 : u5.toInt > t.toInt := h30
                refine hs (f := dm_ald 142 0) rfl rfl ?_
                refine hs (f := dm_ild 144 7) rfl rfl ?_
                refine hs (f := dm_ald 145 0) rfl rfl ?_
                refine r_geta (c := 89) rfl hM rfl ?_
                refine hs (f := dm_ild 150 10) rfl rfl ?_
                refine r_lald (L := 24000) (i := k) ((q.2.2.2 92) k.toInt.toNat) rfl hM rfl (by omega) rfl ?_
                generalize g32 : (q.2.2.2 92) k.toInt.toNat = v31
                have x33 : v31.toInt = rB (q.2.2.2 92) k.toInt := rB_of (i := k) g32 rfl
                refine hs (f := dm_lld 153 8) rfl rfl ?_
                refine g_lc_ge (x := v31) (y := t) (m := 154) (n := 157) (tt := 162) rfl rfl (fun h34 => ?_) (fun h34 => ?_)
                · skip
                  have h34 : v31.toInt ≥ t.toInt := h34
                  refine hs (f := dm_ald 163 0) rfl rfl ?_
                  refine r_geta (c := 89) rfl hM rfl ?_
                  refine hs (f := dm_ild 168 10) rfl rfl ?_
                  refine r_lald (L := 24000) (i := k) ((q.2.2.2 92) k.toInt.toNat) rfl hM rfl (by omega) rfl ?_
                  generalize g36 : (q.2.2.2 92) k.toInt.toNat = v35
                  have x37 : v35.toInt = rB (q.2.2.2 92) k.toInt := rB_of (i := k) g36 rfl
                  refine hs (f := dm_ald 170 0) rfl rfl ?_
                  refine r_geta (c := 90) rfl hM rfl ?_
                  refine hs (f := dm_ild 175 10) rfl rfl ?_
                  refine r_iald (L := 24000) (i := k) ((q.2.2.1 93) k.toInt.toNat) rfl hM rfl (by omega) rfl ?_
                  generalize g39 : (q.2.2.1 93) k.toInt.toNat = v38
                  have x40 : v38.toInt = rA (q.2.2.1 93) k.toInt := rA_of (i := k) g39 rfl
                  refine r_inv rfl hM rfl (as := [.ref 68, .int n, .long v35, .int v38]) rfl (Nat.le_of_ble_eq_true rfl) (hT_mono (by decide) (r_148 hM n v35 v38 (by omega) (by omega)) (fun r1 M42 w => ?_))
                  rcases w with ⟨rfl, rfl, un, uv⟩ | ⟨rfl, uv, hM42⟩
                  · skip
                    have uv : rA b95 (n.toInt - 1) = v38.toInt := uv
                    have hx43 : xI (q.2.2.2 92) (q.1 29).toInt f.toInt t.toInt (¬ ad.toInt = 0) b94 n.toInt u5.toInt := xI_up hx (by first | omega | (repeat' split) <;> omega)
                    refine hs (f := dm_ist 181 7) (lv' := [(7, .int n), (11, .long u5), (10, .int k), (8, .long t), (0, .ref 68), (1, .long f), (3, .long s), (5, .int v), (6, .int ad)]) rfl rfl ?_
                    exact j181 n b94 b95 _ hM (by omega) (by omega) (by omega) (by omega) (fun z1 z2 z3 => by first | omega | (exfalso; omega)) hx43
                  · skip
                    have uv : 0 < n.toInt → ¬ rA b95 (n.toInt - 1) = v38.toInt := uv
                    replace hM42 := rm_to (q' := (sA (sB q 94 (vp_updL b94 n.toInt.toNat v35)) 95 (upd b95 n.toInt.toNat v38))) hM42 (Eq.trans (congrArg (fun z => sA z 95 (upd b95 n.toInt.toNat v38)) (show sB (sA (sB q 94 b94) 95 b95) 94 (vp_updL b94 n.toInt.toNat v35) = (sA (sB q 94 (vp_updL b94 n.toInt.toNat v35)) 95 b95) from (congrArg (fun z => (sA z 95 b95)) (show sB (sB q 94 b94) 94 (vp_updL b94 n.toInt.toNat v35) = (sB q 94 (vp_updL b94 n.toInt.toNat v35)) from sB_sB)))) (show sA (sA (sB q 94 (vp_updL b94 n.toInt.toNat v35)) 95 b95) 95 (upd b95 n.toInt.toNat v38) = (sA (sB q 94 (vp_updL b94 n.toInt.toNat v35)) 95 (upd b95 n.toInt.toNat v38)) from (show sA (sA (sB q 94 (vp_updL b94 n.toInt.toNat v35)) 95 b95) 95 (upd b95 n.toInt.toNat v38) = (sA (sB q 94 (vp_updL b94 n.toInt.toNat v35)) 95 (upd b95 n.toInt.toNat v38)) from sA_sA)))
                    have e44 : (n + 1).toInt = n.toInt + 1 := i_addc 1 rfl (by omega) (by omega)
                    have ul : rA (upd b95 n.toInt.toNat v38) ((n + 1).toInt - 1) = v38.toInt := by rw [e44]; exact rA_last (by omega)
                    have hx43 : xI (q.2.2.2 92) (q.1 29).toInt f.toInt t.toInt (¬ ad.toInt = 0) (vp_updL b94 n.toInt.toNat v35) (n + 1).toInt u5.toInt := by
                      rw [e44]
                      refine xI_lay hx (by omega) (by first | omega | (repeat' split) <;> omega) (by first | omega | (repeat' split) <;> omega) (by omega) ?_
                      obtain ⟨wi, wi0, wi1, wi2⟩ := wka
                      first
                      | exact Or.inl (by omega)
                      | exact Or.inr (Or.inl (by omega))
                      | exact Or.inr (Or.inr ⟨wi, wi0, wi1, by omega, Or.inr (by omega)⟩)
                      | exact Or.inr (Or.inr ⟨wi, wi0, wi1, by omega, Or.inl (by omega)⟩)
                      | (by_cases z1 : rB (q.2.2.2 92) k.toInt = f.toInt
                         · exact Or.inl (by omega)
                         · exact absurd (hv (by omega) (by omega) (by omega)) (uv (by omega)))
                    refine hs (f := dm_ist 181 7) (lv' := [(7, .int (n + 1)), (11, .long u5), (10, .int k), (8, .long t), (0, .ref 68), (1, .long f), (3, .long s), (5, .int v), (6, .int ad)]) rfl rfl ?_
                    exact j181 (n + 1) (vp_updL b94 n.toInt.toNat v35) (upd b95 n.toInt.toNat v38) _ hM42 (by omega) (by omega) (by omega) (by omega) (fun z1 z2 z3 => by first | exact ul | (exfalso; omega) | omega) hx43
                · skip
                  have h34 : v31.toInt < t.toInt := h34
                  refine hs (f := dm_lld 159 8) rfl rfl ?_
                  refine hs (f := dm_goto 169) rfl rfl ?_
                  refine hs (f := dm_ald 170 0) rfl rfl ?_
                  refine r_geta (c := 90) rfl hM rfl ?_
                  refine hs (f := dm_ild 175 10) rfl rfl ?_
                  refine r_iald (L := 24000) (i := k) ((q.2.2.1 93) k.toInt.toNat) rfl hM rfl (by omega) rfl ?_
                  generalize g46 : (q.2.2.1 93) k.toInt.toNat = v45
                  have x47 : v45.toInt = rA (q.2.2.1 93) k.toInt := rA_of (i := k) g46 rfl
                  refine r_inv rfl hM rfl (as := [.ref 68, .int n, .long t, .int v45]) rfl (Nat.le_of_ble_eq_true rfl) (hT_mono (by decide) (r_148 hM n t v45 (by omega) (by omega)) (fun r1 M49 w => ?_))
                  rcases w with ⟨rfl, rfl, un, uv⟩ | ⟨rfl, uv, hM49⟩
                  · skip
                    have uv : rA b95 (n.toInt - 1) = v45.toInt := uv
                    have hx50 : xI (q.2.2.2 92) (q.1 29).toInt f.toInt t.toInt (¬ ad.toInt = 0) b94 n.toInt u5.toInt := xI_up hx (by first | omega | (repeat' split) <;> omega)
                    refine hs (f := dm_ist 181 7) (lv' := [(7, .int n), (11, .long u5), (10, .int k), (8, .long t), (0, .ref 68), (1, .long f), (3, .long s), (5, .int v), (6, .int ad)]) rfl rfl ?_
                    exact j181 n b94 b95 _ hM (by omega) (by omega) (by omega) (by omega) (fun z1 z2 z3 => by first | omega | (exfalso; omega)) hx50
                  · skip
                    have uv : 0 < n.toInt → ¬ rA b95 (n.toInt - 1) = v45.toInt := uv
                    replace hM49 := rm_to (q' := (sA (sB q 94 (vp_updL b94 n.toInt.toNat t)) 95 (upd b95 n.toInt.toNat v45))) hM49 (Eq.trans (congrArg (fun z => sA z 95 (upd b95 n.toInt.toNat v45)) (show sB (sA (sB q 94 b94) 95 b95) 94 (vp_updL b94 n.toInt.toNat t) = (sA (sB q 94 (vp_updL b94 n.toInt.toNat t)) 95 b95) from (congrArg (fun z => (sA z 95 b95)) (show sB (sB q 94 b94) 94 (vp_updL b94 n.toInt.toNat t) = (sB q 94 (vp_updL b94 n.toInt.toNat t)) from sB_sB)))) (show sA (sA (sB q 94 (vp_updL b94 n.toInt.toNat t)) 95 b95) 95 (upd b95 n.toInt.toNat v45) = (sA (sB q 94 (vp_updL b94 n.toInt.toNat t)) 95 (upd b95 n.toInt.toNat v45)) from (show sA (sA (sB q 94 (vp_updL b94 n.toInt.toNat t)) 95 b95) 95 (upd b95 n.toInt.toNat v45) = (sA (sB q 94 (vp_updL b94 n.toInt.toNat t)) 95 (upd b95 n.toInt.toNat v45)) from sA_sA)))
                    have e51 : (n + 1).toInt = n.toInt + 1 := i_addc 1 rfl (by omega) (by omega)
                    have ul : rA (upd b95 n.toInt.toNat v45) ((n + 1).toInt - 1) = v45.toInt := by rw [e51]; exact rA_last (by omega)
                    have hx50 : xI (q.2.2.2 92) (q.1 29).toInt f.toInt t.toInt (¬ ad.toInt = 0) (vp_updL b94 n.toInt.toNat t) (n + 1).toInt u5.toInt := by
                      rw [e51]
                      refine xI_lay hx (by omega) (by first | omega | (repeat' split) <;> omega) (by first | omega | (repeat' split) <;> omega) (by omega) ?_
                      obtain ⟨wi, wi0, wi1, wi2⟩ := wka
                      first
                      | exact Or.inl (by omega)
                      | exact Or.inr (Or.inl (by omega))
                      | exact Or.inr (Or.inr ⟨wi, wi0, wi1, by omega, Or.inr (by omega)⟩)
                      | exact Or.inr (Or.inr ⟨wi, wi0, wi1, by omega, Or.inl (by omega)⟩)
                      | (by_cases z1 : rB (q.2.2.2 92) k.toInt = f.toInt
                         · exact Or.inl (by omega)
                         · exact absurd (hv (by omega) (by omega) (by omega)) (uv (by omega)))
                    refine hs (f := dm_ist 181 7) (lv' := [(7, .int (n + 1)), (11, .long u5), (10, .int k), (8, .long t), (0, .ref 68), (1, .long f), (3, .long s), (5, .int v), (6, .int ad)]) rfl rfl ?_
                    exact j181 (n + 1) (vp_updL b94 n.toInt.toNat t) (upd b95 n.toInt.toNat v45) _ hM49 (by omega) (by omega) (by omega) (by omega) (fun z1 z2 z3 => by first | exact ul | (exfalso; omega) | omega) hx50
          have j133s : ∀ (n : Int32) (b94 : Nat → Int64) (b95 : Nat → Int32) (M : dm_Mem), Rm X (sA (sB q 94 b94) 95 b95) M → (1 ≤ n.toInt) → (n.toInt ≤ k.toInt + 2) → (u5.toInt ≤ f.toInt → n.toInt ≤ k.toInt + 1) → (ad.toInt = 0 → f.toInt < u5.toInt → rB (q.2.2.2 92) k.toInt < t.toInt → rA b95 (n.toInt - 1) = v.toInt) → (xI (q.2.2.2 92) (q.1 29).toInt f.toInt t.toInt (¬ ad.toInt = 0) b94 n.toInt (if u5.toInt ≤ t.toInt then u5.toInt else if rB (q.2.2.2 92) k.toInt < t.toInt then t.toInt else rB (q.2.2.2 92) k.toInt)) → hG 1 cd_150 133 [(7, .int n), (11, .long u5), (10, .int k), (8, .long t), (0, .ref 68), (1, .long f), (3, .long s), (5, .int v), (6, .int ad)] [] M (fun r M' => r = none ∧ ∃ (n : Int32) (b92 b94 : Nat → Int64) (b93 b95 : Nat → Int32), wS b92 n.toInt ∧ n.toInt ≤ (q.1 29).toInt + 2 ∧ (∀ i : Int, 0 ≤ i → i < n.toInt → rB b92 i = f.toInt ∨ rB b92 i = f.toInt + s.toInt ∨ ∃ k : Int, 0 ≤ k ∧ k < (q.1 29).toInt ∧ rB b92 i = rB (q.2.2.2 92) k ∧ (¬ ad.toInt = 0 ∨ ¬ (f.toInt < rB (q.2.2.2 92) k ∧ rB (q.2.2.2 92) k < f.toInt + s.toInt))) ∧ Rm X (sA (sA (sB (sB (sF q 29 n) 92 b92) 94 b94) 93 b93) 95 b95) M') := by
            intro n b94 b95 M hM m0 m2 m3 hv hx
            refine hs (f := dm_lld 135 11) rfl rfl ?_
            refine hs (f := dm_lld 137 8) rfl rfl ?_
            refine g_lc_le (x := u5) (y := t) (m := 138) (n := 141) (tt := 181) rfl rfl (fun h52 => ?_) (fun h52 => ?_)
            · skip
              have h52 : u5.toInt ≤ t.toInt := h52
              exact j181 n b94 b95 _ hM (by omega) (by omega) (by omega) (by omega) (fun z1 z2 z3 => by first | exact hv z1 (by omega) (by omega) | (exfalso; omega)) (xI_up hx (by first | omega | (repeat' split) <;> omega))
            · skip
              have h52 : u5.toInt > t.toInt := h52
              refine hs (f := dm_ald 142 0) rfl rfl ?_
              refine hs (f := dm_ild 144 7) rfl rfl ?_
              refine hs (f := dm_ald 145 0) rfl rfl ?_
              refine r_geta (c := 89) rfl hM rfl ?_
              refine hs (f := dm_ild 150 10) rfl rfl ?_
              refine r_lald (L := 24000) (i := k) ((q.2.2.2 92) k.toInt.toNat) rfl hM rfl (by omega) rfl ?_
              generalize g54 : (q.2.2.2 92) k.toInt.toNat = v53
              have x55 : v53.toInt = rB (q.2.2.2 92) k.toInt := rB_of (i := k) g54 rfl
              refine hs (f := dm_lld 153 8) rfl rfl ?_
              refine g_lc_ge (x := v53) (y := t) (m := 154) (n := 157) (tt := 162) rfl rfl (fun h56 => ?_) (fun h56 => ?_)
              · skip
                have h56 : v53.toInt ≥ t.toInt := h56
                refine hs (f := dm_ald 163 0) rfl rfl ?_
                refine r_geta (c := 89) rfl hM rfl ?_
                refine hs (f := dm_ild 168 10) rfl rfl ?_
                refine r_lald (L := 24000) (i := k) ((q.2.2.2 92) k.toInt.toNat) rfl hM rfl (by omega) rfl ?_
                generalize g58 : (q.2.2.2 92) k.toInt.toNat = v57
                have x59 : v57.toInt = rB (q.2.2.2 92) k.toInt := rB_of (i := k) g58 rfl
                refine hs (f := dm_ald 170 0) rfl rfl ?_
                refine r_geta (c := 90) rfl hM rfl ?_
                refine hs (f := dm_ild 175 10) rfl rfl ?_
                refine r_iald (L := 24000) (i := k) ((q.2.2.1 93) k.toInt.toNat) rfl hM rfl (by omega) rfl ?_
                generalize g61 : (q.2.2.1 93) k.toInt.toNat = v60
                have x62 : v60.toInt = rA (q.2.2.1 93) k.toInt := rA_of (i := k) g61 rfl
                refine r_inv rfl hM rfl (as := [.ref 68, .int n, .long v57, .int v60]) rfl (Nat.le_of_ble_eq_true rfl) (hT_mono (by decide) (r_148 hM n v57 v60 (by omega) (by omega)) (fun r1 M64 w => ?_))
                rcases w with ⟨rfl, rfl, un, uv⟩ | ⟨rfl, uv, hM64⟩
                · skip
                  have uv : rA b95 (n.toInt - 1) = v60.toInt := uv
                  have hx65 : xI (q.2.2.2 92) (q.1 29).toInt f.toInt t.toInt (¬ ad.toInt = 0) b94 n.toInt u5.toInt := xI_up hx (by first | omega | (repeat' split) <;> omega)
                  refine hs (f := dm_ist 181 7) (lv' := [(7, .int n), (11, .long u5), (10, .int k), (8, .long t), (0, .ref 68), (1, .long f), (3, .long s), (5, .int v), (6, .int ad)]) rfl rfl ?_
                  exact j181 n b94 b95 _ hM (by omega) (by omega) (by omega) (by omega) (fun z1 z2 z3 => by first | omega | (exfalso; omega)) hx65
                · skip
                  have uv : 0 < n.toInt → ¬ rA b95 (n.toInt - 1) = v60.toInt := uv
                  replace hM64 := rm_to (q' := (sA (sB q 94 (vp_updL b94 n.toInt.toNat v57)) 95 (upd b95 n.toInt.toNat v60))) hM64 (Eq.trans (congrArg (fun z => sA z 95 (upd b95 n.toInt.toNat v60)) (show sB (sA (sB q 94 b94) 95 b95) 94 (vp_updL b94 n.toInt.toNat v57) = (sA (sB q 94 (vp_updL b94 n.toInt.toNat v57)) 95 b95) from (congrArg (fun z => (sA z 95 b95)) (show sB (sB q 94 b94) 94 (vp_updL b94 n.toInt.toNat v57) = (sB q 94 (vp_updL b94 n.toInt.toNat v57)) from sB_sB)))) (show sA (sA (sB q 94 (vp_updL b94 n.toInt.toNat v57)) 95 b95) 95 (upd b95 n.toInt.toNat v60) = (sA (sB q 94 (vp_updL b94 n.toInt.toNat v57)) 95 (upd b95 n.toInt.toNat v60)) from (show sA (sA (sB q 94 (vp_updL b94 n.toInt.toNat v57)) 95 b95) 95 (upd b95 n.toInt.toNat v60) = (sA (sB q 94 (vp_updL b94 n.toInt.toNat v57)) 95 (upd b95 n.toInt.toNat v60)) from sA_sA)))
                  have e66 : (n + 1).toInt = n.toInt + 1 := i_addc 1 rfl (by omega) (by omega)
                  have ul : rA (upd b95 n.toInt.toNat v60) ((n + 1).toInt - 1) = v60.toInt := by rw [e66]; exact rA_last (by omega)
                  have hx65 : xI (q.2.2.2 92) (q.1 29).toInt f.toInt t.toInt (¬ ad.toInt = 0) (vp_updL b94 n.toInt.toNat v57) (n + 1).toInt u5.toInt := by
                    rw [e66]
                    refine xI_lay hx (by omega) (by first | omega | (repeat' split) <;> omega) (by first | omega | (repeat' split) <;> omega) (by omega) ?_
                    obtain ⟨wi, wi0, wi1, wi2⟩ := wka
                    first
                    | exact Or.inl (by omega)
                    | exact Or.inr (Or.inl (by omega))
                    | exact Or.inr (Or.inr ⟨wi, wi0, wi1, by omega, Or.inr (by omega)⟩)
                    | exact Or.inr (Or.inr ⟨wi, wi0, wi1, by omega, Or.inl (by omega)⟩)
                    | (by_cases z1 : rB (q.2.2.2 92) k.toInt = f.toInt
                       · exact Or.inl (by omega)
                       · exact absurd (hv (by omega) (by omega) (by omega)) (uv (by omega)))
                  refine hs (f := dm_ist 181 7) (lv' := [(7, .int (n + 1)), (11, .long u5), (10, .int k), (8, .long t), (0, .ref 68), (1, .long f), (3, .long s), (5, .int v), (6, .int ad)]) rfl rfl ?_
                  exact j181 (n + 1) (vp_updL b94 n.toInt.toNat v57) (upd b95 n.toInt.toNat v60) _ hM64 (by omega) (by omega) (by omega) (by omega) (fun z1 z2 z3 => by first | exact ul | (exfalso; omega) | omega) hx65
              · skip
                have h56 : v53.toInt < t.toInt := h56
                refine hs (f := dm_lld 159 8) rfl rfl ?_
                refine hs (f := dm_goto 169) rfl rfl ?_
                refine hs (f := dm_ald 170 0) rfl rfl ?_
                refine r_geta (c := 90) rfl hM rfl ?_
                refine hs (f := dm_ild 175 10) rfl rfl ?_
                refine r_iald (L := 24000) (i := k) ((q.2.2.1 93) k.toInt.toNat) rfl hM rfl (by omega) rfl ?_
                generalize g68 : (q.2.2.1 93) k.toInt.toNat = v67
                have x69 : v67.toInt = rA (q.2.2.1 93) k.toInt := rA_of (i := k) g68 rfl
                refine r_inv rfl hM rfl (as := [.ref 68, .int n, .long t, .int v67]) rfl (Nat.le_of_ble_eq_true rfl) (hT_mono (by decide) (r_148 hM n t v67 (by omega) (by omega)) (fun r1 M71 w => ?_))
                rcases w with ⟨rfl, rfl, un, uv⟩ | ⟨rfl, uv, hM71⟩
                · skip
                  have uv : rA b95 (n.toInt - 1) = v67.toInt := uv
                  have hx72 : xI (q.2.2.2 92) (q.1 29).toInt f.toInt t.toInt (¬ ad.toInt = 0) b94 n.toInt u5.toInt := xI_up hx (by first | omega | (repeat' split) <;> omega)
                  refine hs (f := dm_ist 181 7) (lv' := [(7, .int n), (11, .long u5), (10, .int k), (8, .long t), (0, .ref 68), (1, .long f), (3, .long s), (5, .int v), (6, .int ad)]) rfl rfl ?_
                  exact j181 n b94 b95 _ hM (by omega) (by omega) (by omega) (by omega) (fun z1 z2 z3 => by first | omega | (exfalso; omega)) hx72
                · skip
                  have uv : 0 < n.toInt → ¬ rA b95 (n.toInt - 1) = v67.toInt := uv
                  replace hM71 := rm_to (q' := (sA (sB q 94 (vp_updL b94 n.toInt.toNat t)) 95 (upd b95 n.toInt.toNat v67))) hM71 (Eq.trans (congrArg (fun z => sA z 95 (upd b95 n.toInt.toNat v67)) (show sB (sA (sB q 94 b94) 95 b95) 94 (vp_updL b94 n.toInt.toNat t) = (sA (sB q 94 (vp_updL b94 n.toInt.toNat t)) 95 b95) from (congrArg (fun z => (sA z 95 b95)) (show sB (sB q 94 b94) 94 (vp_updL b94 n.toInt.toNat t) = (sB q 94 (vp_updL b94 n.toInt.toNat t)) from sB_sB)))) (show sA (sA (sB q 94 (vp_updL b94 n.toInt.toNat t)) 95 b95) 95 (upd b95 n.toInt.toNat v67) = (sA (sB q 94 (vp_updL b94 n.toInt.toNat t)) 95 (upd b95 n.toInt.toNat v67)) from (show sA (sA (sB q 94 (vp_updL b94 n.toInt.toNat t)) 95 b95) 95 (upd b95 n.toInt.toNat v67) = (sA (sB q 94 (vp_updL b94 n.toInt.toNat t)) 95 (upd b95 n.toInt.toNat v67)) from sA_sA)))
                  have e73 : (n + 1).toInt = n.toInt + 1 := i_addc 1 rfl (by omega) (by omega)
                  have ul : rA (upd b95 n.toInt.toNat v67) ((n + 1).toInt - 1) = v67.toInt := by rw [e73]; exact rA_last (by omega)
                  have hx72 : xI (q.2.2.2 92) (q.1 29).toInt f.toInt t.toInt (¬ ad.toInt = 0) (vp_updL b94 n.toInt.toNat t) (n + 1).toInt u5.toInt := by
                    rw [e73]
                    refine xI_lay hx (by omega) (by first | omega | (repeat' split) <;> omega) (by first | omega | (repeat' split) <;> omega) (by omega) ?_
                    obtain ⟨wi, wi0, wi1, wi2⟩ := wka
                    first
                    | exact Or.inl (by omega)
                    | exact Or.inr (Or.inl (by omega))
                    | exact Or.inr (Or.inr ⟨wi, wi0, wi1, by omega, Or.inr (by omega)⟩)
                    | exact Or.inr (Or.inr ⟨wi, wi0, wi1, by omega, Or.inl (by omega)⟩)
                    | (by_cases z1 : rB (q.2.2.2 92) k.toInt = f.toInt
                       · exact Or.inl (by omega)
                       · exact absurd (hv (by omega) (by omega) (by omega)) (uv (by omega)))
                  refine hs (f := dm_ist 181 7) (lv' := [(7, .int (n + 1)), (11, .long u5), (10, .int k), (8, .long t), (0, .ref 68), (1, .long f), (3, .long s), (5, .int v), (6, .int ad)]) rfl rfl ?_
                  exact j181 (n + 1) (vp_updL b94 n.toInt.toNat t) (upd b95 n.toInt.toNat v67) _ hM71 (by omega) (by omega) (by omega) (by omega) (fun z1 z2 z3 => by first | exact ul | (exfalso; omega) | omega) hx72
          have j62n : (∀ (n : Int32) (b94 : Nat → Int64) (b95 : Nat → Int32) (M : dm_Mem), Rm X (sA (sB q 94 b94) 95 b95) M → (0 ≤ n.toInt) → (1 ≤ n.toInt ∨ (k.toInt = 0 ∧ f.toInt = 0)) → (n.toInt ≤ k.toInt + 2) → (rB (q.2.2.2 92) k.toInt ≤ t.toInt → n.toInt ≤ k.toInt + 1) → (rB (q.2.2.2 92) k.toInt = f.toInt → n.toInt ≤ k.toInt) → (f.toInt ≤ rB (q.2.2.2 92) k.toInt) → (ad.toInt = 0 → f.toInt < rB (q.2.2.2 92) k.toInt → rB (q.2.2.2 92) k.toInt < t.toInt → rA b95 (n.toInt - 1) = v.toInt) → (xI (q.2.2.2 92) (q.1 29).toInt f.toInt t.toInt (¬ ad.toInt = 0) b94 n.toInt (if rB (q.2.2.2 92) k.toInt < f.toInt then rB (q.2.2.2 92) k.toInt + 1 else rB (q.2.2.2 92) k.toInt)) → hG 1 cd_150 62 [(11, .long u5), (10, .int k), (8, .long t), (7, .int n), (0, .ref 68), (1, .long f), (3, .long s), (5, .int v), (6, .int ad)] [] M (fun r M' => r = none ∧ ∃ (n : Int32) (b92 b94 : Nat → Int64) (b93 b95 : Nat → Int32), wS b92 n.toInt ∧ n.toInt ≤ (q.1 29).toInt + 2 ∧ (∀ i : Int, 0 ≤ i → i < n.toInt → rB b92 i = f.toInt ∨ rB b92 i = f.toInt + s.toInt ∨ ∃ k : Int, 0 ≤ k ∧ k < (q.1 29).toInt ∧ rB b92 i = rB (q.2.2.2 92) k ∧ (¬ ad.toInt = 0 ∨ ¬ (f.toInt < rB (q.2.2.2 92) k ∧ rB (q.2.2.2 92) k < f.toInt + s.toInt))) ∧ Rm X (sA (sA (sB (sB (sF q 29 n) 92 b92) 94 b94) 93 b93) 95 b95) M')) ∧ (∀ (n : Int32) (b94 : Nat → Int64) (b95 : Nat → Int32) (M : dm_Mem), Rm X (sA (sB q 94 b94) 95 b95) M → (0 ≤ n.toInt) → (1 ≤ n.toInt ∨ (k.toInt = 0 ∧ f.toInt = 0)) → (n.toInt ≤ k.toInt + 2) → (rB (q.2.2.2 92) k.toInt ≤ t.toInt → n.toInt ≤ k.toInt + 1) → (rB (q.2.2.2 92) k.toInt = f.toInt → n.toInt ≤ k.toInt) → (f.toInt ≤ rB (q.2.2.2 92) k.toInt) → (ad.toInt = 0 → f.toInt < rB (q.2.2.2 92) k.toInt → rB (q.2.2.2 92) k.toInt < t.toInt → rA b95 (n.toInt - 1) = v.toInt) → (xI (q.2.2.2 92) (q.1 29).toInt f.toInt t.toInt (¬ ad.toInt = 0) b94 n.toInt (if rB (q.2.2.2 92) k.toInt < f.toInt then rB (q.2.2.2 92) k.toInt + 1 else rB (q.2.2.2 92) k.toInt)) → hG 1 cd_150 62 [(11, .long u5), (10, .int k), (7, .int n), (8, .long t), (0, .ref 68), (1, .long f), (3, .long s), (5, .int v), (6, .int ad)] [] M (fun r M' => r = none ∧ ∃ (n : Int32) (b92 b94 : Nat → Int64) (b93 b95 : Nat → Int32), wS b92 n.toInt ∧ n.toInt ≤ (q.1 29).toInt + 2 ∧ (∀ i : Int, 0 ≤ i → i < n.toInt → rB b92 i = f.toInt ∨ rB b92 i = f.toInt + s.toInt ∨ ∃ k : Int, 0 ≤ k ∧ k < (q.1 29).toInt ∧ rB b92 i = rB (q.2.2.2 92) k ∧ (¬ ad.toInt = 0 ∨ ¬ (f.toInt < rB (q.2.2.2 92) k ∧ rB (q.2.2.2 92) k < f.toInt + s.toInt))) ∧ Rm X (sA (sA (sB (sB (sF q 29 n) 92 b92) 94 b94) 93 b93) 95 b95) M')) := by
            refine ⟨?_, ?_⟩
            · skip
              intro n b94 b95 M hM m0 m1 m2 m3 m4 m5 hv hx
              refine hs (f := dm_lld 64 11) rfl rfl ?_
              refine hs (f := dm_lld 65 1) rfl rfl ?_
              refine g_lc_le (x := u5) (y := f) (m := 66) (n := 69) (tt := 133) rfl rfl (fun h74 => ?_) (fun h74 => ?_)
              · skip
                have h74 : u5.toInt ≤ f.toInt := h74
                exact j133n.1 n b94 b95 _ hM (by omega) (by omega) (by omega) (by omega) (fun z1 z2 z3 => by first | exact hv z1 (by omega) (by omega) | (exfalso; omega)) (xI_up hx (by first | omega | (repeat' split) <;> omega))
              · skip
                have h74 : u5.toInt > f.toInt := h74
                refine hs (f := dm_ald 70 0) rfl rfl ?_
                refine r_geta (c := 89) rfl hM rfl ?_
                refine hs (f := dm_ild 75 10) rfl rfl ?_
                refine r_lald (L := 24000) (i := k) ((q.2.2.2 92) k.toInt.toNat) rfl hM rfl (by omega) rfl ?_
                generalize g76 : (q.2.2.2 92) k.toInt.toNat = v75
                have x77 : v75.toInt = rB (q.2.2.2 92) k.toInt := rB_of (i := k) g76 rfl
                refine hs (f := dm_lld 78 8) rfl rfl ?_
                refine g_lc_ge (x := v75) (y := t) (m := 79) (n := 82) (tt := 133) rfl rfl (fun h78 => ?_) (fun h78 => ?_)
                · skip
                  have h78 : v75.toInt ≥ t.toInt := h78
                  exact j133n.1 n b94 b95 _ hM (by omega) (by omega) (by omega) (by omega) (fun z1 z2 z3 => by first | exact hv z1 (by omega) (by omega) | (exfalso; omega)) (xI_up hx (by first | omega | (repeat' split) <;> omega))
                · skip
                  have h78 : v75.toInt < t.toInt := h78
                  refine hs (f := dm_ald 83 0) rfl rfl ?_
                  refine hs (f := dm_ild 85 7) rfl rfl ?_
                  refine hs (f := dm_ald 86 0) rfl rfl ?_
                  refine r_geta (c := 89) rfl hM rfl ?_
                  refine hs (f := dm_ild 91 10) rfl rfl ?_
                  refine r_lald (L := 24000) (i := k) ((q.2.2.2 92) k.toInt.toNat) rfl hM rfl (by omega) rfl ?_
                  generalize g80 : (q.2.2.2 92) k.toInt.toNat = v79
                  have x81 : v79.toInt = rB (q.2.2.2 92) k.toInt := rB_of (i := k) g80 rfl
                  refine hs (f := dm_lld 93 1) rfl rfl ?_
                  refine g_lc_ge (x := v79) (y := f) (m := 94) (n := 97) (tt := 101) rfl rfl (fun h82 => ?_) (fun h82 => ?_)
                  · skip
                    have h82 : v79.toInt ≥ f.toInt := h82
                    refine hs (f := dm_ald 102 0) rfl rfl ?_
                    refine r_geta (c := 89) rfl hM rfl ?_
                    refine hs (f := dm_ild 107 10) rfl rfl ?_
                    refine r_lald (L := 24000) (i := k) ((q.2.2.2 92) k.toInt.toNat) rfl hM rfl (by omega) rfl ?_
                    generalize g84 : (q.2.2.2 92) k.toInt.toNat = v83
                    have x85 : v83.toInt = rB (q.2.2.2 92) k.toInt := rB_of (i := k) g84 rfl
                    refine hs (f := dm_ild 110 6) rfl rfl ?_
                    refine g_if_eq (n := 113) (tt := 126) rfl (fun h86 => ?_) (fun h86 => ?_)
                    · skip
                      have h86 : ad.toInt = 0 := h86
                      refine hs (f := dm_ild 128 5) rfl rfl ?_
                      refine r_inv rfl hM rfl (as := [.ref 68, .int n, .long v83, .int v]) rfl (Nat.le_of_ble_eq_true rfl) (hT_mono (by decide) (r_148 hM n v83 v (by omega) (by omega)) (fun r1 M88 w => ?_))
                      rcases w with ⟨rfl, rfl, un, uv⟩ | ⟨rfl, uv, hM88⟩
                      · skip
                        have uv : rA b95 (n.toInt - 1) = v.toInt := uv
                        have hx89 : xI (q.2.2.2 92) (q.1 29).toInt f.toInt t.toInt (¬ ad.toInt = 0) b94 n.toInt (if u5.toInt ≤ t.toInt then u5.toInt else if rB (q.2.2.2 92) k.toInt < t.toInt then t.toInt else rB (q.2.2.2 92) k.toInt) := xI_up hx (by first | omega | (repeat' split) <;> omega)
                        refine hs (f := dm_ist 133 7) (lv' := [(7, .int n), (11, .long u5), (10, .int k), (8, .long t), (0, .ref 68), (1, .long f), (3, .long s), (5, .int v), (6, .int ad)]) rfl rfl ?_
                        exact j133s n b94 b95 _ hM (by omega) (by omega) (by omega) (fun z1 z2 z3 => by first | omega | (exfalso; omega)) hx89
                      · skip
                        have uv : 0 < n.toInt → ¬ rA b95 (n.toInt - 1) = v.toInt := uv
                        replace hM88 := rm_to (q' := (sA (sB q 94 (vp_updL b94 n.toInt.toNat v83)) 95 (upd b95 n.toInt.toNat v))) hM88 (Eq.trans (congrArg (fun z => sA z 95 (upd b95 n.toInt.toNat v)) (show sB (sA (sB q 94 b94) 95 b95) 94 (vp_updL b94 n.toInt.toNat v83) = (sA (sB q 94 (vp_updL b94 n.toInt.toNat v83)) 95 b95) from (congrArg (fun z => (sA z 95 b95)) (show sB (sB q 94 b94) 94 (vp_updL b94 n.toInt.toNat v83) = (sB q 94 (vp_updL b94 n.toInt.toNat v83)) from sB_sB)))) (show sA (sA (sB q 94 (vp_updL b94 n.toInt.toNat v83)) 95 b95) 95 (upd b95 n.toInt.toNat v) = (sA (sB q 94 (vp_updL b94 n.toInt.toNat v83)) 95 (upd b95 n.toInt.toNat v)) from (show sA (sA (sB q 94 (vp_updL b94 n.toInt.toNat v83)) 95 b95) 95 (upd b95 n.toInt.toNat v) = (sA (sB q 94 (vp_updL b94 n.toInt.toNat v83)) 95 (upd b95 n.toInt.toNat v)) from sA_sA)))
                        have e90 : (n + 1).toInt = n.toInt + 1 := i_addc 1 rfl (by omega) (by omega)
                        have ul : rA (upd b95 n.toInt.toNat v) ((n + 1).toInt - 1) = v.toInt := by rw [e90]; exact rA_last (by omega)
                        have hx89 : xI (q.2.2.2 92) (q.1 29).toInt f.toInt t.toInt (¬ ad.toInt = 0) (vp_updL b94 n.toInt.toNat v83) (n + 1).toInt (if u5.toInt ≤ t.toInt then u5.toInt else if rB (q.2.2.2 92) k.toInt < t.toInt then t.toInt else rB (q.2.2.2 92) k.toInt) := by
                          rw [e90]
                          refine xI_lay hx (by omega) (by first | omega | (repeat' split) <;> omega) (by first | omega | (repeat' split) <;> omega) (by omega) ?_
                          obtain ⟨wi, wi0, wi1, wi2⟩ := wka
                          first
                          | exact Or.inl (by omega)
                          | exact Or.inr (Or.inl (by omega))
                          | exact Or.inr (Or.inr ⟨wi, wi0, wi1, by omega, Or.inr (by omega)⟩)
                          | exact Or.inr (Or.inr ⟨wi, wi0, wi1, by omega, Or.inl (by omega)⟩)
                          | (by_cases z1 : rB (q.2.2.2 92) k.toInt = f.toInt
                             · exact Or.inl (by omega)
                             · exact absurd (hv (by omega) (by omega) (by omega)) (uv (by omega)))
                        refine hs (f := dm_ist 133 7) (lv' := [(7, .int (n + 1)), (11, .long u5), (10, .int k), (8, .long t), (0, .ref 68), (1, .long f), (3, .long s), (5, .int v), (6, .int ad)]) rfl rfl ?_
                        exact j133s (n + 1) (vp_updL b94 n.toInt.toNat v83) (upd b95 n.toInt.toNat v) _ hM88 (by omega) (by omega) (by omega) (fun z1 z2 z3 => by first | exact ul | (exfalso; omega) | omega) hx89
                    · skip
                      have h86 : ¬ ad.toInt = 0 := h86
                      refine hs (f := dm_ald 114 0) rfl rfl ?_
                      refine r_geta (c := 90) rfl hM rfl ?_
                      refine hs (f := dm_ild 119 10) rfl rfl ?_
                      refine r_iald (L := 24000) (i := k) ((q.2.2.1 93) k.toInt.toNat) rfl hM rfl (by omega) rfl ?_
                      generalize g92 : (q.2.2.1 93) k.toInt.toNat = v91
                      have x93 : v91.toInt = rA (q.2.2.1 93) k.toInt := rA_of (i := k) g92 rfl
                      refine hs (f := dm_ild 122 5) rfl rfl ?_
                      refine hs (f := dm_ii 123 (fun x y => x + y)) (st' := [.int (v91 + v), .long v83, .int n, .ref 68]) rfl rfl ?_
                      refine hs (f := dm_goto 128) rfl rfl ?_
                      refine r_inv rfl hM rfl (as := [.ref 68, .int n, .long v83, .int (v91 + v)]) rfl (Nat.le_of_ble_eq_true rfl) (hT_mono (by decide) (r_148 hM n v83 (v91 + v) (by omega) (by omega)) (fun r1 M95 w => ?_))
                      rcases w with ⟨rfl, rfl, un, uv⟩ | ⟨rfl, uv, hM95⟩
                      · skip
                        have uv : rA b95 (n.toInt - 1) = (v91 + v).toInt := uv
                        have hx96 : xI (q.2.2.2 92) (q.1 29).toInt f.toInt t.toInt (¬ ad.toInt = 0) b94 n.toInt (if u5.toInt ≤ t.toInt then u5.toInt else if rB (q.2.2.2 92) k.toInt < t.toInt then t.toInt else rB (q.2.2.2 92) k.toInt) := xI_up hx (by first | omega | (repeat' split) <;> omega)
                        refine hs (f := dm_ist 133 7) (lv' := [(7, .int n), (11, .long u5), (10, .int k), (8, .long t), (0, .ref 68), (1, .long f), (3, .long s), (5, .int v), (6, .int ad)]) rfl rfl ?_
                        exact j133s n b94 b95 _ hM (by omega) (by omega) (by omega) (fun z1 z2 z3 => by first | omega | (exfalso; omega)) hx96
                      · skip
                        have uv : 0 < n.toInt → ¬ rA b95 (n.toInt - 1) = (v91 + v).toInt := uv
                        replace hM95 := rm_to (q' := (sA (sB q 94 (vp_updL b94 n.toInt.toNat v83)) 95 (upd b95 n.toInt.toNat (v91 + v)))) hM95 (Eq.trans (congrArg (fun z => sA z 95 (upd b95 n.toInt.toNat (v91 + v))) (show sB (sA (sB q 94 b94) 95 b95) 94 (vp_updL b94 n.toInt.toNat v83) = (sA (sB q 94 (vp_updL b94 n.toInt.toNat v83)) 95 b95) from (congrArg (fun z => (sA z 95 b95)) (show sB (sB q 94 b94) 94 (vp_updL b94 n.toInt.toNat v83) = (sB q 94 (vp_updL b94 n.toInt.toNat v83)) from sB_sB)))) (show sA (sA (sB q 94 (vp_updL b94 n.toInt.toNat v83)) 95 b95) 95 (upd b95 n.toInt.toNat (v91 + v)) = (sA (sB q 94 (vp_updL b94 n.toInt.toNat v83)) 95 (upd b95 n.toInt.toNat (v91 + v))) from (show sA (sA (sB q 94 (vp_updL b94 n.toInt.toNat v83)) 95 b95) 95 (upd b95 n.toInt.toNat (v91 + v)) = (sA (sB q 94 (vp_updL b94 n.toInt.toNat v83)) 95 (upd b95 n.toInt.toNat (v91 + v))) from sA_sA)))
                        have e97 : (n + 1).toInt = n.toInt + 1 := i_addc 1 rfl (by omega) (by omega)
                        have ul : rA (upd b95 n.toInt.toNat (v91 + v)) ((n + 1).toInt - 1) = (v91 + v).toInt := by rw [e97]; exact rA_last (by omega)
                        have hx96 : xI (q.2.2.2 92) (q.1 29).toInt f.toInt t.toInt (¬ ad.toInt = 0) (vp_updL b94 n.toInt.toNat v83) (n + 1).toInt (if u5.toInt ≤ t.toInt then u5.toInt else if rB (q.2.2.2 92) k.toInt < t.toInt then t.toInt else rB (q.2.2.2 92) k.toInt) := by
                          rw [e97]
                          refine xI_lay hx (by omega) (by first | omega | (repeat' split) <;> omega) (by first | omega | (repeat' split) <;> omega) (by omega) ?_
                          obtain ⟨wi, wi0, wi1, wi2⟩ := wka
                          first
                          | exact Or.inl (by omega)
                          | exact Or.inr (Or.inl (by omega))
                          | exact Or.inr (Or.inr ⟨wi, wi0, wi1, by omega, Or.inr (by omega)⟩)
                          | exact Or.inr (Or.inr ⟨wi, wi0, wi1, by omega, Or.inl (by omega)⟩)
                          | (by_cases z1 : rB (q.2.2.2 92) k.toInt = f.toInt
                             · exact Or.inl (by omega)
                             · exact absurd (hv (by omega) (by omega) (by omega)) (uv (by omega)))
                        refine hs (f := dm_ist 133 7) (lv' := [(7, .int (n + 1)), (11, .long u5), (10, .int k), (8, .long t), (0, .ref 68), (1, .long f), (3, .long s), (5, .int v), (6, .int ad)]) rfl rfl ?_
                        exact j133s (n + 1) (vp_updL b94 n.toInt.toNat v83) (upd b95 n.toInt.toNat (v91 + v)) _ hM95 (by omega) (by omega) (by omega) (fun z1 z2 z3 => by first | exact ul | (exfalso; omega) | omega) hx96
                  · skip
                    have h82 : v79.toInt < f.toInt := h82
                    refine hs (f := dm_lld 98 1) rfl rfl ?_
                    refine hs (f := dm_goto 108) rfl rfl ?_
                    refine hs (f := dm_ild 110 6) rfl rfl ?_
                    refine g_if_eq (n := 113) (tt := 126) rfl (fun h98 => ?_) (fun h98 => ?_)
                    · skip
                      have h98 : ad.toInt = 0 := h98
                      refine hs (f := dm_ild 128 5) rfl rfl ?_
                      refine r_inv rfl hM rfl (as := [.ref 68, .int n, .long f, .int v]) rfl (Nat.le_of_ble_eq_true rfl) (hT_mono (by decide) (r_148 hM n f v (by omega) (by omega)) (fun r1 M100 w => ?_))
                      rcases w with ⟨rfl, rfl, un, uv⟩ | ⟨rfl, uv, hM100⟩
                      · skip
                        have uv : rA b95 (n.toInt - 1) = v.toInt := uv
                        have hx101 : xI (q.2.2.2 92) (q.1 29).toInt f.toInt t.toInt (¬ ad.toInt = 0) b94 n.toInt (if u5.toInt ≤ t.toInt then u5.toInt else if rB (q.2.2.2 92) k.toInt < t.toInt then t.toInt else rB (q.2.2.2 92) k.toInt) := xI_up hx (by first | omega | (repeat' split) <;> omega)
                        refine hs (f := dm_ist 133 7) (lv' := [(7, .int n), (11, .long u5), (10, .int k), (8, .long t), (0, .ref 68), (1, .long f), (3, .long s), (5, .int v), (6, .int ad)]) rfl rfl ?_
                        exact j133s n b94 b95 _ hM (by omega) (by omega) (by omega) (fun z1 z2 z3 => by first | omega | (exfalso; omega)) hx101
                      · skip
                        have uv : 0 < n.toInt → ¬ rA b95 (n.toInt - 1) = v.toInt := uv
                        replace hM100 := rm_to (q' := (sA (sB q 94 (vp_updL b94 n.toInt.toNat f)) 95 (upd b95 n.toInt.toNat v))) hM100 (Eq.trans (congrArg (fun z => sA z 95 (upd b95 n.toInt.toNat v)) (show sB (sA (sB q 94 b94) 95 b95) 94 (vp_updL b94 n.toInt.toNat f) = (sA (sB q 94 (vp_updL b94 n.toInt.toNat f)) 95 b95) from (congrArg (fun z => (sA z 95 b95)) (show sB (sB q 94 b94) 94 (vp_updL b94 n.toInt.toNat f) = (sB q 94 (vp_updL b94 n.toInt.toNat f)) from sB_sB)))) (show sA (sA (sB q 94 (vp_updL b94 n.toInt.toNat f)) 95 b95) 95 (upd b95 n.toInt.toNat v) = (sA (sB q 94 (vp_updL b94 n.toInt.toNat f)) 95 (upd b95 n.toInt.toNat v)) from (show sA (sA (sB q 94 (vp_updL b94 n.toInt.toNat f)) 95 b95) 95 (upd b95 n.toInt.toNat v) = (sA (sB q 94 (vp_updL b94 n.toInt.toNat f)) 95 (upd b95 n.toInt.toNat v)) from sA_sA)))
                        have e102 : (n + 1).toInt = n.toInt + 1 := i_addc 1 rfl (by omega) (by omega)
                        have ul : rA (upd b95 n.toInt.toNat v) ((n + 1).toInt - 1) = v.toInt := by rw [e102]; exact rA_last (by omega)
                        have hx101 : xI (q.2.2.2 92) (q.1 29).toInt f.toInt t.toInt (¬ ad.toInt = 0) (vp_updL b94 n.toInt.toNat f) (n + 1).toInt (if u5.toInt ≤ t.toInt then u5.toInt else if rB (q.2.2.2 92) k.toInt < t.toInt then t.toInt else rB (q.2.2.2 92) k.toInt) := by
                          rw [e102]
                          refine xI_lay hx (by omega) (by first | omega | (repeat' split) <;> omega) (by first | omega | (repeat' split) <;> omega) (by omega) ?_
                          obtain ⟨wi, wi0, wi1, wi2⟩ := wka
                          first
                          | exact Or.inl (by omega)
                          | exact Or.inr (Or.inl (by omega))
                          | exact Or.inr (Or.inr ⟨wi, wi0, wi1, by omega, Or.inr (by omega)⟩)
                          | exact Or.inr (Or.inr ⟨wi, wi0, wi1, by omega, Or.inl (by omega)⟩)
                          | (by_cases z1 : rB (q.2.2.2 92) k.toInt = f.toInt
                             · exact Or.inl (by omega)
                             · exact absurd (hv (by omega) (by omega) (by omega)) (uv (by omega)))
                        refine hs (f := dm_ist 133 7) (lv' := [(7, .int (n + 1)), (11, .long u5), (10, .int k), (8, .long t), (0, .ref 68), (1, .long f), (3, .long s), (5, .int v), (6, .int ad)]) rfl rfl ?_
                        exact j133s (n + 1) (vp_updL b94 n.toInt.toNat f) (upd b95 n.toInt.toNat v) _ hM100 (by omega) (by omega) (by omega) (fun z1 z2 z3 => by first | exact ul | (exfalso; omega) | omega) hx101
                    · skip
                      have h98 : ¬ ad.toInt = 0 := h98
                      refine hs (f := dm_ald 114 0) rfl rfl ?_
                      refine r_geta (c := 90) rfl hM rfl ?_
                      refine hs (f := dm_ild 119 10) rfl rfl ?_
                      refine r_iald (L := 24000) (i := k) ((q.2.2.1 93) k.toInt.toNat) rfl hM rfl (by omega) rfl ?_
                      generalize g104 : (q.2.2.1 93) k.toInt.toNat = v103
                      have x105 : v103.toInt = rA (q.2.2.1 93) k.toInt := rA_of (i := k) g104 rfl
                      refine hs (f := dm_ild 122 5) rfl rfl ?_
                      refine hs (f := dm_ii 123 (fun x y => x + y)) (st' := [.int (v103 + v), .long f, .int n, .ref 68]) rfl rfl ?_
                      refine hs (f := dm_goto 128) rfl rfl ?_
                      refine r_inv rfl hM rfl (as := [.ref 68, .int n, .long f, .int (v103 + v)]) rfl (Nat.le_of_ble_eq_true rfl) (hT_mono (by decide) (r_148 hM n f (v103 + v) (by omega) (by omega)) (fun r1 M107 w => ?_))
                      rcases w with ⟨rfl, rfl, un, uv⟩ | ⟨rfl, uv, hM107⟩
                      · skip
                        have uv : rA b95 (n.toInt - 1) = (v103 + v).toInt := uv
                        have hx108 : xI (q.2.2.2 92) (q.1 29).toInt f.toInt t.toInt (¬ ad.toInt = 0) b94 n.toInt (if u5.toInt ≤ t.toInt then u5.toInt else if rB (q.2.2.2 92) k.toInt < t.toInt then t.toInt else rB (q.2.2.2 92) k.toInt) := xI_up hx (by first | omega | (repeat' split) <;> omega)
                        refine hs (f := dm_ist 133 7) (lv' := [(7, .int n), (11, .long u5), (10, .int k), (8, .long t), (0, .ref 68), (1, .long f), (3, .long s), (5, .int v), (6, .int ad)]) rfl rfl ?_
                        exact j133s n b94 b95 _ hM (by omega) (by omega) (by omega) (fun z1 z2 z3 => by first | omega | (exfalso; omega)) hx108
                      · skip
                        have uv : 0 < n.toInt → ¬ rA b95 (n.toInt - 1) = (v103 + v).toInt := uv
                        replace hM107 := rm_to (q' := (sA (sB q 94 (vp_updL b94 n.toInt.toNat f)) 95 (upd b95 n.toInt.toNat (v103 + v)))) hM107 (Eq.trans (congrArg (fun z => sA z 95 (upd b95 n.toInt.toNat (v103 + v))) (show sB (sA (sB q 94 b94) 95 b95) 94 (vp_updL b94 n.toInt.toNat f) = (sA (sB q 94 (vp_updL b94 n.toInt.toNat f)) 95 b95) from (congrArg (fun z => (sA z 95 b95)) (show sB (sB q 94 b94) 94 (vp_updL b94 n.toInt.toNat f) = (sB q 94 (vp_updL b94 n.toInt.toNat f)) from sB_sB)))) (show sA (sA (sB q 94 (vp_updL b94 n.toInt.toNat f)) 95 b95) 95 (upd b95 n.toInt.toNat (v103 + v)) = (sA (sB q 94 (vp_updL b94 n.toInt.toNat f)) 95 (upd b95 n.toInt.toNat (v103 + v))) from (show sA (sA (sB q 94 (vp_updL b94 n.toInt.toNat f)) 95 b95) 95 (upd b95 n.toInt.toNat (v103 + v)) = (sA (sB q 94 (vp_updL b94 n.toInt.toNat f)) 95 (upd b95 n.toInt.toNat (v103 + v))) from sA_sA)))
                        have e109 : (n + 1).toInt = n.toInt + 1 := i_addc 1 rfl (by omega) (by omega)
                        have ul : rA (upd b95 n.toInt.toNat (v103 + v)) ((n + 1).toInt - 1) = (v103 + v).toInt := by rw [e109]; exact rA_last (by omega)
                        have hx108 : xI (q.2.2.2 92) (q.1 29).toInt f.toInt t.toInt (¬ ad.toInt = 0) (vp_updL b94 n.toInt.toNat f) (n + 1).toInt (if u5.toInt ≤ t.toInt then u5.toInt else if rB (q.2.2.2 92) k.toInt < t.toInt then t.toInt else rB (q.2.2.2 92) k.toInt) := by
                          rw [e109]
                          refine xI_lay hx (by omega) (by first | omega | (repeat' split) <;> omega) (by first | omega | (repeat' split) <;> omega) (by omega) ?_
                          obtain ⟨wi, wi0, wi1, wi2⟩ := wka
                          first
                          | exact Or.inl (by omega)
                          | exact Or.inr (Or.inl (by omega))
                          | exact Or.inr (Or.inr ⟨wi, wi0, wi1, by omega, Or.inr (by omega)⟩)
                          | exact Or.inr (Or.inr ⟨wi, wi0, wi1, by omega, Or.inl (by omega)⟩)
                          | (by_cases z1 : rB (q.2.2.2 92) k.toInt = f.toInt
                             · exact Or.inl (by omega)
                             · exact absurd (hv (by omega) (by omega) (by omega)) (uv (by omega)))
                        refine hs (f := dm_ist 133 7) (lv' := [(7, .int (n + 1)), (11, .long u5), (10, .int k), (8, .long t), (0, .ref 68), (1, .long f), (3, .long s), (5, .int v), (6, .int ad)]) rfl rfl ?_
                        exact j133s (n + 1) (vp_updL b94 n.toInt.toNat f) (upd b95 n.toInt.toNat (v103 + v)) _ hM107 (by omega) (by omega) (by omega) (fun z1 z2 z3 => by first | exact ul | (exfalso; omega) | omega) hx108
            · skip
              intro n b94 b95 M hM m0 m1 m2 m3 m4 m5 hv hx
              refine hs (f := dm_lld 64 11) rfl rfl ?_
              refine hs (f := dm_lld 65 1) rfl rfl ?_
              refine g_lc_le (x := u5) (y := f) (m := 66) (n := 69) (tt := 133) rfl rfl (fun h110 => ?_) (fun h110 => ?_)
              · skip
                have h110 : u5.toInt ≤ f.toInt := h110
                exact j133n.2 n b94 b95 _ hM (by omega) (by omega) (by omega) (by omega) (fun z1 z2 z3 => by first | exact hv z1 (by omega) (by omega) | (exfalso; omega)) (xI_up hx (by first | omega | (repeat' split) <;> omega))
              · skip
                have h110 : u5.toInt > f.toInt := h110
                refine hs (f := dm_ald 70 0) rfl rfl ?_
                refine r_geta (c := 89) rfl hM rfl ?_
                refine hs (f := dm_ild 75 10) rfl rfl ?_
                refine r_lald (L := 24000) (i := k) ((q.2.2.2 92) k.toInt.toNat) rfl hM rfl (by omega) rfl ?_
                generalize g112 : (q.2.2.2 92) k.toInt.toNat = v111
                have x113 : v111.toInt = rB (q.2.2.2 92) k.toInt := rB_of (i := k) g112 rfl
                refine hs (f := dm_lld 78 8) rfl rfl ?_
                refine g_lc_ge (x := v111) (y := t) (m := 79) (n := 82) (tt := 133) rfl rfl (fun h114 => ?_) (fun h114 => ?_)
                · skip
                  have h114 : v111.toInt ≥ t.toInt := h114
                  exact j133n.2 n b94 b95 _ hM (by omega) (by omega) (by omega) (by omega) (fun z1 z2 z3 => by first | exact hv z1 (by omega) (by omega) | (exfalso; omega)) (xI_up hx (by first | omega | (repeat' split) <;> omega))
                · skip
                  have h114 : v111.toInt < t.toInt := h114
                  refine hs (f := dm_ald 83 0) rfl rfl ?_
                  refine hs (f := dm_ild 85 7) rfl rfl ?_
                  refine hs (f := dm_ald 86 0) rfl rfl ?_
                  refine r_geta (c := 89) rfl hM rfl ?_
                  refine hs (f := dm_ild 91 10) rfl rfl ?_
                  refine r_lald (L := 24000) (i := k) ((q.2.2.2 92) k.toInt.toNat) rfl hM rfl (by omega) rfl ?_
                  generalize g116 : (q.2.2.2 92) k.toInt.toNat = v115
                  have x117 : v115.toInt = rB (q.2.2.2 92) k.toInt := rB_of (i := k) g116 rfl
                  refine hs (f := dm_lld 93 1) rfl rfl ?_
                  refine g_lc_ge (x := v115) (y := f) (m := 94) (n := 97) (tt := 101) rfl rfl (fun h118 => ?_) (fun h118 => ?_)
                  · skip
                    have h118 : v115.toInt ≥ f.toInt := h118
                    refine hs (f := dm_ald 102 0) rfl rfl ?_
                    refine r_geta (c := 89) rfl hM rfl ?_
                    refine hs (f := dm_ild 107 10) rfl rfl ?_
                    refine r_lald (L := 24000) (i := k) ((q.2.2.2 92) k.toInt.toNat) rfl hM rfl (by omega) rfl ?_
                    generalize g120 : (q.2.2.2 92) k.toInt.toNat = v119
                    have x121 : v119.toInt = rB (q.2.2.2 92) k.toInt := rB_of (i := k) g120 rfl
                    refine hs (f := dm_ild 110 6) rfl rfl ?_
                    refine g_if_eq (n := 113) (tt := 126) rfl (fun h122 => ?_) (fun h122 => ?_)
                    · skip
                      have h122 : ad.toInt = 0 := h122
                      refine hs (f := dm_ild 128 5) rfl rfl ?_
                      refine r_inv rfl hM rfl (as := [.ref 68, .int n, .long v119, .int v]) rfl (Nat.le_of_ble_eq_true rfl) (hT_mono (by decide) (r_148 hM n v119 v (by omega) (by omega)) (fun r1 M124 w => ?_))
                      rcases w with ⟨rfl, rfl, un, uv⟩ | ⟨rfl, uv, hM124⟩
                      · skip
                        have uv : rA b95 (n.toInt - 1) = v.toInt := uv
                        have hx125 : xI (q.2.2.2 92) (q.1 29).toInt f.toInt t.toInt (¬ ad.toInt = 0) b94 n.toInt (if u5.toInt ≤ t.toInt then u5.toInt else if rB (q.2.2.2 92) k.toInt < t.toInt then t.toInt else rB (q.2.2.2 92) k.toInt) := xI_up hx (by first | omega | (repeat' split) <;> omega)
                        refine hs (f := dm_ist 133 7) (lv' := [(7, .int n), (11, .long u5), (10, .int k), (8, .long t), (0, .ref 68), (1, .long f), (3, .long s), (5, .int v), (6, .int ad)]) rfl rfl ?_
                        exact j133s n b94 b95 _ hM (by omega) (by omega) (by omega) (fun z1 z2 z3 => by first | omega | (exfalso; omega)) hx125
                      · skip
                        have uv : 0 < n.toInt → ¬ rA b95 (n.toInt - 1) = v.toInt := uv
                        replace hM124 := rm_to (q' := (sA (sB q 94 (vp_updL b94 n.toInt.toNat v119)) 95 (upd b95 n.toInt.toNat v))) hM124 (Eq.trans (congrArg (fun z => sA z 95 (upd b95 n.toInt.toNat v)) (show sB (sA (sB q 94 b94) 95 b95) 94 (vp_updL b94 n.toInt.toNat v119) = (sA (sB q 94 (vp_updL b94 n.toInt.toNat v119)) 95 b95) from (congrArg (fun z => (sA z 95 b95)) (show sB (sB q 94 b94) 94 (vp_updL b94 n.toInt.toNat v119) = (sB q 94 (vp_updL b94 n.toInt.toNat v119)) from sB_sB)))) (show sA (sA (sB q 94 (vp_updL b94 n.toInt.toNat v119)) 95 b95) 95 (upd b95 n.toInt.toNat v) = (sA (sB q 94 (vp_updL b94 n.toInt.toNat v119)) 95 (upd b95 n.toInt.toNat v)) from (show sA (sA (sB q 94 (vp_updL b94 n.toInt.toNat v119)) 95 b95) 95 (upd b95 n.toInt.toNat v) = (sA (sB q 94 (vp_updL b94 n.toInt.toNat v119)) 95 (upd b95 n.toInt.toNat v)) from sA_sA)))
                        have e126 : (n + 1).toInt = n.toInt + 1 := i_addc 1 rfl (by omega) (by omega)
                        have ul : rA (upd b95 n.toInt.toNat v) ((n + 1).toInt - 1) = v.toInt := by rw [e126]; exact rA_last (by omega)
                        have hx125 : xI (q.2.2.2 92) (q.1 29).toInt f.toInt t.toInt (¬ ad.toInt = 0) (vp_updL b94 n.toInt.toNat v119) (n + 1).toInt (if u5.toInt ≤ t.toInt then u5.toInt else if rB (q.2.2.2 92) k.toInt < t.toInt then t.toInt else rB (q.2.2.2 92) k.toInt) := by
                          rw [e126]
                          refine xI_lay hx (by omega) (by first | omega | (repeat' split) <;> omega) (by first | omega | (repeat' split) <;> omega) (by omega) ?_
                          obtain ⟨wi, wi0, wi1, wi2⟩ := wka
                          first
                          | exact Or.inl (by omega)
                          | exact Or.inr (Or.inl (by omega))
                          | exact Or.inr (Or.inr ⟨wi, wi0, wi1, by omega, Or.inr (by omega)⟩)
                          | exact Or.inr (Or.inr ⟨wi, wi0, wi1, by omega, Or.inl (by omega)⟩)
                          | (by_cases z1 : rB (q.2.2.2 92) k.toInt = f.toInt
                             · exact Or.inl (by omega)
                             · exact absurd (hv (by omega) (by omega) (by omega)) (uv (by omega)))
                        refine hs (f := dm_ist 133 7) (lv' := [(7, .int (n + 1)), (11, .long u5), (10, .int k), (8, .long t), (0, .ref 68), (1, .long f), (3, .long s), (5, .int v), (6, .int ad)]) rfl rfl ?_
                        exact j133s (n + 1) (vp_updL b94 n.toInt.toNat v119) (upd b95 n.toInt.toNat v) _ hM124 (by omega) (by omega) (by omega) (fun z1 z2 z3 => by first | exact ul | (exfalso; omega) | omega) hx125
                    · skip
                      have h122 : ¬ ad.toInt = 0 := h122
                      refine hs (f := dm_ald 114 0) rfl rfl ?_
                      refine r_geta (c := 90) rfl hM rfl ?_
                      refine hs (f := dm_ild 119 10) rfl rfl ?_
                      refine r_iald (L := 24000) (i := k) ((q.2.2.1 93) k.toInt.toNat) rfl hM rfl (by omega) rfl ?_
                      generalize g128 : (q.2.2.1 93) k.toInt.toNat = v127
                      have x129 : v127.toInt = rA (q.2.2.1 93) k.toInt := rA_of (i := k) g128 rfl
                      refine hs (f := dm_ild 122 5) rfl rfl ?_
                      refine hs (f := dm_ii 123 (fun x y => x + y)) (st' := [.int (v127 + v), .long v119, .int n, .ref 68]) rfl rfl ?_
                      refine hs (f := dm_goto 128) rfl rfl ?_
                      refine r_inv rfl hM rfl (as := [.ref 68, .int n, .long v119, .int (v127 + v)]) rfl (Nat.le_of_ble_eq_true rfl) (hT_mono (by decide) (r_148 hM n v119 (v127 + v) (by omega) (by omega)) (fun r1 M131 w => ?_))
                      rcases w with ⟨rfl, rfl, un, uv⟩ | ⟨rfl, uv, hM131⟩
                      · skip
                        have uv : rA b95 (n.toInt - 1) = (v127 + v).toInt := uv
                        have hx132 : xI (q.2.2.2 92) (q.1 29).toInt f.toInt t.toInt (¬ ad.toInt = 0) b94 n.toInt (if u5.toInt ≤ t.toInt then u5.toInt else if rB (q.2.2.2 92) k.toInt < t.toInt then t.toInt else rB (q.2.2.2 92) k.toInt) := xI_up hx (by first | omega | (repeat' split) <;> omega)
                        refine hs (f := dm_ist 133 7) (lv' := [(7, .int n), (11, .long u5), (10, .int k), (8, .long t), (0, .ref 68), (1, .long f), (3, .long s), (5, .int v), (6, .int ad)]) rfl rfl ?_
                        exact j133s n b94 b95 _ hM (by omega) (by omega) (by omega) (fun z1 z2 z3 => by first | omega | (exfalso; omega)) hx132
                      · skip
                        have uv : 0 < n.toInt → ¬ rA b95 (n.toInt - 1) = (v127 + v).toInt := uv
                        replace hM131 := rm_to (q' := (sA (sB q 94 (vp_updL b94 n.toInt.toNat v119)) 95 (upd b95 n.toInt.toNat (v127 + v)))) hM131 (Eq.trans (congrArg (fun z => sA z 95 (upd b95 n.toInt.toNat (v127 + v))) (show sB (sA (sB q 94 b94) 95 b95) 94 (vp_updL b94 n.toInt.toNat v119) = (sA (sB q 94 (vp_updL b94 n.toInt.toNat v119)) 95 b95) from (congrArg (fun z => (sA z 95 b95)) (show sB (sB q 94 b94) 94 (vp_updL b94 n.toInt.toNat v119) = (sB q 94 (vp_updL b94 n.toInt.toNat v119)) from sB_sB)))) (show sA (sA (sB q 94 (vp_updL b94 n.toInt.toNat v119)) 95 b95) 95 (upd b95 n.toInt.toNat (v127 + v)) = (sA (sB q 94 (vp_updL b94 n.toInt.toNat v119)) 95 (upd b95 n.toInt.toNat (v127 + v))) from (show sA (sA (sB q 94 (vp_updL b94 n.toInt.toNat v119)) 95 b95) 95 (upd b95 n.toInt.toNat (v127 + v)) = (sA (sB q 94 (vp_updL b94 n.toInt.toNat v119)) 95 (upd b95 n.toInt.toNat (v127 + v))) from sA_sA)))
                        have e133 : (n + 1).toInt = n.toInt + 1 := i_addc 1 rfl (by omega) (by omega)
                        have ul : rA (upd b95 n.toInt.toNat (v127 + v)) ((n + 1).toInt - 1) = (v127 + v).toInt := by rw [e133]; exact rA_last (by omega)
                        have hx132 : xI (q.2.2.2 92) (q.1 29).toInt f.toInt t.toInt (¬ ad.toInt = 0) (vp_updL b94 n.toInt.toNat v119) (n + 1).toInt (if u5.toInt ≤ t.toInt then u5.toInt else if rB (q.2.2.2 92) k.toInt < t.toInt then t.toInt else rB (q.2.2.2 92) k.toInt) := by
                          rw [e133]
                          refine xI_lay hx (by omega) (by first | omega | (repeat' split) <;> omega) (by first | omega | (repeat' split) <;> omega) (by omega) ?_
                          obtain ⟨wi, wi0, wi1, wi2⟩ := wka
                          first
                          | exact Or.inl (by omega)
                          | exact Or.inr (Or.inl (by omega))
                          | exact Or.inr (Or.inr ⟨wi, wi0, wi1, by omega, Or.inr (by omega)⟩)
                          | exact Or.inr (Or.inr ⟨wi, wi0, wi1, by omega, Or.inl (by omega)⟩)
                          | (by_cases z1 : rB (q.2.2.2 92) k.toInt = f.toInt
                             · exact Or.inl (by omega)
                             · exact absurd (hv (by omega) (by omega) (by omega)) (uv (by omega)))
                        refine hs (f := dm_ist 133 7) (lv' := [(7, .int (n + 1)), (11, .long u5), (10, .int k), (8, .long t), (0, .ref 68), (1, .long f), (3, .long s), (5, .int v), (6, .int ad)]) rfl rfl ?_
                        exact j133s (n + 1) (vp_updL b94 n.toInt.toNat v119) (upd b95 n.toInt.toNat (v127 + v)) _ hM131 (by omega) (by omega) (by omega) (fun z1 z2 z3 => by first | exact ul | (exfalso; omega) | omega) hx132
                  · skip
                    have h118 : v115.toInt < f.toInt := h118
                    refine hs (f := dm_lld 98 1) rfl rfl ?_
                    refine hs (f := dm_goto 108) rfl rfl ?_
                    refine hs (f := dm_ild 110 6) rfl rfl ?_
                    refine g_if_eq (n := 113) (tt := 126) rfl (fun h134 => ?_) (fun h134 => ?_)
                    · skip
                      have h134 : ad.toInt = 0 := h134
                      refine hs (f := dm_ild 128 5) rfl rfl ?_
                      refine r_inv rfl hM rfl (as := [.ref 68, .int n, .long f, .int v]) rfl (Nat.le_of_ble_eq_true rfl) (hT_mono (by decide) (r_148 hM n f v (by omega) (by omega)) (fun r1 M136 w => ?_))
                      rcases w with ⟨rfl, rfl, un, uv⟩ | ⟨rfl, uv, hM136⟩
                      · skip
                        have uv : rA b95 (n.toInt - 1) = v.toInt := uv
                        have hx137 : xI (q.2.2.2 92) (q.1 29).toInt f.toInt t.toInt (¬ ad.toInt = 0) b94 n.toInt (if u5.toInt ≤ t.toInt then u5.toInt else if rB (q.2.2.2 92) k.toInt < t.toInt then t.toInt else rB (q.2.2.2 92) k.toInt) := xI_up hx (by first | omega | (repeat' split) <;> omega)
                        refine hs (f := dm_ist 133 7) (lv' := [(7, .int n), (11, .long u5), (10, .int k), (8, .long t), (0, .ref 68), (1, .long f), (3, .long s), (5, .int v), (6, .int ad)]) rfl rfl ?_
                        exact j133s n b94 b95 _ hM (by omega) (by omega) (by omega) (fun z1 z2 z3 => by first | omega | (exfalso; omega)) hx137
                      · skip
                        have uv : 0 < n.toInt → ¬ rA b95 (n.toInt - 1) = v.toInt := uv
                        replace hM136 := rm_to (q' := (sA (sB q 94 (vp_updL b94 n.toInt.toNat f)) 95 (upd b95 n.toInt.toNat v))) hM136 (Eq.trans (congrArg (fun z => sA z 95 (upd b95 n.toInt.toNat v)) (show sB (sA (sB q 94 b94) 95 b95) 94 (vp_updL b94 n.toInt.toNat f) = (sA (sB q 94 (vp_updL b94 n.toInt.toNat f)) 95 b95) from (congrArg (fun z => (sA z 95 b95)) (show sB (sB q 94 b94) 94 (vp_updL b94 n.toInt.toNat f) = (sB q 94 (vp_updL b94 n.toInt.toNat f)) from sB_sB)))) (show sA (sA (sB q 94 (vp_updL b94 n.toInt.toNat f)) 95 b95) 95 (upd b95 n.toInt.toNat v) = (sA (sB q 94 (vp_updL b94 n.toInt.toNat f)) 95 (upd b95 n.toInt.toNat v)) from (show sA (sA (sB q 94 (vp_updL b94 n.toInt.toNat f)) 95 b95) 95 (upd b95 n.toInt.toNat v) = (sA (sB q 94 (vp_updL b94 n.toInt.toNat f)) 95 (upd b95 n.toInt.toNat v)) from sA_sA)))
                        have e138 : (n + 1).toInt = n.toInt + 1 := i_addc 1 rfl (by omega) (by omega)
                        have ul : rA (upd b95 n.toInt.toNat v) ((n + 1).toInt - 1) = v.toInt := by rw [e138]; exact rA_last (by omega)
                        have hx137 : xI (q.2.2.2 92) (q.1 29).toInt f.toInt t.toInt (¬ ad.toInt = 0) (vp_updL b94 n.toInt.toNat f) (n + 1).toInt (if u5.toInt ≤ t.toInt then u5.toInt else if rB (q.2.2.2 92) k.toInt < t.toInt then t.toInt else rB (q.2.2.2 92) k.toInt) := by
                          rw [e138]
                          refine xI_lay hx (by omega) (by first | omega | (repeat' split) <;> omega) (by first | omega | (repeat' split) <;> omega) (by omega) ?_
                          obtain ⟨wi, wi0, wi1, wi2⟩ := wka
                          first
                          | exact Or.inl (by omega)
                          | exact Or.inr (Or.inl (by omega))
                          | exact Or.inr (Or.inr ⟨wi, wi0, wi1, by omega, Or.inr (by omega)⟩)
                          | exact Or.inr (Or.inr ⟨wi, wi0, wi1, by omega, Or.inl (by omega)⟩)
                          | (by_cases z1 : rB (q.2.2.2 92) k.toInt = f.toInt
                             · exact Or.inl (by omega)
                             · exact absurd (hv (by omega) (by omega) (by omega)) (uv (by omega)))
                        refine hs (f := dm_ist 133 7) (lv' := [(7, .int (n + 1)), (11, .long u5), (10, .int k), (8, .long t), (0, .ref 68), (1, .long f), (3, .long s), (5, .int v), (6, .int ad)]) rfl rfl ?_
                        exact j133s (n + 1) (vp_updL b94 n.toInt.toNat f) (upd b95 n.toInt.toNat v) _ hM136 (by omega) (by omega) (by omega) (fun z1 z2 z3 => by first | exact ul | (exfalso; omega) | omega) hx137
                    · skip
                      have h134 : ¬ ad.toInt = 0 := h134
                      refine hs (f := dm_ald 114 0) rfl rfl ?_
                      refine r_geta (c := 90) rfl hM rfl ?_
                      refine hs (f := dm_ild 119 10) rfl rfl ?_
                      refine r_iald (L := 24000) (i := k) ((q.2.2.1 93) k.toInt.toNat) rfl hM rfl (by omega) rfl ?_
                      generalize g140 : (q.2.2.1 93) k.toInt.toNat = v139
                      have x141 : v139.toInt = rA (q.2.2.1 93) k.toInt := rA_of (i := k) g140 rfl
                      refine hs (f := dm_ild 122 5) rfl rfl ?_
                      refine hs (f := dm_ii 123 (fun x y => x + y)) (st' := [.int (v139 + v), .long f, .int n, .ref 68]) rfl rfl ?_
                      refine hs (f := dm_goto 128) rfl rfl ?_
                      refine r_inv rfl hM rfl (as := [.ref 68, .int n, .long f, .int (v139 + v)]) rfl (Nat.le_of_ble_eq_true rfl) (hT_mono (by decide) (r_148 hM n f (v139 + v) (by omega) (by omega)) (fun r1 M143 w => ?_))
                      rcases w with ⟨rfl, rfl, un, uv⟩ | ⟨rfl, uv, hM143⟩
                      · skip
                        have uv : rA b95 (n.toInt - 1) = (v139 + v).toInt := uv
                        have hx144 : xI (q.2.2.2 92) (q.1 29).toInt f.toInt t.toInt (¬ ad.toInt = 0) b94 n.toInt (if u5.toInt ≤ t.toInt then u5.toInt else if rB (q.2.2.2 92) k.toInt < t.toInt then t.toInt else rB (q.2.2.2 92) k.toInt) := xI_up hx (by first | omega | (repeat' split) <;> omega)
                        refine hs (f := dm_ist 133 7) (lv' := [(7, .int n), (11, .long u5), (10, .int k), (8, .long t), (0, .ref 68), (1, .long f), (3, .long s), (5, .int v), (6, .int ad)]) rfl rfl ?_
                        exact j133s n b94 b95 _ hM (by omega) (by omega) (by omega) (fun z1 z2 z3 => by first | omega | (exfalso; omega)) hx144
                      · skip
                        have uv : 0 < n.toInt → ¬ rA b95 (n.toInt - 1) = (v139 + v).toInt := uv
                        replace hM143 := rm_to (q' := (sA (sB q 94 (vp_updL b94 n.toInt.toNat f)) 95 (upd b95 n.toInt.toNat (v139 + v)))) hM143 (Eq.trans (congrArg (fun z => sA z 95 (upd b95 n.toInt.toNat (v139 + v))) (show sB (sA (sB q 94 b94) 95 b95) 94 (vp_updL b94 n.toInt.toNat f) = (sA (sB q 94 (vp_updL b94 n.toInt.toNat f)) 95 b95) from (congrArg (fun z => (sA z 95 b95)) (show sB (sB q 94 b94) 94 (vp_updL b94 n.toInt.toNat f) = (sB q 94 (vp_updL b94 n.toInt.toNat f)) from sB_sB)))) (show sA (sA (sB q 94 (vp_updL b94 n.toInt.toNat f)) 95 b95) 95 (upd b95 n.toInt.toNat (v139 + v)) = (sA (sB q 94 (vp_updL b94 n.toInt.toNat f)) 95 (upd b95 n.toInt.toNat (v139 + v))) from (show sA (sA (sB q 94 (vp_updL b94 n.toInt.toNat f)) 95 b95) 95 (upd b95 n.toInt.toNat (v139 + v)) = (sA (sB q 94 (vp_updL b94 n.toInt.toNat f)) 95 (upd b95 n.toInt.toNat (v139 + v))) from sA_sA)))
                        have e145 : (n + 1).toInt = n.toInt + 1 := i_addc 1 rfl (by omega) (by omega)
                        have ul : rA (upd b95 n.toInt.toNat (v139 + v)) ((n + 1).toInt - 1) = (v139 + v).toInt := by rw [e145]; exact rA_last (by omega)
                        have hx144 : xI (q.2.2.2 92) (q.1 29).toInt f.toInt t.toInt (¬ ad.toInt = 0) (vp_updL b94 n.toInt.toNat f) (n + 1).toInt (if u5.toInt ≤ t.toInt then u5.toInt else if rB (q.2.2.2 92) k.toInt < t.toInt then t.toInt else rB (q.2.2.2 92) k.toInt) := by
                          rw [e145]
                          refine xI_lay hx (by omega) (by first | omega | (repeat' split) <;> omega) (by first | omega | (repeat' split) <;> omega) (by omega) ?_
                          obtain ⟨wi, wi0, wi1, wi2⟩ := wka
                          first
                          | exact Or.inl (by omega)
                          | exact Or.inr (Or.inl (by omega))
                          | exact Or.inr (Or.inr ⟨wi, wi0, wi1, by omega, Or.inr (by omega)⟩)
                          | exact Or.inr (Or.inr ⟨wi, wi0, wi1, by omega, Or.inl (by omega)⟩)
                          | (by_cases z1 : rB (q.2.2.2 92) k.toInt = f.toInt
                             · exact Or.inl (by omega)
                             · exact absurd (hv (by omega) (by omega) (by omega)) (uv (by omega)))
                        refine hs (f := dm_ist 133 7) (lv' := [(7, .int (n + 1)), (11, .long u5), (10, .int k), (8, .long t), (0, .ref 68), (1, .long f), (3, .long s), (5, .int v), (6, .int ad)]) rfl rfl ?_
                        exact j133s (n + 1) (vp_updL b94 n.toInt.toNat f) (upd b95 n.toInt.toNat (v139 + v)) _ hM143 (by omega) (by omega) (by omega) (fun z1 z2 z3 => by first | exact ul | (exfalso; omega) | omega) hx144
          have j62s : ∀ (n : Int32) (b94 : Nat → Int64) (b95 : Nat → Int32) (M : dm_Mem), Rm X (sA (sB q 94 b94) 95 b95) M → (0 ≤ n.toInt) → (1 ≤ n.toInt ∨ (k.toInt = 0 ∧ f.toInt = 0)) → (n.toInt ≤ k.toInt + 2) → (rB (q.2.2.2 92) k.toInt ≤ t.toInt → n.toInt ≤ k.toInt + 1) → (rB (q.2.2.2 92) k.toInt = f.toInt → n.toInt ≤ k.toInt) → (rB (q.2.2.2 92) k.toInt < f.toInt) → (ad.toInt = 0 → f.toInt < rB (q.2.2.2 92) k.toInt → rB (q.2.2.2 92) k.toInt < t.toInt → rA b95 (n.toInt - 1) = v.toInt) → (xI (q.2.2.2 92) (q.1 29).toInt f.toInt t.toInt (¬ ad.toInt = 0) b94 n.toInt (if rB (q.2.2.2 92) k.toInt < f.toInt then rB (q.2.2.2 92) k.toInt + 1 else rB (q.2.2.2 92) k.toInt)) → hG 1 cd_150 62 [(7, .int n), (11, .long u5), (10, .int k), (8, .long t), (0, .ref 68), (1, .long f), (3, .long s), (5, .int v), (6, .int ad)] [] M (fun r M' => r = none ∧ ∃ (n : Int32) (b92 b94 : Nat → Int64) (b93 b95 : Nat → Int32), wS b92 n.toInt ∧ n.toInt ≤ (q.1 29).toInt + 2 ∧ (∀ i : Int, 0 ≤ i → i < n.toInt → rB b92 i = f.toInt ∨ rB b92 i = f.toInt + s.toInt ∨ ∃ k : Int, 0 ≤ k ∧ k < (q.1 29).toInt ∧ rB b92 i = rB (q.2.2.2 92) k ∧ (¬ ad.toInt = 0 ∨ ¬ (f.toInt < rB (q.2.2.2 92) k ∧ rB (q.2.2.2 92) k < f.toInt + s.toInt))) ∧ Rm X (sA (sA (sB (sB (sF q 29 n) 92 b92) 94 b94) 93 b93) 95 b95) M') := by
            intro n b94 b95 M hM m0 m1 m2 m3 m4 m5 hv hx
            refine hs (f := dm_lld 64 11) rfl rfl ?_
            refine hs (f := dm_lld 65 1) rfl rfl ?_
            refine g_lc_le (x := u5) (y := f) (m := 66) (n := 69) (tt := 133) rfl rfl (fun h146 => ?_) (fun h146 => ?_)
            · skip
              have h146 : u5.toInt ≤ f.toInt := h146
              exact j133s n b94 b95 _ hM (by omega) (by omega) (by omega) (fun z1 z2 z3 => by first | exact hv z1 (by omega) (by omega) | (exfalso; omega)) (xI_up hx (by first | omega | (repeat' split) <;> omega))
            · skip
              have h146 : u5.toInt > f.toInt := h146
              refine hs (f := dm_ald 70 0) rfl rfl ?_
              refine r_geta (c := 89) rfl hM rfl ?_
              refine hs (f := dm_ild 75 10) rfl rfl ?_
              refine r_lald (L := 24000) (i := k) ((q.2.2.2 92) k.toInt.toNat) rfl hM rfl (by omega) rfl ?_
              generalize g148 : (q.2.2.2 92) k.toInt.toNat = v147
              have x149 : v147.toInt = rB (q.2.2.2 92) k.toInt := rB_of (i := k) g148 rfl
              refine hs (f := dm_lld 78 8) rfl rfl ?_
              refine g_lc_ge (x := v147) (y := t) (m := 79) (n := 82) (tt := 133) rfl rfl (fun h150 => ?_) (fun h150 => ?_)
              · skip
                have h150 : v147.toInt ≥ t.toInt := h150
                exact j133s n b94 b95 _ hM (by omega) (by omega) (by omega) (fun z1 z2 z3 => by first | exact hv z1 (by omega) (by omega) | (exfalso; omega)) (xI_up hx (by first | omega | (repeat' split) <;> omega))
              · skip
                have h150 : v147.toInt < t.toInt := h150
                refine hs (f := dm_ald 83 0) rfl rfl ?_
                refine hs (f := dm_ild 85 7) rfl rfl ?_
                refine hs (f := dm_ald 86 0) rfl rfl ?_
                refine r_geta (c := 89) rfl hM rfl ?_
                refine hs (f := dm_ild 91 10) rfl rfl ?_
                refine r_lald (L := 24000) (i := k) ((q.2.2.2 92) k.toInt.toNat) rfl hM rfl (by omega) rfl ?_
                generalize g152 : (q.2.2.2 92) k.toInt.toNat = v151
                have x153 : v151.toInt = rB (q.2.2.2 92) k.toInt := rB_of (i := k) g152 rfl
                refine hs (f := dm_lld 93 1) rfl rfl ?_
                refine g_lc_ge (x := v151) (y := f) (m := 94) (n := 97) (tt := 101) rfl rfl (fun h154 => ?_) (fun h154 => ?_)
                · skip
                  have h154 : v151.toInt ≥ f.toInt := h154
                  refine hs (f := dm_ald 102 0) rfl rfl ?_
                  refine r_geta (c := 89) rfl hM rfl ?_
                  refine hs (f := dm_ild 107 10) rfl rfl ?_
                  refine r_lald (L := 24000) (i := k) ((q.2.2.2 92) k.toInt.toNat) rfl hM rfl (by omega) rfl ?_
                  generalize g156 : (q.2.2.2 92) k.toInt.toNat = v155
                  have x157 : v155.toInt = rB (q.2.2.2 92) k.toInt := rB_of (i := k) g156 rfl
                  refine hs (f := dm_ild 110 6) rfl rfl ?_
                  refine g_if_eq (n := 113) (tt := 126) rfl (fun h158 => ?_) (fun h158 => ?_)
                  · skip
                    have h158 : ad.toInt = 0 := h158
                    refine hs (f := dm_ild 128 5) rfl rfl ?_
                    refine r_inv rfl hM rfl (as := [.ref 68, .int n, .long v155, .int v]) rfl (Nat.le_of_ble_eq_true rfl) (hT_mono (by decide) (r_148 hM n v155 v (by omega) (by omega)) (fun r1 M160 w => ?_))
                    rcases w with ⟨rfl, rfl, un, uv⟩ | ⟨rfl, uv, hM160⟩
                    · skip
                      have uv : rA b95 (n.toInt - 1) = v.toInt := uv
                      have hx161 : xI (q.2.2.2 92) (q.1 29).toInt f.toInt t.toInt (¬ ad.toInt = 0) b94 n.toInt (if u5.toInt ≤ t.toInt then u5.toInt else if rB (q.2.2.2 92) k.toInt < t.toInt then t.toInt else rB (q.2.2.2 92) k.toInt) := xI_up hx (by first | omega | (repeat' split) <;> omega)
                      refine hs (f := dm_ist 133 7) (lv' := [(7, .int n), (11, .long u5), (10, .int k), (8, .long t), (0, .ref 68), (1, .long f), (3, .long s), (5, .int v), (6, .int ad)]) rfl rfl ?_
                      exact j133s n b94 b95 _ hM (by omega) (by omega) (by omega) (fun z1 z2 z3 => by first | omega | (exfalso; omega)) hx161
                    · skip
                      have uv : 0 < n.toInt → ¬ rA b95 (n.toInt - 1) = v.toInt := uv
                      replace hM160 := rm_to (q' := (sA (sB q 94 (vp_updL b94 n.toInt.toNat v155)) 95 (upd b95 n.toInt.toNat v))) hM160 (Eq.trans (congrArg (fun z => sA z 95 (upd b95 n.toInt.toNat v)) (show sB (sA (sB q 94 b94) 95 b95) 94 (vp_updL b94 n.toInt.toNat v155) = (sA (sB q 94 (vp_updL b94 n.toInt.toNat v155)) 95 b95) from (congrArg (fun z => (sA z 95 b95)) (show sB (sB q 94 b94) 94 (vp_updL b94 n.toInt.toNat v155) = (sB q 94 (vp_updL b94 n.toInt.toNat v155)) from sB_sB)))) (show sA (sA (sB q 94 (vp_updL b94 n.toInt.toNat v155)) 95 b95) 95 (upd b95 n.toInt.toNat v) = (sA (sB q 94 (vp_updL b94 n.toInt.toNat v155)) 95 (upd b95 n.toInt.toNat v)) from (show sA (sA (sB q 94 (vp_updL b94 n.toInt.toNat v155)) 95 b95) 95 (upd b95 n.toInt.toNat v) = (sA (sB q 94 (vp_updL b94 n.toInt.toNat v155)) 95 (upd b95 n.toInt.toNat v)) from sA_sA)))
                      have e162 : (n + 1).toInt = n.toInt + 1 := i_addc 1 rfl (by omega) (by omega)
                      have ul : rA (upd b95 n.toInt.toNat v) ((n + 1).toInt - 1) = v.toInt := by rw [e162]; exact rA_last (by omega)
                      have hx161 : xI (q.2.2.2 92) (q.1 29).toInt f.toInt t.toInt (¬ ad.toInt = 0) (vp_updL b94 n.toInt.toNat v155) (n + 1).toInt (if u5.toInt ≤ t.toInt then u5.toInt else if rB (q.2.2.2 92) k.toInt < t.toInt then t.toInt else rB (q.2.2.2 92) k.toInt) := by
                        rw [e162]
                        refine xI_lay hx (by omega) (by first | omega | (repeat' split) <;> omega) (by first | omega | (repeat' split) <;> omega) (by omega) ?_
                        obtain ⟨wi, wi0, wi1, wi2⟩ := wka
                        first
                        | exact Or.inl (by omega)
                        | exact Or.inr (Or.inl (by omega))
                        | exact Or.inr (Or.inr ⟨wi, wi0, wi1, by omega, Or.inr (by omega)⟩)
                        | exact Or.inr (Or.inr ⟨wi, wi0, wi1, by omega, Or.inl (by omega)⟩)
                        | (by_cases z1 : rB (q.2.2.2 92) k.toInt = f.toInt
                           · exact Or.inl (by omega)
                           · exact absurd (hv (by omega) (by omega) (by omega)) (uv (by omega)))
                      refine hs (f := dm_ist 133 7) (lv' := [(7, .int (n + 1)), (11, .long u5), (10, .int k), (8, .long t), (0, .ref 68), (1, .long f), (3, .long s), (5, .int v), (6, .int ad)]) rfl rfl ?_
                      exact j133s (n + 1) (vp_updL b94 n.toInt.toNat v155) (upd b95 n.toInt.toNat v) _ hM160 (by omega) (by omega) (by omega) (fun z1 z2 z3 => by first | exact ul | (exfalso; omega) | omega) hx161
                  · skip
                    have h158 : ¬ ad.toInt = 0 := h158
                    refine hs (f := dm_ald 114 0) rfl rfl ?_
                    refine r_geta (c := 90) rfl hM rfl ?_
                    refine hs (f := dm_ild 119 10) rfl rfl ?_
                    refine r_iald (L := 24000) (i := k) ((q.2.2.1 93) k.toInt.toNat) rfl hM rfl (by omega) rfl ?_
                    generalize g164 : (q.2.2.1 93) k.toInt.toNat = v163
                    have x165 : v163.toInt = rA (q.2.2.1 93) k.toInt := rA_of (i := k) g164 rfl
                    refine hs (f := dm_ild 122 5) rfl rfl ?_
                    refine hs (f := dm_ii 123 (fun x y => x + y)) (st' := [.int (v163 + v), .long v155, .int n, .ref 68]) rfl rfl ?_
                    refine hs (f := dm_goto 128) rfl rfl ?_
                    refine r_inv rfl hM rfl (as := [.ref 68, .int n, .long v155, .int (v163 + v)]) rfl (Nat.le_of_ble_eq_true rfl) (hT_mono (by decide) (r_148 hM n v155 (v163 + v) (by omega) (by omega)) (fun r1 M167 w => ?_))
                    rcases w with ⟨rfl, rfl, un, uv⟩ | ⟨rfl, uv, hM167⟩
                    · skip
                      have uv : rA b95 (n.toInt - 1) = (v163 + v).toInt := uv
                      have hx168 : xI (q.2.2.2 92) (q.1 29).toInt f.toInt t.toInt (¬ ad.toInt = 0) b94 n.toInt (if u5.toInt ≤ t.toInt then u5.toInt else if rB (q.2.2.2 92) k.toInt < t.toInt then t.toInt else rB (q.2.2.2 92) k.toInt) := xI_up hx (by first | omega | (repeat' split) <;> omega)
                      refine hs (f := dm_ist 133 7) (lv' := [(7, .int n), (11, .long u5), (10, .int k), (8, .long t), (0, .ref 68), (1, .long f), (3, .long s), (5, .int v), (6, .int ad)]) rfl rfl ?_
                      exact j133s n b94 b95 _ hM (by omega) (by omega) (by omega) (fun z1 z2 z3 => by first | omega | (exfalso; omega)) hx168
                    · skip
                      have uv : 0 < n.toInt → ¬ rA b95 (n.toInt - 1) = (v163 + v).toInt := uv
                      replace hM167 := rm_to (q' := (sA (sB q 94 (vp_updL b94 n.toInt.toNat v155)) 95 (upd b95 n.toInt.toNat (v163 + v)))) hM167 (Eq.trans (congrArg (fun z => sA z 95 (upd b95 n.toInt.toNat (v163 + v))) (show sB (sA (sB q 94 b94) 95 b95) 94 (vp_updL b94 n.toInt.toNat v155) = (sA (sB q 94 (vp_updL b94 n.toInt.toNat v155)) 95 b95) from (congrArg (fun z => (sA z 95 b95)) (show sB (sB q 94 b94) 94 (vp_updL b94 n.toInt.toNat v155) = (sB q 94 (vp_updL b94 n.toInt.toNat v155)) from sB_sB)))) (show sA (sA (sB q 94 (vp_updL b94 n.toInt.toNat v155)) 95 b95) 95 (upd b95 n.toInt.toNat (v163 + v)) = (sA (sB q 94 (vp_updL b94 n.toInt.toNat v155)) 95 (upd b95 n.toInt.toNat (v163 + v))) from (show sA (sA (sB q 94 (vp_updL b94 n.toInt.toNat v155)) 95 b95) 95 (upd b95 n.toInt.toNat (v163 + v)) = (sA (sB q 94 (vp_updL b94 n.toInt.toNat v155)) 95 (upd b95 n.toInt.toNat (v163 + v))) from sA_sA)))
                      have e169 : (n + 1).toInt = n.toInt + 1 := i_addc 1 rfl (by omega) (by omega)
                      have ul : rA (upd b95 n.toInt.toNat (v163 + v)) ((n + 1).toInt - 1) = (v163 + v).toInt := by rw [e169]; exact rA_last (by omega)
                      have hx168 : xI (q.2.2.2 92) (q.1 29).toInt f.toInt t.toInt (¬ ad.toInt = 0) (vp_updL b94 n.toInt.toNat v155) (n + 1).toInt (if u5.toInt ≤ t.toInt then u5.toInt else if rB (q.2.2.2 92) k.toInt < t.toInt then t.toInt else rB (q.2.2.2 92) k.toInt) := by
                        rw [e169]
                        refine xI_lay hx (by omega) (by first | omega | (repeat' split) <;> omega) (by first | omega | (repeat' split) <;> omega) (by omega) ?_
                        obtain ⟨wi, wi0, wi1, wi2⟩ := wka
                        first
                        | exact Or.inl (by omega)
                        | exact Or.inr (Or.inl (by omega))
                        | exact Or.inr (Or.inr ⟨wi, wi0, wi1, by omega, Or.inr (by omega)⟩)
                        | exact Or.inr (Or.inr ⟨wi, wi0, wi1, by omega, Or.inl (by omega)⟩)
                        | (by_cases z1 : rB (q.2.2.2 92) k.toInt = f.toInt
                           · exact Or.inl (by omega)
                           · exact absurd (hv (by omega) (by omega) (by omega)) (uv (by omega)))
                      refine hs (f := dm_ist 133 7) (lv' := [(7, .int (n + 1)), (11, .long u5), (10, .int k), (8, .long t), (0, .ref 68), (1, .long f), (3, .long s), (5, .int v), (6, .int ad)]) rfl rfl ?_
                      exact j133s (n + 1) (vp_updL b94 n.toInt.toNat v155) (upd b95 n.toInt.toNat (v163 + v)) _ hM167 (by omega) (by omega) (by omega) (fun z1 z2 z3 => by first | exact ul | (exfalso; omega) | omega) hx168
                · skip
                  have h154 : v151.toInt < f.toInt := h154
                  refine hs (f := dm_lld 98 1) rfl rfl ?_
                  refine hs (f := dm_goto 108) rfl rfl ?_
                  refine hs (f := dm_ild 110 6) rfl rfl ?_
                  refine g_if_eq (n := 113) (tt := 126) rfl (fun h170 => ?_) (fun h170 => ?_)
                  · skip
                    have h170 : ad.toInt = 0 := h170
                    refine hs (f := dm_ild 128 5) rfl rfl ?_
                    refine r_inv rfl hM rfl (as := [.ref 68, .int n, .long f, .int v]) rfl (Nat.le_of_ble_eq_true rfl) (hT_mono (by decide) (r_148 hM n f v (by omega) (by omega)) (fun r1 M172 w => ?_))
                    rcases w with ⟨rfl, rfl, un, uv⟩ | ⟨rfl, uv, hM172⟩
                    · skip
                      have uv : rA b95 (n.toInt - 1) = v.toInt := uv
                      have hx173 : xI (q.2.2.2 92) (q.1 29).toInt f.toInt t.toInt (¬ ad.toInt = 0) b94 n.toInt (if u5.toInt ≤ t.toInt then u5.toInt else if rB (q.2.2.2 92) k.toInt < t.toInt then t.toInt else rB (q.2.2.2 92) k.toInt) := xI_up hx (by first | omega | (repeat' split) <;> omega)
                      refine hs (f := dm_ist 133 7) (lv' := [(7, .int n), (11, .long u5), (10, .int k), (8, .long t), (0, .ref 68), (1, .long f), (3, .long s), (5, .int v), (6, .int ad)]) rfl rfl ?_
                      exact j133s n b94 b95 _ hM (by omega) (by omega) (by omega) (fun z1 z2 z3 => by first | omega | (exfalso; omega)) hx173
                    · skip
                      have uv : 0 < n.toInt → ¬ rA b95 (n.toInt - 1) = v.toInt := uv
                      replace hM172 := rm_to (q' := (sA (sB q 94 (vp_updL b94 n.toInt.toNat f)) 95 (upd b95 n.toInt.toNat v))) hM172 (Eq.trans (congrArg (fun z => sA z 95 (upd b95 n.toInt.toNat v)) (show sB (sA (sB q 94 b94) 95 b95) 94 (vp_updL b94 n.toInt.toNat f) = (sA (sB q 94 (vp_updL b94 n.toInt.toNat f)) 95 b95) from (congrArg (fun z => (sA z 95 b95)) (show sB (sB q 94 b94) 94 (vp_updL b94 n.toInt.toNat f) = (sB q 94 (vp_updL b94 n.toInt.toNat f)) from sB_sB)))) (show sA (sA (sB q 94 (vp_updL b94 n.toInt.toNat f)) 95 b95) 95 (upd b95 n.toInt.toNat v) = (sA (sB q 94 (vp_updL b94 n.toInt.toNat f)) 95 (upd b95 n.toInt.toNat v)) from (show sA (sA (sB q 94 (vp_updL b94 n.toInt.toNat f)) 95 b95) 95 (upd b95 n.toInt.toNat v) = (sA (sB q 94 (vp_updL b94 n.toInt.toNat f)) 95 (upd b95 n.toInt.toNat v)) from sA_sA)))
                      have e174 : (n + 1).toInt = n.toInt + 1 := i_addc 1 rfl (by omega) (by omega)
                      have ul : rA (upd b95 n.toInt.toNat v) ((n + 1).toInt - 1) = v.toInt := by rw [e174]; exact rA_last (by omega)
                      have hx173 : xI (q.2.2.2 92) (q.1 29).toInt f.toInt t.toInt (¬ ad.toInt = 0) (vp_updL b94 n.toInt.toNat f) (n + 1).toInt (if u5.toInt ≤ t.toInt then u5.toInt else if rB (q.2.2.2 92) k.toInt < t.toInt then t.toInt else rB (q.2.2.2 92) k.toInt) := by
                        rw [e174]
                        refine xI_lay hx (by omega) (by first | omega | (repeat' split) <;> omega) (by first | omega | (repeat' split) <;> omega) (by omega) ?_
                        obtain ⟨wi, wi0, wi1, wi2⟩ := wka
                        first
                        | exact Or.inl (by omega)
                        | exact Or.inr (Or.inl (by omega))
                        | exact Or.inr (Or.inr ⟨wi, wi0, wi1, by omega, Or.inr (by omega)⟩)
                        | exact Or.inr (Or.inr ⟨wi, wi0, wi1, by omega, Or.inl (by omega)⟩)
                        | (by_cases z1 : rB (q.2.2.2 92) k.toInt = f.toInt
                           · exact Or.inl (by omega)
                           · exact absurd (hv (by omega) (by omega) (by omega)) (uv (by omega)))
                      refine hs (f := dm_ist 133 7) (lv' := [(7, .int (n + 1)), (11, .long u5), (10, .int k), (8, .long t), (0, .ref 68), (1, .long f), (3, .long s), (5, .int v), (6, .int ad)]) rfl rfl ?_
                      exact j133s (n + 1) (vp_updL b94 n.toInt.toNat f) (upd b95 n.toInt.toNat v) _ hM172 (by omega) (by omega) (by omega) (fun z1 z2 z3 => by first | exact ul | (exfalso; omega) | omega) hx173
                  · skip
                    have h170 : ¬ ad.toInt = 0 := h170
                    refine hs (f := dm_ald 114 0) rfl rfl ?_
                    refine r_geta (c := 90) rfl hM rfl ?_
                    refine hs (f := dm_ild 119 10) rfl rfl ?_
                    refine r_iald (L := 24000) (i := k) ((q.2.2.1 93) k.toInt.toNat) rfl hM rfl (by omega) rfl ?_
                    generalize g176 : (q.2.2.1 93) k.toInt.toNat = v175
                    have x177 : v175.toInt = rA (q.2.2.1 93) k.toInt := rA_of (i := k) g176 rfl
                    refine hs (f := dm_ild 122 5) rfl rfl ?_
                    refine hs (f := dm_ii 123 (fun x y => x + y)) (st' := [.int (v175 + v), .long f, .int n, .ref 68]) rfl rfl ?_
                    refine hs (f := dm_goto 128) rfl rfl ?_
                    refine r_inv rfl hM rfl (as := [.ref 68, .int n, .long f, .int (v175 + v)]) rfl (Nat.le_of_ble_eq_true rfl) (hT_mono (by decide) (r_148 hM n f (v175 + v) (by omega) (by omega)) (fun r1 M179 w => ?_))
                    rcases w with ⟨rfl, rfl, un, uv⟩ | ⟨rfl, uv, hM179⟩
                    · skip
                      have uv : rA b95 (n.toInt - 1) = (v175 + v).toInt := uv
                      have hx180 : xI (q.2.2.2 92) (q.1 29).toInt f.toInt t.toInt (¬ ad.toInt = 0) b94 n.toInt (if u5.toInt ≤ t.toInt then u5.toInt else if rB (q.2.2.2 92) k.toInt < t.toInt then t.toInt else rB (q.2.2.2 92) k.toInt) := xI_up hx (by first | omega | (repeat' split) <;> omega)
                      refine hs (f := dm_ist 133 7) (lv' := [(7, .int n), (11, .long u5), (10, .int k), (8, .long t), (0, .ref 68), (1, .long f), (3, .long s), (5, .int v), (6, .int ad)]) rfl rfl ?_
                      exact j133s n b94 b95 _ hM (by omega) (by omega) (by omega) (fun z1 z2 z3 => by first | omega | (exfalso; omega)) hx180
                    · skip
                      have uv : 0 < n.toInt → ¬ rA b95 (n.toInt - 1) = (v175 + v).toInt := uv
                      replace hM179 := rm_to (q' := (sA (sB q 94 (vp_updL b94 n.toInt.toNat f)) 95 (upd b95 n.toInt.toNat (v175 + v)))) hM179 (Eq.trans (congrArg (fun z => sA z 95 (upd b95 n.toInt.toNat (v175 + v))) (show sB (sA (sB q 94 b94) 95 b95) 94 (vp_updL b94 n.toInt.toNat f) = (sA (sB q 94 (vp_updL b94 n.toInt.toNat f)) 95 b95) from (congrArg (fun z => (sA z 95 b95)) (show sB (sB q 94 b94) 94 (vp_updL b94 n.toInt.toNat f) = (sB q 94 (vp_updL b94 n.toInt.toNat f)) from sB_sB)))) (show sA (sA (sB q 94 (vp_updL b94 n.toInt.toNat f)) 95 b95) 95 (upd b95 n.toInt.toNat (v175 + v)) = (sA (sB q 94 (vp_updL b94 n.toInt.toNat f)) 95 (upd b95 n.toInt.toNat (v175 + v))) from (show sA (sA (sB q 94 (vp_updL b94 n.toInt.toNat f)) 95 b95) 95 (upd b95 n.toInt.toNat (v175 + v)) = (sA (sB q 94 (vp_updL b94 n.toInt.toNat f)) 95 (upd b95 n.toInt.toNat (v175 + v))) from sA_sA)))
                      have e181 : (n + 1).toInt = n.toInt + 1 := i_addc 1 rfl (by omega) (by omega)
                      have ul : rA (upd b95 n.toInt.toNat (v175 + v)) ((n + 1).toInt - 1) = (v175 + v).toInt := by rw [e181]; exact rA_last (by omega)
                      have hx180 : xI (q.2.2.2 92) (q.1 29).toInt f.toInt t.toInt (¬ ad.toInt = 0) (vp_updL b94 n.toInt.toNat f) (n + 1).toInt (if u5.toInt ≤ t.toInt then u5.toInt else if rB (q.2.2.2 92) k.toInt < t.toInt then t.toInt else rB (q.2.2.2 92) k.toInt) := by
                        rw [e181]
                        refine xI_lay hx (by omega) (by first | omega | (repeat' split) <;> omega) (by first | omega | (repeat' split) <;> omega) (by omega) ?_
                        obtain ⟨wi, wi0, wi1, wi2⟩ := wka
                        first
                        | exact Or.inl (by omega)
                        | exact Or.inr (Or.inl (by omega))
                        | exact Or.inr (Or.inr ⟨wi, wi0, wi1, by omega, Or.inr (by omega)⟩)
                        | exact Or.inr (Or.inr ⟨wi, wi0, wi1, by omega, Or.inl (by omega)⟩)
                        | (by_cases z1 : rB (q.2.2.2 92) k.toInt = f.toInt
                           · exact Or.inl (by omega)
                           · exact absurd (hv (by omega) (by omega) (by omega)) (uv (by omega)))
                      refine hs (f := dm_ist 133 7) (lv' := [(7, .int (n + 1)), (11, .long u5), (10, .int k), (8, .long t), (0, .ref 68), (1, .long f), (3, .long s), (5, .int v), (6, .int ad)]) rfl rfl ?_
                      exact j133s (n + 1) (vp_updL b94 n.toInt.toNat f) (upd b95 n.toInt.toNat (v175 + v)) _ hM179 (by omega) (by omega) (by omega) (fun z1 z2 z3 => by first | exact ul | (exfalso; omega) | omega) hx180
          refine hs (f := dm_ald 29 0) rfl rfl ?_
          refine r_geta (c := 89) rfl hM rfl ?_
          refine hs (f := dm_ild 34 10) rfl rfl ?_
          refine r_lald (L := 24000) (i := k) ((q.2.2.2 92) k.toInt.toNat) rfl hM rfl (by omega) rfl ?_
          generalize g183 : (q.2.2.2 92) k.toInt.toNat = v182
          have x184 : v182.toInt = rB (q.2.2.2 92) k.toInt := rB_of (i := k) g183 rfl
          refine hs (f := dm_lld 36 1) rfl rfl ?_
          refine g_lc_ge (x := v182) (y := f) (m := 37) (n := 40) (tt := 62) rfl rfl (fun h185 => ?_) (fun h185 => ?_)
          · skip
            have h185 : v182.toInt ≥ f.toInt := h185
            exact j62n.1 n b94 b95 _ hM (by omega) (by omega) (by omega) (by omega) (by omega) (by omega) (fun z1 z2 z3 => by first | exact hv z1 (by omega) (by omega) | (exfalso; omega)) (xI_up hx (by first | omega | (repeat' split) <;> omega))
          · skip
            have h185 : v182.toInt < f.toInt := h185
            refine hs (f := dm_ald 41 0) rfl rfl ?_
            refine hs (f := dm_ild 43 7) rfl rfl ?_
            refine hs (f := dm_ald 44 0) rfl rfl ?_
            refine r_geta (c := 89) rfl hM rfl ?_
            refine hs (f := dm_ild 49 10) rfl rfl ?_
            refine r_lald (L := 24000) (i := k) ((q.2.2.2 92) k.toInt.toNat) rfl hM rfl (by omega) rfl ?_
            generalize g187 : (q.2.2.2 92) k.toInt.toNat = v186
            have x188 : v186.toInt = rB (q.2.2.2 92) k.toInt := rB_of (i := k) g187 rfl
            refine hs (f := dm_ald 51 0) rfl rfl ?_
            refine r_geta (c := 90) rfl hM rfl ?_
            refine hs (f := dm_ild 56 10) rfl rfl ?_
            refine r_iald (L := 24000) (i := k) ((q.2.2.1 93) k.toInt.toNat) rfl hM rfl (by omega) rfl ?_
            generalize g190 : (q.2.2.1 93) k.toInt.toNat = v189
            have x191 : v189.toInt = rA (q.2.2.1 93) k.toInt := rA_of (i := k) g190 rfl
            refine r_inv rfl hM rfl (as := [.ref 68, .int n, .long v186, .int v189]) rfl (Nat.le_of_ble_eq_true rfl) (hT_mono (by decide) (r_148 hM n v186 v189 (by omega) (by omega)) (fun r1 M193 w => ?_))
            rcases w with ⟨rfl, rfl, un, uv⟩ | ⟨rfl, uv, hM193⟩
            · skip
              have uv : rA b95 (n.toInt - 1) = v189.toInt := uv
              have hx194 : xI (q.2.2.2 92) (q.1 29).toInt f.toInt t.toInt (¬ ad.toInt = 0) b94 n.toInt (if rB (q.2.2.2 92) k.toInt < f.toInt then rB (q.2.2.2 92) k.toInt + 1 else rB (q.2.2.2 92) k.toInt) := xI_up hx (by first | omega | (repeat' split) <;> omega)
              refine hs (f := dm_ist 62 7) (lv' := [(7, .int n), (11, .long u5), (10, .int k), (8, .long t), (0, .ref 68), (1, .long f), (3, .long s), (5, .int v), (6, .int ad)]) rfl rfl ?_
              exact j62s n b94 b95 _ hM (by omega) (by omega) (by omega) (by omega) (by omega) (by omega) (fun z1 z2 z3 => by first | omega | (exfalso; omega)) hx194
            · skip
              have uv : 0 < n.toInt → ¬ rA b95 (n.toInt - 1) = v189.toInt := uv
              replace hM193 := rm_to (q' := (sA (sB q 94 (vp_updL b94 n.toInt.toNat v186)) 95 (upd b95 n.toInt.toNat v189))) hM193 (Eq.trans (congrArg (fun z => sA z 95 (upd b95 n.toInt.toNat v189)) (show sB (sA (sB q 94 b94) 95 b95) 94 (vp_updL b94 n.toInt.toNat v186) = (sA (sB q 94 (vp_updL b94 n.toInt.toNat v186)) 95 b95) from (congrArg (fun z => (sA z 95 b95)) (show sB (sB q 94 b94) 94 (vp_updL b94 n.toInt.toNat v186) = (sB q 94 (vp_updL b94 n.toInt.toNat v186)) from sB_sB)))) (show sA (sA (sB q 94 (vp_updL b94 n.toInt.toNat v186)) 95 b95) 95 (upd b95 n.toInt.toNat v189) = (sA (sB q 94 (vp_updL b94 n.toInt.toNat v186)) 95 (upd b95 n.toInt.toNat v189)) from (show sA (sA (sB q 94 (vp_updL b94 n.toInt.toNat v186)) 95 b95) 95 (upd b95 n.toInt.toNat v189) = (sA (sB q 94 (vp_updL b94 n.toInt.toNat v186)) 95 (upd b95 n.toInt.toNat v189)) from sA_sA)))
              have e195 : (n + 1).toInt = n.toInt + 1 := i_addc 1 rfl (by omega) (by omega)
              have ul : rA (upd b95 n.toInt.toNat v189) ((n + 1).toInt - 1) = v189.toInt := by rw [e195]; exact rA_last (by omega)
              have hx194 : xI (q.2.2.2 92) (q.1 29).toInt f.toInt t.toInt (¬ ad.toInt = 0) (vp_updL b94 n.toInt.toNat v186) (n + 1).toInt (if rB (q.2.2.2 92) k.toInt < f.toInt then rB (q.2.2.2 92) k.toInt + 1 else rB (q.2.2.2 92) k.toInt) := by
                rw [e195]
                refine xI_lay hx (by omega) (by first | omega | (repeat' split) <;> omega) (by first | omega | (repeat' split) <;> omega) (by omega) ?_
                obtain ⟨wi, wi0, wi1, wi2⟩ := wka
                first
                | exact Or.inl (by omega)
                | exact Or.inr (Or.inl (by omega))
                | exact Or.inr (Or.inr ⟨wi, wi0, wi1, by omega, Or.inr (by omega)⟩)
                | exact Or.inr (Or.inr ⟨wi, wi0, wi1, by omega, Or.inl (by omega)⟩)
                | (by_cases z1 : rB (q.2.2.2 92) k.toInt = f.toInt
                   · exact Or.inl (by omega)
                   · exact absurd (hv (by omega) (by omega) (by omega)) (uv (by omega)))
              refine hs (f := dm_ist 62 7) (lv' := [(7, .int (n + 1)), (11, .long u5), (10, .int k), (8, .long t), (0, .ref 68), (1, .long f), (3, .long s), (5, .int v), (6, .int ad)]) rfl rfl ?_
              exact j62s (n + 1) (vp_updL b94 n.toInt.toNat v186) (upd b95 n.toInt.toNat v189) _ hM193 (by omega) (by omega) (by omega) (by omega) (by omega) (by omega) (fun z1 z2 z3 => by first | exact ul | (exfalso; omega) | omega) hx194
      · skip
        intro k n e b94 b95 M hM k0 k1 m0 m2 m3 m4 m1 hv hx hms
        refine hs (f := dm_ild 13 10) rfl rfl ?_
        refine hs (f := dm_ald 14 0) rfl rfl ?_
        refine r_geti (q.1 29) rfl hM rfl rfl ?_
        refine g_ic_ge (n := 20) (tt := 187) rfl (fun h196 => ?_) (fun h196 => ?_)
        · skip
          have h196 : k.toInt ≥ (q.1 29).toInt := h196
          refine hs (f := dm_ald 188 0) rfl rfl ?_
          refine hs (f := dm_ild 190 7) rfl rfl ?_
          rw [if_neg (show ¬ k.toInt < (q.1 29).toInt by omega)] at hx
          refine r_inv rfl hM rfl (as := [.ref 68, .int n]) rfl (Nat.le_of_ble_eq_true rfl) (hT_mono (by decide) (r_149 hM n (by omega) (by omega)) (fun r1 M197 w => ?_))
          obtain ⟨rfl, b1, b2, hb, hM197⟩ := w
          replace hM197 := rm_to (q' := (sA (sA (sB (sB (sF q 29 n) 92 b1) 94 b94) 93 b2) 95 b95)) hM197 (Eq.trans (congrArg (fun z => sA z 93 b2) (Eq.trans (congrArg (fun z => sB z 92 b1) (show sF (sA (sB q 94 b94) 95 b95) 29 n = (sA (sB (sF q 29 n) 94 b94) 95 b95) from (congrArg (fun z => (sA (sB z 94 b94) 95 b95)) (show sF q 29 n = (sF q 29 n) from rfl)))) (show sB (sA (sB (sF q 29 n) 94 b94) 95 b95) 92 b1 = (sA (sB (sB (sF q 29 n) 92 b1) 94 b94) 95 b95) from (congrArg (fun z => (sA z 95 b95)) (show sB (sB (sF q 29 n) 94 b94) 92 b1 = (sB (sB (sF q 29 n) 92 b1) 94 b94) from Eq.trans (show sB (sB (sF q 29 n) 94 b94) 92 b1 = sB (sB (sF q 29 n) 92 b1) 94 b94 from sB_cm (by decide)) (congrArg (fun z => sB z 94 b94) (show sB (sF q 29 n) 92 b1 = (sB (sF q 29 n) 92 b1) from rfl))))))) (show sA (sA (sB (sB (sF q 29 n) 92 b1) 94 b94) 95 b95) 93 b2 = (sA (sA (sB (sB (sF q 29 n) 92 b1) 94 b94) 93 b2) 95 b95) from (show sA (sA (sB (sB (sF q 29 n) 92 b1) 94 b94) 95 b95) 93 b2 = (sA (sA (sB (sB (sF q 29 n) 92 b1) 94 b94) 93 b2) 95 b95) from Eq.trans (show sA (sA (sB (sB (sF q 29 n) 92 b1) 94 b94) 95 b95) 93 b2 = sA (sA (sB (sB (sF q 29 n) 92 b1) 94 b94) 93 b2) 95 b95 from sA_cm (by decide)) (congrArg (fun z => sA z 95 b95) (show sA (sB (sB (sF q 29 n) 92 b1) 94 b94) 93 b2 = (sA (sB (sB (sF q 29 n) 92 b1) 94 b94) 93 b2) from rfl)))))
          exact hr (f := dm_vret) rfl rfl (⟨rfl, n, b1, b94, b2, b95, xI_wS hx (by omega) (fun i i0 i1 => (hb i i0 i1).1), by omega, fun i i0 i1 => by
                  have z := (hx.2.2 i i0 i1).2
                  have z2 : rB b1 i = rB b94 i := by unfold rB; rw [(hb i i0 i1).1]; rfl
                  rw [z2, ← ht]; exact z, hM197⟩)
        · skip
          have h196 : k.toInt < (q.1 29).toInt := h196
          refine hs (f := dm_ald 21 0) rfl rfl ?_
          refine hs (f := dm_ild 23 10) rfl rfl ?_
          refine r_inv rfl hM rfl (as := [.ref 68, .int k]) rfl (Nat.le_of_ble_eq_true rfl) (hT_mono (by decide) (r_144 hM k (show 1 ≤ (q.1 29).toInt ∧ (q.1 29).toInt ≤ 24000 from ⟨hn0, by omega⟩) (by omega) (show k.toInt < (q.1 29).toInt by omega)) (fun r1 M199 w => ?_))
          obtain ⟨u198, rfl, rfl, u1980, u1981⟩ := w
          have u1980 : k.toInt + 1 < (q.1 29).toInt → u198.toInt = rB (q.2.2.2 92) (k.toInt + 1) := u1980
          have u1981 : ¬ k.toInt + 1 < (q.1 29).toInt → u198.toInt = 1152921504606846976 := u1981
          rw [if_pos (show k.toInt < (q.1 29).toInt by omega)] at m3 m4 hv hx
          have wkk : rB (q.2.2.2 92) k.toInt < u198.toInt := by
            by_cases q1 : k.toInt + 1 < (q.1 29).toInt
            · rw [u1980 q1]; exact hS.2.2.1 k.toInt k0 q1
            · rw [u1981 q1]; exact hS.2.2.2 k.toInt k0 (by omega)
          have wk0 := wS_nn hS k0 (show k.toInt < (q.1 29).toInt by omega)
          have wkz : k.toInt = 0 → rB (q.2.2.2 92) k.toInt = 0 := fun q1 => by rw [q1]; exact h00
          have wky : 0 < k.toInt → 0 < rB (q.2.2.2 92) k.toInt := fun q1 => by have := wS_lt2 hS (show (0 : Int) ≤ 0 by omega) q1 (by omega); omega
          have hE1 : (if k.toInt + 1 < (q.1 29).toInt then rB (q.2.2.2 92) (k.toInt + 1) else 1152921504606846976) = u198.toInt := by
            split
            · rename_i q1; exact (u1980 q1).symm
            · rename_i q1; exact (u1981 q1).symm
          have wka : ∃ i : Int, 0 ≤ i ∧ i < (q.1 29).toInt ∧ rB (q.2.2.2 92) k.toInt = rB (q.2.2.2 92) i := ⟨k.toInt, k0, by omega, rfl⟩
          refine hs (f := dm_lst 28 11) (lv' := [(11, .long u198), (10, .int k), (7, .int n), (8, .long t), (0, .ref 68), (1, .long f), (3, .long s), (5, .int v), (6, .int ad)]) rfl rfl ?_
          have j181 : ∀ (n : Int32) (b94 : Nat → Int64) (b95 : Nat → Int32) (M : dm_Mem), Rm X (sA (sB q 94 b94) 95 b95) M → (1 ≤ n.toInt) → (n.toInt ≤ k.toInt + 3) → (u198.toInt ≤ t.toInt → n.toInt ≤ k.toInt + 2) → (u198.toInt ≤ f.toInt → n.toInt ≤ k.toInt + 1) → (ad.toInt = 0 → f.toInt < u198.toInt → u198.toInt < t.toInt → rA b95 (n.toInt - 1) = v.toInt) → (xI (q.2.2.2 92) (q.1 29).toInt f.toInt t.toInt (¬ ad.toInt = 0) b94 n.toInt u198.toInt) → hG 1 cd_150 181 [(7, .int n), (11, .long u198), (10, .int k), (8, .long t), (0, .ref 68), (1, .long f), (3, .long s), (5, .int v), (6, .int ad)] [] M (fun r M' => r = none ∧ ∃ (n : Int32) (b92 b94 : Nat → Int64) (b93 b95 : Nat → Int32), wS b92 n.toInt ∧ n.toInt ≤ (q.1 29).toInt + 2 ∧ (∀ i : Int, 0 ≤ i → i < n.toInt → rB b92 i = f.toInt ∨ rB b92 i = f.toInt + s.toInt ∨ ∃ k : Int, 0 ≤ k ∧ k < (q.1 29).toInt ∧ rB b92 i = rB (q.2.2.2 92) k ∧ (¬ ad.toInt = 0 ∨ ¬ (f.toInt < rB (q.2.2.2 92) k ∧ rB (q.2.2.2 92) k < f.toInt + s.toInt))) ∧ Rm X (sA (sA (sB (sB (sF q 29 n) 92 b92) 94 b94) 93 b93) 95 b95) M') := by
            intro n b94 b95 M hM m0 m2 m3 m4 hv hx
            have e200 : (k + 1).toInt = k.toInt + 1 := by have w := i_addc (x := k) (y := 1) 1 rfl (by omega) (by omega); omega
            refine hs (f := dm_iinc 184 10 1) (lv' := [(10, .int (k + 1)), (7, .int n), (11, .long u198), (8, .long t), (0, .ref 68), (1, .long f), (3, .long s), (5, .int v), (6, .int ad)]) rfl rfl ?_
            refine hs (f := dm_goto 11) rfl rfl ?_
            exact (IH _ (by omega)).2 (k + 1) n u198 b94 b95 _ hM (by omega) (by omega) (by omega) (by omega) (by rw [e200, hE1]; omega) (by rw [e200, hE1]; omega) (by omega) (by rw [e200, hE1]; exact hv) (by rw [e200, hE1]; exact xI_up hx (by omega)) rfl
          have j133n : (∀ (n : Int32) (b94 : Nat → Int64) (b95 : Nat → Int32) (M : dm_Mem), Rm X (sA (sB q 94 b94) 95 b95) M → (1 ≤ n.toInt) → (n.toInt ≤ k.toInt + 2) → (u198.toInt ≤ f.toInt → n.toInt ≤ k.toInt + 1) → (t.toInt ≤ rB (q.2.2.2 92) k.toInt) → (ad.toInt = 0 → f.toInt < u198.toInt → rB (q.2.2.2 92) k.toInt < t.toInt → rA b95 (n.toInt - 1) = v.toInt) → (xI (q.2.2.2 92) (q.1 29).toInt f.toInt t.toInt (¬ ad.toInt = 0) b94 n.toInt (if u198.toInt ≤ t.toInt then u198.toInt else if rB (q.2.2.2 92) k.toInt < t.toInt then t.toInt else rB (q.2.2.2 92) k.toInt)) → hG 1 cd_150 133 [(11, .long u198), (10, .int k), (8, .long t), (7, .int n), (0, .ref 68), (1, .long f), (3, .long s), (5, .int v), (6, .int ad)] [] M (fun r M' => r = none ∧ ∃ (n : Int32) (b92 b94 : Nat → Int64) (b93 b95 : Nat → Int32), wS b92 n.toInt ∧ n.toInt ≤ (q.1 29).toInt + 2 ∧ (∀ i : Int, 0 ≤ i → i < n.toInt → rB b92 i = f.toInt ∨ rB b92 i = f.toInt + s.toInt ∨ ∃ k : Int, 0 ≤ k ∧ k < (q.1 29).toInt ∧ rB b92 i = rB (q.2.2.2 92) k ∧ (¬ ad.toInt = 0 ∨ ¬ (f.toInt < rB (q.2.2.2 92) k ∧ rB (q.2.2.2 92) k < f.toInt + s.toInt))) ∧ Rm X (sA (sA (sB (sB (sF q 29 n) 92 b92) 94 b94) 93 b93) 95 b95) M')) ∧ (∀ (n : Int32) (b94 : Nat → Int64) (b95 : Nat → Int32) (M : dm_Mem), Rm X (sA (sB q 94 b94) 95 b95) M → (1 ≤ n.toInt) → (n.toInt ≤ k.toInt + 2) → (u198.toInt ≤ f.toInt → n.toInt ≤ k.toInt + 1) → (t.toInt ≤ rB (q.2.2.2 92) k.toInt) → (ad.toInt = 0 → f.toInt < u198.toInt → rB (q.2.2.2 92) k.toInt < t.toInt → rA b95 (n.toInt - 1) = v.toInt) → (xI (q.2.2.2 92) (q.1 29).toInt f.toInt t.toInt (¬ ad.toInt = 0) b94 n.toInt (if u198.toInt ≤ t.toInt then u198.toInt else if rB (q.2.2.2 92) k.toInt < t.toInt then t.toInt else rB (q.2.2.2 92) k.toInt)) → hG 1 cd_150 133 [(11, .long u198), (10, .int k), (7, .int n), (8, .long t), (0, .ref 68), (1, .long f), (3, .long s), (5, .int v), (6, .int ad)] [] M (fun r M' => r = none ∧ ∃ (n : Int32) (b92 b94 : Nat → Int64) (b93 b95 : Nat → Int32), wS b92 n.toInt ∧ n.toInt ≤ (q.1 29).toInt + 2 ∧ (∀ i : Int, 0 ≤ i → i < n.toInt → rB b92 i = f.toInt ∨ rB b92 i = f.toInt + s.toInt ∨ ∃ k : Int, 0 ≤ k ∧ k < (q.1 29).toInt ∧ rB b92 i = rB (q.2.2.2 92) k ∧ (¬ ad.toInt = 0 ∨ ¬ (f.toInt < rB (q.2.2.2 92) k ∧ rB (q.2.2.2 92) k < f.toInt + s.toInt))) ∧ Rm X (sA (sA (sB (sB (sF q 29 n) 92 b92) 94 b94) 93 b93) 95 b95) M')) := by
            refine ⟨?_, ?_⟩
            · skip
              intro n b94 b95 M hM m0 m2 m3 m5 hv hx
              refine hs (f := dm_lld 135 11) rfl rfl ?_
              refine hs (f := dm_lld 137 8) rfl rfl ?_
              refine g_lc_le (x := u198) (y := t) (m := 138) (n := 141) (tt := 181) rfl rfl (fun h201 => ?_) (fun h201 => ?_)
              · skip
                have h201 : u198.toInt ≤ t.toInt := h201
                exfalso
                omega
              · skip
                have h201 : u198.toInt > t.toInt := h201
                refine hs (f := dm_ald 142 0) rfl rfl ?_
                refine hs (f := dm_ild 144 7) rfl rfl ?_
                refine hs (f := dm_ald 145 0) rfl rfl ?_
                refine r_geta (c := 89) rfl hM rfl ?_
                refine hs (f := dm_ild 150 10) rfl rfl ?_
                refine r_lald (L := 24000) (i := k) ((q.2.2.2 92) k.toInt.toNat) rfl hM rfl (by omega) rfl ?_
                generalize g203 : (q.2.2.2 92) k.toInt.toNat = v202
                have x204 : v202.toInt = rB (q.2.2.2 92) k.toInt := rB_of (i := k) g203 rfl
                refine hs (f := dm_lld 153 8) rfl rfl ?_
                refine g_lc_ge (x := v202) (y := t) (m := 154) (n := 157) (tt := 162) rfl rfl (fun h205 => ?_) (fun h205 => ?_)
                · skip
                  have h205 : v202.toInt ≥ t.toInt := h205
                  refine hs (f := dm_ald 163 0) rfl rfl ?_
                  refine r_geta (c := 89) rfl hM rfl ?_
                  refine hs (f := dm_ild 168 10) rfl rfl ?_
                  refine r_lald (L := 24000) (i := k) ((q.2.2.2 92) k.toInt.toNat) rfl hM rfl (by omega) rfl ?_
                  generalize g207 : (q.2.2.2 92) k.toInt.toNat = v206
                  have x208 : v206.toInt = rB (q.2.2.2 92) k.toInt := rB_of (i := k) g207 rfl
                  refine hs (f := dm_ald 170 0) rfl rfl ?_
                  refine r_geta (c := 90) rfl hM rfl ?_
                  refine hs (f := dm_ild 175 10) rfl rfl ?_
                  refine r_iald (L := 24000) (i := k) ((q.2.2.1 93) k.toInt.toNat) rfl hM rfl (by omega) rfl ?_
                  generalize g210 : (q.2.2.1 93) k.toInt.toNat = v209
                  have x211 : v209.toInt = rA (q.2.2.1 93) k.toInt := rA_of (i := k) g210 rfl
                  refine r_inv rfl hM rfl (as := [.ref 68, .int n, .long v206, .int v209]) rfl (Nat.le_of_ble_eq_true rfl) (hT_mono (by decide) (r_148 hM n v206 v209 (by omega) (by omega)) (fun r1 M213 w => ?_))
                  rcases w with ⟨rfl, rfl, un, uv⟩ | ⟨rfl, uv, hM213⟩
                  · skip
                    have uv : rA b95 (n.toInt - 1) = v209.toInt := uv
                    have hx214 : xI (q.2.2.2 92) (q.1 29).toInt f.toInt t.toInt (¬ ad.toInt = 0) b94 n.toInt u198.toInt := xI_up hx (by first | omega | (repeat' split) <;> omega)
                    refine hs (f := dm_ist 181 7) (lv' := [(7, .int n), (11, .long u198), (10, .int k), (8, .long t), (0, .ref 68), (1, .long f), (3, .long s), (5, .int v), (6, .int ad)]) rfl rfl ?_
                    exact j181 n b94 b95 _ hM (by omega) (by omega) (by omega) (by omega) (fun z1 z2 z3 => by first | omega | (exfalso; omega)) hx214
                  · skip
                    have uv : 0 < n.toInt → ¬ rA b95 (n.toInt - 1) = v209.toInt := uv
                    replace hM213 := rm_to (q' := (sA (sB q 94 (vp_updL b94 n.toInt.toNat v206)) 95 (upd b95 n.toInt.toNat v209))) hM213 (Eq.trans (congrArg (fun z => sA z 95 (upd b95 n.toInt.toNat v209)) (show sB (sA (sB q 94 b94) 95 b95) 94 (vp_updL b94 n.toInt.toNat v206) = (sA (sB q 94 (vp_updL b94 n.toInt.toNat v206)) 95 b95) from (congrArg (fun z => (sA z 95 b95)) (show sB (sB q 94 b94) 94 (vp_updL b94 n.toInt.toNat v206) = (sB q 94 (vp_updL b94 n.toInt.toNat v206)) from sB_sB)))) (show sA (sA (sB q 94 (vp_updL b94 n.toInt.toNat v206)) 95 b95) 95 (upd b95 n.toInt.toNat v209) = (sA (sB q 94 (vp_updL b94 n.toInt.toNat v206)) 95 (upd b95 n.toInt.toNat v209)) from (show sA (sA (sB q 94 (vp_updL b94 n.toInt.toNat v206)) 95 b95) 95 (upd b95 n.toInt.toNat v209) = (sA (sB q 94 (vp_updL b94 n.toInt.toNat v206)) 95 (upd b95 n.toInt.toNat v209)) from sA_sA)))
                    have e215 : (n + 1).toInt = n.toInt + 1 := i_addc 1 rfl (by omega) (by omega)
                    have ul : rA (upd b95 n.toInt.toNat v209) ((n + 1).toInt - 1) = v209.toInt := by rw [e215]; exact rA_last (by omega)
                    have hx214 : xI (q.2.2.2 92) (q.1 29).toInt f.toInt t.toInt (¬ ad.toInt = 0) (vp_updL b94 n.toInt.toNat v206) (n + 1).toInt u198.toInt := by
                      rw [e215]
                      refine xI_lay hx (by omega) (by first | omega | (repeat' split) <;> omega) (by first | omega | (repeat' split) <;> omega) (by omega) ?_
                      obtain ⟨wi, wi0, wi1, wi2⟩ := wka
                      first
                      | exact Or.inl (by omega)
                      | exact Or.inr (Or.inl (by omega))
                      | exact Or.inr (Or.inr ⟨wi, wi0, wi1, by omega, Or.inr (by omega)⟩)
                      | exact Or.inr (Or.inr ⟨wi, wi0, wi1, by omega, Or.inl (by omega)⟩)
                      | (by_cases z1 : rB (q.2.2.2 92) k.toInt = f.toInt
                         · exact Or.inl (by omega)
                         · exact absurd (hv (by omega) (by omega) (by omega)) (uv (by omega)))
                    refine hs (f := dm_ist 181 7) (lv' := [(7, .int (n + 1)), (11, .long u198), (10, .int k), (8, .long t), (0, .ref 68), (1, .long f), (3, .long s), (5, .int v), (6, .int ad)]) rfl rfl ?_
                    exact j181 (n + 1) (vp_updL b94 n.toInt.toNat v206) (upd b95 n.toInt.toNat v209) _ hM213 (by omega) (by omega) (by omega) (by omega) (fun z1 z2 z3 => by first | exact ul | (exfalso; omega) | omega) hx214
                · skip
                  have h205 : v202.toInt < t.toInt := h205
                  refine hs (f := dm_lld 159 8) rfl rfl ?_
                  refine hs (f := dm_goto 169) rfl rfl ?_
                  refine hs (f := dm_ald 170 0) rfl rfl ?_
                  refine r_geta (c := 90) rfl hM rfl ?_
                  refine hs (f := dm_ild 175 10) rfl rfl ?_
                  refine r_iald (L := 24000) (i := k) ((q.2.2.1 93) k.toInt.toNat) rfl hM rfl (by omega) rfl ?_
                  generalize g217 : (q.2.2.1 93) k.toInt.toNat = v216
                  have x218 : v216.toInt = rA (q.2.2.1 93) k.toInt := rA_of (i := k) g217 rfl
                  refine r_inv rfl hM rfl (as := [.ref 68, .int n, .long t, .int v216]) rfl (Nat.le_of_ble_eq_true rfl) (hT_mono (by decide) (r_148 hM n t v216 (by omega) (by omega)) (fun r1 M220 w => ?_))
                  rcases w with ⟨rfl, rfl, un, uv⟩ | ⟨rfl, uv, hM220⟩
                  · skip
                    have uv : rA b95 (n.toInt - 1) = v216.toInt := uv
                    have hx221 : xI (q.2.2.2 92) (q.1 29).toInt f.toInt t.toInt (¬ ad.toInt = 0) b94 n.toInt u198.toInt := xI_up hx (by first | omega | (repeat' split) <;> omega)
                    refine hs (f := dm_ist 181 7) (lv' := [(7, .int n), (11, .long u198), (10, .int k), (8, .long t), (0, .ref 68), (1, .long f), (3, .long s), (5, .int v), (6, .int ad)]) rfl rfl ?_
                    exact j181 n b94 b95 _ hM (by omega) (by omega) (by omega) (by omega) (fun z1 z2 z3 => by first | omega | (exfalso; omega)) hx221
                  · skip
                    have uv : 0 < n.toInt → ¬ rA b95 (n.toInt - 1) = v216.toInt := uv
                    replace hM220 := rm_to (q' := (sA (sB q 94 (vp_updL b94 n.toInt.toNat t)) 95 (upd b95 n.toInt.toNat v216))) hM220 (Eq.trans (congrArg (fun z => sA z 95 (upd b95 n.toInt.toNat v216)) (show sB (sA (sB q 94 b94) 95 b95) 94 (vp_updL b94 n.toInt.toNat t) = (sA (sB q 94 (vp_updL b94 n.toInt.toNat t)) 95 b95) from (congrArg (fun z => (sA z 95 b95)) (show sB (sB q 94 b94) 94 (vp_updL b94 n.toInt.toNat t) = (sB q 94 (vp_updL b94 n.toInt.toNat t)) from sB_sB)))) (show sA (sA (sB q 94 (vp_updL b94 n.toInt.toNat t)) 95 b95) 95 (upd b95 n.toInt.toNat v216) = (sA (sB q 94 (vp_updL b94 n.toInt.toNat t)) 95 (upd b95 n.toInt.toNat v216)) from (show sA (sA (sB q 94 (vp_updL b94 n.toInt.toNat t)) 95 b95) 95 (upd b95 n.toInt.toNat v216) = (sA (sB q 94 (vp_updL b94 n.toInt.toNat t)) 95 (upd b95 n.toInt.toNat v216)) from sA_sA)))
                    have e222 : (n + 1).toInt = n.toInt + 1 := i_addc 1 rfl (by omega) (by omega)
                    have ul : rA (upd b95 n.toInt.toNat v216) ((n + 1).toInt - 1) = v216.toInt := by rw [e222]; exact rA_last (by omega)
                    have hx221 : xI (q.2.2.2 92) (q.1 29).toInt f.toInt t.toInt (¬ ad.toInt = 0) (vp_updL b94 n.toInt.toNat t) (n + 1).toInt u198.toInt := by
                      rw [e222]
                      refine xI_lay hx (by omega) (by first | omega | (repeat' split) <;> omega) (by first | omega | (repeat' split) <;> omega) (by omega) ?_
                      obtain ⟨wi, wi0, wi1, wi2⟩ := wka
                      first
                      | exact Or.inl (by omega)
                      | exact Or.inr (Or.inl (by omega))
                      | exact Or.inr (Or.inr ⟨wi, wi0, wi1, by omega, Or.inr (by omega)⟩)
                      | exact Or.inr (Or.inr ⟨wi, wi0, wi1, by omega, Or.inl (by omega)⟩)
                      | (by_cases z1 : rB (q.2.2.2 92) k.toInt = f.toInt
                         · exact Or.inl (by omega)
                         · exact absurd (hv (by omega) (by omega) (by omega)) (uv (by omega)))
                    refine hs (f := dm_ist 181 7) (lv' := [(7, .int (n + 1)), (11, .long u198), (10, .int k), (8, .long t), (0, .ref 68), (1, .long f), (3, .long s), (5, .int v), (6, .int ad)]) rfl rfl ?_
                    exact j181 (n + 1) (vp_updL b94 n.toInt.toNat t) (upd b95 n.toInt.toNat v216) _ hM220 (by omega) (by omega) (by omega) (by omega) (fun z1 z2 z3 => by first | exact ul | (exfalso; omega) | omega) hx221
            · skip
              intro n b94 b95 M hM m0 m2 m3 m5 hv hx
              refine hs (f := dm_lld 135 11) rfl rfl ?_
              refine hs (f := dm_lld 137 8) rfl rfl ?_
              refine g_lc_le (x := u198) (y := t) (m := 138) (n := 141) (tt := 181) rfl rfl (fun h223 => ?_) (fun h223 => ?_)
              · skip
                have h223 : u198.toInt ≤ t.toInt := h223
                exfalso
                omega
              · skip
                have h223 : u198.toInt > t.toInt := h223
                refine hs (f := dm_ald 142 0) rfl rfl ?_
                refine hs (f := dm_ild 144 7) rfl rfl ?_
                refine hs (f := dm_ald 145 0) rfl rfl ?_
                refine r_geta (c := 89) rfl hM rfl ?_
                refine hs (f := dm_ild 150 10) rfl rfl ?_
                refine r_lald (L := 24000) (i := k) ((q.2.2.2 92) k.toInt.toNat) rfl hM rfl (by omega) rfl ?_
                generalize g225 : (q.2.2.2 92) k.toInt.toNat = v224
                have x226 : v224.toInt = rB (q.2.2.2 92) k.toInt := rB_of (i := k) g225 rfl
                refine hs (f := dm_lld 153 8) rfl rfl ?_
                refine g_lc_ge (x := v224) (y := t) (m := 154) (n := 157) (tt := 162) rfl rfl (fun h227 => ?_) (fun h227 => ?_)
                · skip
                  have h227 : v224.toInt ≥ t.toInt := h227
                  refine hs (f := dm_ald 163 0) rfl rfl ?_
                  refine r_geta (c := 89) rfl hM rfl ?_
                  refine hs (f := dm_ild 168 10) rfl rfl ?_
                  refine r_lald (L := 24000) (i := k) ((q.2.2.2 92) k.toInt.toNat) rfl hM rfl (by omega) rfl ?_
                  generalize g229 : (q.2.2.2 92) k.toInt.toNat = v228
                  have x230 : v228.toInt = rB (q.2.2.2 92) k.toInt := rB_of (i := k) g229 rfl
                  refine hs (f := dm_ald 170 0) rfl rfl ?_
                  refine r_geta (c := 90) rfl hM rfl ?_
                  refine hs (f := dm_ild 175 10) rfl rfl ?_
                  refine r_iald (L := 24000) (i := k) ((q.2.2.1 93) k.toInt.toNat) rfl hM rfl (by omega) rfl ?_
                  generalize g232 : (q.2.2.1 93) k.toInt.toNat = v231
                  have x233 : v231.toInt = rA (q.2.2.1 93) k.toInt := rA_of (i := k) g232 rfl
                  refine r_inv rfl hM rfl (as := [.ref 68, .int n, .long v228, .int v231]) rfl (Nat.le_of_ble_eq_true rfl) (hT_mono (by decide) (r_148 hM n v228 v231 (by omega) (by omega)) (fun r1 M235 w => ?_))
                  rcases w with ⟨rfl, rfl, un, uv⟩ | ⟨rfl, uv, hM235⟩
                  · skip
                    have uv : rA b95 (n.toInt - 1) = v231.toInt := uv
                    have hx236 : xI (q.2.2.2 92) (q.1 29).toInt f.toInt t.toInt (¬ ad.toInt = 0) b94 n.toInt u198.toInt := xI_up hx (by first | omega | (repeat' split) <;> omega)
                    refine hs (f := dm_ist 181 7) (lv' := [(7, .int n), (11, .long u198), (10, .int k), (8, .long t), (0, .ref 68), (1, .long f), (3, .long s), (5, .int v), (6, .int ad)]) rfl rfl ?_
                    exact j181 n b94 b95 _ hM (by omega) (by omega) (by omega) (by omega) (fun z1 z2 z3 => by first | omega | (exfalso; omega)) hx236
                  · skip
                    have uv : 0 < n.toInt → ¬ rA b95 (n.toInt - 1) = v231.toInt := uv
                    replace hM235 := rm_to (q' := (sA (sB q 94 (vp_updL b94 n.toInt.toNat v228)) 95 (upd b95 n.toInt.toNat v231))) hM235 (Eq.trans (congrArg (fun z => sA z 95 (upd b95 n.toInt.toNat v231)) (show sB (sA (sB q 94 b94) 95 b95) 94 (vp_updL b94 n.toInt.toNat v228) = (sA (sB q 94 (vp_updL b94 n.toInt.toNat v228)) 95 b95) from (congrArg (fun z => (sA z 95 b95)) (show sB (sB q 94 b94) 94 (vp_updL b94 n.toInt.toNat v228) = (sB q 94 (vp_updL b94 n.toInt.toNat v228)) from sB_sB)))) (show sA (sA (sB q 94 (vp_updL b94 n.toInt.toNat v228)) 95 b95) 95 (upd b95 n.toInt.toNat v231) = (sA (sB q 94 (vp_updL b94 n.toInt.toNat v228)) 95 (upd b95 n.toInt.toNat v231)) from (show sA (sA (sB q 94 (vp_updL b94 n.toInt.toNat v228)) 95 b95) 95 (upd b95 n.toInt.toNat v231) = (sA (sB q 94 (vp_updL b94 n.toInt.toNat v228)) 95 (upd b95 n.toInt.toNat v231)) from sA_sA)))
                    have e237 : (n + 1).toInt = n.toInt + 1 := i_addc 1 rfl (by omega) (by omega)
                    have ul : rA (upd b95 n.toInt.toNat v231) ((n + 1).toInt - 1) = v231.toInt := by rw [e237]; exact rA_last (by omega)
                    have hx236 : xI (q.2.2.2 92) (q.1 29).toInt f.toInt t.toInt (¬ ad.toInt = 0) (vp_updL b94 n.toInt.toNat v228) (n + 1).toInt u198.toInt := by
                      rw [e237]
                      refine xI_lay hx (by omega) (by first | omega | (repeat' split) <;> omega) (by first | omega | (repeat' split) <;> omega) (by omega) ?_
                      obtain ⟨wi, wi0, wi1, wi2⟩ := wka
                      first
                      | exact Or.inl (by omega)
                      | exact Or.inr (Or.inl (by omega))
                      | exact Or.inr (Or.inr ⟨wi, wi0, wi1, by omega, Or.inr (by omega)⟩)
                      | exact Or.inr (Or.inr ⟨wi, wi0, wi1, by omega, Or.inl (by omega)⟩)
                      | (by_cases z1 : rB (q.2.2.2 92) k.toInt = f.toInt
                         · exact Or.inl (by omega)
                         · exact absurd (hv (by omega) (by omega) (by omega)) (uv (by omega)))
                    refine hs (f := dm_ist 181 7) (lv' := [(7, .int (n + 1)), (11, .long u198), (10, .int k), (8, .long t), (0, .ref 68), (1, .long f), (3, .long s), (5, .int v), (6, .int ad)]) rfl rfl ?_
                    exact j181 (n + 1) (vp_updL b94 n.toInt.toNat v228) (upd b95 n.toInt.toNat v231) _ hM235 (by omega) (by omega) (by omega) (by omega) (fun z1 z2 z3 => by first | exact ul | (exfalso; omega) | omega) hx236
                · skip
                  have h227 : v224.toInt < t.toInt := h227
                  refine hs (f := dm_lld 159 8) rfl rfl ?_
                  refine hs (f := dm_goto 169) rfl rfl ?_
                  refine hs (f := dm_ald 170 0) rfl rfl ?_
                  refine r_geta (c := 90) rfl hM rfl ?_
                  refine hs (f := dm_ild 175 10) rfl rfl ?_
                  refine r_iald (L := 24000) (i := k) ((q.2.2.1 93) k.toInt.toNat) rfl hM rfl (by omega) rfl ?_
                  generalize g239 : (q.2.2.1 93) k.toInt.toNat = v238
                  have x240 : v238.toInt = rA (q.2.2.1 93) k.toInt := rA_of (i := k) g239 rfl
                  refine r_inv rfl hM rfl (as := [.ref 68, .int n, .long t, .int v238]) rfl (Nat.le_of_ble_eq_true rfl) (hT_mono (by decide) (r_148 hM n t v238 (by omega) (by omega)) (fun r1 M242 w => ?_))
                  rcases w with ⟨rfl, rfl, un, uv⟩ | ⟨rfl, uv, hM242⟩
                  · skip
                    have uv : rA b95 (n.toInt - 1) = v238.toInt := uv
                    have hx243 : xI (q.2.2.2 92) (q.1 29).toInt f.toInt t.toInt (¬ ad.toInt = 0) b94 n.toInt u198.toInt := xI_up hx (by first | omega | (repeat' split) <;> omega)
                    refine hs (f := dm_ist 181 7) (lv' := [(7, .int n), (11, .long u198), (10, .int k), (8, .long t), (0, .ref 68), (1, .long f), (3, .long s), (5, .int v), (6, .int ad)]) rfl rfl ?_
                    exact j181 n b94 b95 _ hM (by omega) (by omega) (by omega) (by omega) (fun z1 z2 z3 => by first | omega | (exfalso; omega)) hx243
                  · skip
                    have uv : 0 < n.toInt → ¬ rA b95 (n.toInt - 1) = v238.toInt := uv
                    replace hM242 := rm_to (q' := (sA (sB q 94 (vp_updL b94 n.toInt.toNat t)) 95 (upd b95 n.toInt.toNat v238))) hM242 (Eq.trans (congrArg (fun z => sA z 95 (upd b95 n.toInt.toNat v238)) (show sB (sA (sB q 94 b94) 95 b95) 94 (vp_updL b94 n.toInt.toNat t) = (sA (sB q 94 (vp_updL b94 n.toInt.toNat t)) 95 b95) from (congrArg (fun z => (sA z 95 b95)) (show sB (sB q 94 b94) 94 (vp_updL b94 n.toInt.toNat t) = (sB q 94 (vp_updL b94 n.toInt.toNat t)) from sB_sB)))) (show sA (sA (sB q 94 (vp_updL b94 n.toInt.toNat t)) 95 b95) 95 (upd b95 n.toInt.toNat v238) = (sA (sB q 94 (vp_updL b94 n.toInt.toNat t)) 95 (upd b95 n.toInt.toNat v238)) from (show sA (sA (sB q 94 (vp_updL b94 n.toInt.toNat t)) 95 b95) 95 (upd b95 n.toInt.toNat v238) = (sA (sB q 94 (vp_updL b94 n.toInt.toNat t)) 95 (upd b95 n.toInt.toNat v238)) from sA_sA)))
                    have e244 : (n + 1).toInt = n.toInt + 1 := i_addc 1 rfl (by omega) (by omega)
                    have ul : rA (upd b95 n.toInt.toNat v238) ((n + 1).toInt - 1) = v238.toInt := by rw [e244]; exact rA_last (by omega)
                    have hx243 : xI (q.2.2.2 92) (q.1 29).toInt f.toInt t.toInt (¬ ad.toInt = 0) (vp_updL b94 n.toInt.toNat t) (n + 1).toInt u198.toInt := by
                      rw [e244]
                      refine xI_lay hx (by omega) (by first | omega | (repeat' split) <;> omega) (by first | omega | (repeat' split) <;> omega) (by omega) ?_
                      obtain ⟨wi, wi0, wi1, wi2⟩ := wka
                      first
                      | exact Or.inl (by omega)
                      | exact Or.inr (Or.inl (by omega))
                      | exact Or.inr (Or.inr ⟨wi, wi0, wi1, by omega, Or.inr (by omega)⟩)
                      | exact Or.inr (Or.inr ⟨wi, wi0, wi1, by omega, Or.inl (by omega)⟩)
                      | (by_cases z1 : rB (q.2.2.2 92) k.toInt = f.toInt
                         · exact Or.inl (by omega)
                         · exact absurd (hv (by omega) (by omega) (by omega)) (uv (by omega)))
                    refine hs (f := dm_ist 181 7) (lv' := [(7, .int (n + 1)), (11, .long u198), (10, .int k), (8, .long t), (0, .ref 68), (1, .long f), (3, .long s), (5, .int v), (6, .int ad)]) rfl rfl ?_
                    exact j181 (n + 1) (vp_updL b94 n.toInt.toNat t) (upd b95 n.toInt.toNat v238) _ hM242 (by omega) (by omega) (by omega) (by omega) (fun z1 z2 z3 => by first | exact ul | (exfalso; omega) | omega) hx243
          have j133s : ∀ (n : Int32) (b94 : Nat → Int64) (b95 : Nat → Int32) (M : dm_Mem), Rm X (sA (sB q 94 b94) 95 b95) M → (1 ≤ n.toInt) → (n.toInt ≤ k.toInt + 2) → (u198.toInt ≤ f.toInt → n.toInt ≤ k.toInt + 1) → (ad.toInt = 0 → f.toInt < u198.toInt → rB (q.2.2.2 92) k.toInt < t.toInt → rA b95 (n.toInt - 1) = v.toInt) → (xI (q.2.2.2 92) (q.1 29).toInt f.toInt t.toInt (¬ ad.toInt = 0) b94 n.toInt (if u198.toInt ≤ t.toInt then u198.toInt else if rB (q.2.2.2 92) k.toInt < t.toInt then t.toInt else rB (q.2.2.2 92) k.toInt)) → hG 1 cd_150 133 [(7, .int n), (11, .long u198), (10, .int k), (8, .long t), (0, .ref 68), (1, .long f), (3, .long s), (5, .int v), (6, .int ad)] [] M (fun r M' => r = none ∧ ∃ (n : Int32) (b92 b94 : Nat → Int64) (b93 b95 : Nat → Int32), wS b92 n.toInt ∧ n.toInt ≤ (q.1 29).toInt + 2 ∧ (∀ i : Int, 0 ≤ i → i < n.toInt → rB b92 i = f.toInt ∨ rB b92 i = f.toInt + s.toInt ∨ ∃ k : Int, 0 ≤ k ∧ k < (q.1 29).toInt ∧ rB b92 i = rB (q.2.2.2 92) k ∧ (¬ ad.toInt = 0 ∨ ¬ (f.toInt < rB (q.2.2.2 92) k ∧ rB (q.2.2.2 92) k < f.toInt + s.toInt))) ∧ Rm X (sA (sA (sB (sB (sF q 29 n) 92 b92) 94 b94) 93 b93) 95 b95) M') := by
            intro n b94 b95 M hM m0 m2 m3 hv hx
            refine hs (f := dm_lld 135 11) rfl rfl ?_
            refine hs (f := dm_lld 137 8) rfl rfl ?_
            refine g_lc_le (x := u198) (y := t) (m := 138) (n := 141) (tt := 181) rfl rfl (fun h245 => ?_) (fun h245 => ?_)
            · skip
              have h245 : u198.toInt ≤ t.toInt := h245
              exact j181 n b94 b95 _ hM (by omega) (by omega) (by omega) (by omega) (fun z1 z2 z3 => by first | exact hv z1 (by omega) (by omega) | (exfalso; omega)) (xI_up hx (by first | omega | (repeat' split) <;> omega))
            · skip
              have h245 : u198.toInt > t.toInt := h245
              refine hs (f := dm_ald 142 0) rfl rfl ?_
              refine hs (f := dm_ild 144 7) rfl rfl ?_
              refine hs (f := dm_ald 145 0) rfl rfl ?_
              refine r_geta (c := 89) rfl hM rfl ?_
              refine hs (f := dm_ild 150 10) rfl rfl ?_
              refine r_lald (L := 24000) (i := k) ((q.2.2.2 92) k.toInt.toNat) rfl hM rfl (by omega) rfl ?_
              generalize g247 : (q.2.2.2 92) k.toInt.toNat = v246
              have x248 : v246.toInt = rB (q.2.2.2 92) k.toInt := rB_of (i := k) g247 rfl
              refine hs (f := dm_lld 153 8) rfl rfl ?_
              refine g_lc_ge (x := v246) (y := t) (m := 154) (n := 157) (tt := 162) rfl rfl (fun h249 => ?_) (fun h249 => ?_)
              · skip
                have h249 : v246.toInt ≥ t.toInt := h249
                refine hs (f := dm_ald 163 0) rfl rfl ?_
                refine r_geta (c := 89) rfl hM rfl ?_
                refine hs (f := dm_ild 168 10) rfl rfl ?_
                refine r_lald (L := 24000) (i := k) ((q.2.2.2 92) k.toInt.toNat) rfl hM rfl (by omega) rfl ?_
                generalize g251 : (q.2.2.2 92) k.toInt.toNat = v250
                have x252 : v250.toInt = rB (q.2.2.2 92) k.toInt := rB_of (i := k) g251 rfl
                refine hs (f := dm_ald 170 0) rfl rfl ?_
                refine r_geta (c := 90) rfl hM rfl ?_
                refine hs (f := dm_ild 175 10) rfl rfl ?_
                refine r_iald (L := 24000) (i := k) ((q.2.2.1 93) k.toInt.toNat) rfl hM rfl (by omega) rfl ?_
                generalize g254 : (q.2.2.1 93) k.toInt.toNat = v253
                have x255 : v253.toInt = rA (q.2.2.1 93) k.toInt := rA_of (i := k) g254 rfl
                refine r_inv rfl hM rfl (as := [.ref 68, .int n, .long v250, .int v253]) rfl (Nat.le_of_ble_eq_true rfl) (hT_mono (by decide) (r_148 hM n v250 v253 (by omega) (by omega)) (fun r1 M257 w => ?_))
                rcases w with ⟨rfl, rfl, un, uv⟩ | ⟨rfl, uv, hM257⟩
                · skip
                  have uv : rA b95 (n.toInt - 1) = v253.toInt := uv
                  have hx258 : xI (q.2.2.2 92) (q.1 29).toInt f.toInt t.toInt (¬ ad.toInt = 0) b94 n.toInt u198.toInt := xI_up hx (by first | omega | (repeat' split) <;> omega)
                  refine hs (f := dm_ist 181 7) (lv' := [(7, .int n), (11, .long u198), (10, .int k), (8, .long t), (0, .ref 68), (1, .long f), (3, .long s), (5, .int v), (6, .int ad)]) rfl rfl ?_
                  exact j181 n b94 b95 _ hM (by omega) (by omega) (by omega) (by omega) (fun z1 z2 z3 => by first | omega | (exfalso; omega)) hx258
                · skip
                  have uv : 0 < n.toInt → ¬ rA b95 (n.toInt - 1) = v253.toInt := uv
                  replace hM257 := rm_to (q' := (sA (sB q 94 (vp_updL b94 n.toInt.toNat v250)) 95 (upd b95 n.toInt.toNat v253))) hM257 (Eq.trans (congrArg (fun z => sA z 95 (upd b95 n.toInt.toNat v253)) (show sB (sA (sB q 94 b94) 95 b95) 94 (vp_updL b94 n.toInt.toNat v250) = (sA (sB q 94 (vp_updL b94 n.toInt.toNat v250)) 95 b95) from (congrArg (fun z => (sA z 95 b95)) (show sB (sB q 94 b94) 94 (vp_updL b94 n.toInt.toNat v250) = (sB q 94 (vp_updL b94 n.toInt.toNat v250)) from sB_sB)))) (show sA (sA (sB q 94 (vp_updL b94 n.toInt.toNat v250)) 95 b95) 95 (upd b95 n.toInt.toNat v253) = (sA (sB q 94 (vp_updL b94 n.toInt.toNat v250)) 95 (upd b95 n.toInt.toNat v253)) from (show sA (sA (sB q 94 (vp_updL b94 n.toInt.toNat v250)) 95 b95) 95 (upd b95 n.toInt.toNat v253) = (sA (sB q 94 (vp_updL b94 n.toInt.toNat v250)) 95 (upd b95 n.toInt.toNat v253)) from sA_sA)))
                  have e259 : (n + 1).toInt = n.toInt + 1 := i_addc 1 rfl (by omega) (by omega)
                  have ul : rA (upd b95 n.toInt.toNat v253) ((n + 1).toInt - 1) = v253.toInt := by rw [e259]; exact rA_last (by omega)
                  have hx258 : xI (q.2.2.2 92) (q.1 29).toInt f.toInt t.toInt (¬ ad.toInt = 0) (vp_updL b94 n.toInt.toNat v250) (n + 1).toInt u198.toInt := by
                    rw [e259]
                    refine xI_lay hx (by omega) (by first | omega | (repeat' split) <;> omega) (by first | omega | (repeat' split) <;> omega) (by omega) ?_
                    obtain ⟨wi, wi0, wi1, wi2⟩ := wka
                    first
                    | exact Or.inl (by omega)
                    | exact Or.inr (Or.inl (by omega))
                    | exact Or.inr (Or.inr ⟨wi, wi0, wi1, by omega, Or.inr (by omega)⟩)
                    | exact Or.inr (Or.inr ⟨wi, wi0, wi1, by omega, Or.inl (by omega)⟩)
                    | (by_cases z1 : rB (q.2.2.2 92) k.toInt = f.toInt
                       · exact Or.inl (by omega)
                       · exact absurd (hv (by omega) (by omega) (by omega)) (uv (by omega)))
                  refine hs (f := dm_ist 181 7) (lv' := [(7, .int (n + 1)), (11, .long u198), (10, .int k), (8, .long t), (0, .ref 68), (1, .long f), (3, .long s), (5, .int v), (6, .int ad)]) rfl rfl ?_
                  exact j181 (n + 1) (vp_updL b94 n.toInt.toNat v250) (upd b95 n.toInt.toNat v253) _ hM257 (by omega) (by omega) (by omega) (by omega) (fun z1 z2 z3 => by first | exact ul | (exfalso; omega) | omega) hx258
              · skip
                have h249 : v246.toInt < t.toInt := h249
                refine hs (f := dm_lld 159 8) rfl rfl ?_
                refine hs (f := dm_goto 169) rfl rfl ?_
                refine hs (f := dm_ald 170 0) rfl rfl ?_
                refine r_geta (c := 90) rfl hM rfl ?_
                refine hs (f := dm_ild 175 10) rfl rfl ?_
                refine r_iald (L := 24000) (i := k) ((q.2.2.1 93) k.toInt.toNat) rfl hM rfl (by omega) rfl ?_
                generalize g261 : (q.2.2.1 93) k.toInt.toNat = v260
                have x262 : v260.toInt = rA (q.2.2.1 93) k.toInt := rA_of (i := k) g261 rfl
                refine r_inv rfl hM rfl (as := [.ref 68, .int n, .long t, .int v260]) rfl (Nat.le_of_ble_eq_true rfl) (hT_mono (by decide) (r_148 hM n t v260 (by omega) (by omega)) (fun r1 M264 w => ?_))
                rcases w with ⟨rfl, rfl, un, uv⟩ | ⟨rfl, uv, hM264⟩
                · skip
                  have uv : rA b95 (n.toInt - 1) = v260.toInt := uv
                  have hx265 : xI (q.2.2.2 92) (q.1 29).toInt f.toInt t.toInt (¬ ad.toInt = 0) b94 n.toInt u198.toInt := xI_up hx (by first | omega | (repeat' split) <;> omega)
                  refine hs (f := dm_ist 181 7) (lv' := [(7, .int n), (11, .long u198), (10, .int k), (8, .long t), (0, .ref 68), (1, .long f), (3, .long s), (5, .int v), (6, .int ad)]) rfl rfl ?_
                  exact j181 n b94 b95 _ hM (by omega) (by omega) (by omega) (by omega) (fun z1 z2 z3 => by first | omega | (exfalso; omega)) hx265
                · skip
                  have uv : 0 < n.toInt → ¬ rA b95 (n.toInt - 1) = v260.toInt := uv
                  replace hM264 := rm_to (q' := (sA (sB q 94 (vp_updL b94 n.toInt.toNat t)) 95 (upd b95 n.toInt.toNat v260))) hM264 (Eq.trans (congrArg (fun z => sA z 95 (upd b95 n.toInt.toNat v260)) (show sB (sA (sB q 94 b94) 95 b95) 94 (vp_updL b94 n.toInt.toNat t) = (sA (sB q 94 (vp_updL b94 n.toInt.toNat t)) 95 b95) from (congrArg (fun z => (sA z 95 b95)) (show sB (sB q 94 b94) 94 (vp_updL b94 n.toInt.toNat t) = (sB q 94 (vp_updL b94 n.toInt.toNat t)) from sB_sB)))) (show sA (sA (sB q 94 (vp_updL b94 n.toInt.toNat t)) 95 b95) 95 (upd b95 n.toInt.toNat v260) = (sA (sB q 94 (vp_updL b94 n.toInt.toNat t)) 95 (upd b95 n.toInt.toNat v260)) from (show sA (sA (sB q 94 (vp_updL b94 n.toInt.toNat t)) 95 b95) 95 (upd b95 n.toInt.toNat v260) = (sA (sB q 94 (vp_updL b94 n.toInt.toNat t)) 95 (upd b95 n.toInt.toNat v260)) from sA_sA)))
                  have e266 : (n + 1).toInt = n.toInt + 1 := i_addc 1 rfl (by omega) (by omega)
                  have ul : rA (upd b95 n.toInt.toNat v260) ((n + 1).toInt - 1) = v260.toInt := by rw [e266]; exact rA_last (by omega)
                  have hx265 : xI (q.2.2.2 92) (q.1 29).toInt f.toInt t.toInt (¬ ad.toInt = 0) (vp_updL b94 n.toInt.toNat t) (n + 1).toInt u198.toInt := by
                    rw [e266]
                    refine xI_lay hx (by omega) (by first | omega | (repeat' split) <;> omega) (by first | omega | (repeat' split) <;> omega) (by omega) ?_
                    obtain ⟨wi, wi0, wi1, wi2⟩ := wka
                    first
                    | exact Or.inl (by omega)
                    | exact Or.inr (Or.inl (by omega))
                    | exact Or.inr (Or.inr ⟨wi, wi0, wi1, by omega, Or.inr (by omega)⟩)
                    | exact Or.inr (Or.inr ⟨wi, wi0, wi1, by omega, Or.inl (by omega)⟩)
                    | (by_cases z1 : rB (q.2.2.2 92) k.toInt = f.toInt
                       · exact Or.inl (by omega)
                       · exact absurd (hv (by omega) (by omega) (by omega)) (uv (by omega)))
                  refine hs (f := dm_ist 181 7) (lv' := [(7, .int (n + 1)), (11, .long u198), (10, .int k), (8, .long t), (0, .ref 68), (1, .long f), (3, .long s), (5, .int v), (6, .int ad)]) rfl rfl ?_
                  exact j181 (n + 1) (vp_updL b94 n.toInt.toNat t) (upd b95 n.toInt.toNat v260) _ hM264 (by omega) (by omega) (by omega) (by omega) (fun z1 z2 z3 => by first | exact ul | (exfalso; omega) | omega) hx265
          have j62n : (∀ (n : Int32) (b94 : Nat → Int64) (b95 : Nat → Int32) (M : dm_Mem), Rm X (sA (sB q 94 b94) 95 b95) M → (0 ≤ n.toInt) → (1 ≤ n.toInt ∨ (k.toInt = 0 ∧ f.toInt = 0)) → (n.toInt ≤ k.toInt + 2) → (rB (q.2.2.2 92) k.toInt ≤ t.toInt → n.toInt ≤ k.toInt + 1) → (rB (q.2.2.2 92) k.toInt = f.toInt → n.toInt ≤ k.toInt) → (f.toInt ≤ rB (q.2.2.2 92) k.toInt) → (ad.toInt = 0 → f.toInt < rB (q.2.2.2 92) k.toInt → rB (q.2.2.2 92) k.toInt < t.toInt → rA b95 (n.toInt - 1) = v.toInt) → (xI (q.2.2.2 92) (q.1 29).toInt f.toInt t.toInt (¬ ad.toInt = 0) b94 n.toInt (if rB (q.2.2.2 92) k.toInt < f.toInt then rB (q.2.2.2 92) k.toInt + 1 else rB (q.2.2.2 92) k.toInt)) → hG 1 cd_150 62 [(11, .long u198), (10, .int k), (8, .long t), (7, .int n), (0, .ref 68), (1, .long f), (3, .long s), (5, .int v), (6, .int ad)] [] M (fun r M' => r = none ∧ ∃ (n : Int32) (b92 b94 : Nat → Int64) (b93 b95 : Nat → Int32), wS b92 n.toInt ∧ n.toInt ≤ (q.1 29).toInt + 2 ∧ (∀ i : Int, 0 ≤ i → i < n.toInt → rB b92 i = f.toInt ∨ rB b92 i = f.toInt + s.toInt ∨ ∃ k : Int, 0 ≤ k ∧ k < (q.1 29).toInt ∧ rB b92 i = rB (q.2.2.2 92) k ∧ (¬ ad.toInt = 0 ∨ ¬ (f.toInt < rB (q.2.2.2 92) k ∧ rB (q.2.2.2 92) k < f.toInt + s.toInt))) ∧ Rm X (sA (sA (sB (sB (sF q 29 n) 92 b92) 94 b94) 93 b93) 95 b95) M')) ∧ (∀ (n : Int32) (b94 : Nat → Int64) (b95 : Nat → Int32) (M : dm_Mem), Rm X (sA (sB q 94 b94) 95 b95) M → (0 ≤ n.toInt) → (1 ≤ n.toInt ∨ (k.toInt = 0 ∧ f.toInt = 0)) → (n.toInt ≤ k.toInt + 2) → (rB (q.2.2.2 92) k.toInt ≤ t.toInt → n.toInt ≤ k.toInt + 1) → (rB (q.2.2.2 92) k.toInt = f.toInt → n.toInt ≤ k.toInt) → (f.toInt ≤ rB (q.2.2.2 92) k.toInt) → (ad.toInt = 0 → f.toInt < rB (q.2.2.2 92) k.toInt → rB (q.2.2.2 92) k.toInt < t.toInt → rA b95 (n.toInt - 1) = v.toInt) → (xI (q.2.2.2 92) (q.1 29).toInt f.toInt t.toInt (¬ ad.toInt = 0) b94 n.toInt (if rB (q.2.2.2 92) k.toInt < f.toInt then rB (q.2.2.2 92) k.toInt + 1 else rB (q.2.2.2 92) k.toInt)) → hG 1 cd_150 62 [(11, .long u198), (10, .int k), (7, .int n), (8, .long t), (0, .ref 68), (1, .long f), (3, .long s), (5, .int v), (6, .int ad)] [] M (fun r M' => r = none ∧ ∃ (n : Int32) (b92 b94 : Nat → Int64) (b93 b95 : Nat → Int32), wS b92 n.toInt ∧ n.toInt ≤ (q.1 29).toInt + 2 ∧ (∀ i : Int, 0 ≤ i → i < n.toInt → rB b92 i = f.toInt ∨ rB b92 i = f.toInt + s.toInt ∨ ∃ k : Int, 0 ≤ k ∧ k < (q.1 29).toInt ∧ rB b92 i = rB (q.2.2.2 92) k ∧ (¬ ad.toInt = 0 ∨ ¬ (f.toInt < rB (q.2.2.2 92) k ∧ rB (q.2.2.2 92) k < f.toInt + s.toInt))) ∧ Rm X (sA (sA (sB (sB (sF q 29 n) 92 b92) 94 b94) 93 b93) 95 b95) M')) := by
            refine ⟨?_, ?_⟩
            · skip
              intro n b94 b95 M hM m0 m1 m2 m3 m4 m5 hv hx
              refine hs (f := dm_lld 64 11) rfl rfl ?_
              refine hs (f := dm_lld 65 1) rfl rfl ?_
              refine g_lc_le (x := u198) (y := f) (m := 66) (n := 69) (tt := 133) rfl rfl (fun h267 => ?_) (fun h267 => ?_)
              · skip
                have h267 : u198.toInt ≤ f.toInt := h267
                exact j133n.1 n b94 b95 _ hM (by omega) (by omega) (by omega) (by omega) (fun z1 z2 z3 => by first | exact hv z1 (by omega) (by omega) | (exfalso; omega)) (xI_up hx (by first | omega | (repeat' split) <;> omega))
              · skip
                have h267 : u198.toInt > f.toInt := h267
                refine hs (f := dm_ald 70 0) rfl rfl ?_
                refine r_geta (c := 89) rfl hM rfl ?_
                refine hs (f := dm_ild 75 10) rfl rfl ?_
                refine r_lald (L := 24000) (i := k) ((q.2.2.2 92) k.toInt.toNat) rfl hM rfl (by omega) rfl ?_
                generalize g269 : (q.2.2.2 92) k.toInt.toNat = v268
                have x270 : v268.toInt = rB (q.2.2.2 92) k.toInt := rB_of (i := k) g269 rfl
                refine hs (f := dm_lld 78 8) rfl rfl ?_
                refine g_lc_ge (x := v268) (y := t) (m := 79) (n := 82) (tt := 133) rfl rfl (fun h271 => ?_) (fun h271 => ?_)
                · skip
                  have h271 : v268.toInt ≥ t.toInt := h271
                  exact j133n.1 n b94 b95 _ hM (by omega) (by omega) (by omega) (by omega) (fun z1 z2 z3 => by first | exact hv z1 (by omega) (by omega) | (exfalso; omega)) (xI_up hx (by first | omega | (repeat' split) <;> omega))
                · skip
                  have h271 : v268.toInt < t.toInt := h271
                  refine hs (f := dm_ald 83 0) rfl rfl ?_
                  refine hs (f := dm_ild 85 7) rfl rfl ?_
                  refine hs (f := dm_ald 86 0) rfl rfl ?_
                  refine r_geta (c := 89) rfl hM rfl ?_
                  refine hs (f := dm_ild 91 10) rfl rfl ?_
                  refine r_lald (L := 24000) (i := k) ((q.2.2.2 92) k.toInt.toNat) rfl hM rfl (by omega) rfl ?_
                  generalize g273 : (q.2.2.2 92) k.toInt.toNat = v272
                  have x274 : v272.toInt = rB (q.2.2.2 92) k.toInt := rB_of (i := k) g273 rfl
                  refine hs (f := dm_lld 93 1) rfl rfl ?_
                  refine g_lc_ge (x := v272) (y := f) (m := 94) (n := 97) (tt := 101) rfl rfl (fun h275 => ?_) (fun h275 => ?_)
                  · skip
                    have h275 : v272.toInt ≥ f.toInt := h275
                    refine hs (f := dm_ald 102 0) rfl rfl ?_
                    refine r_geta (c := 89) rfl hM rfl ?_
                    refine hs (f := dm_ild 107 10) rfl rfl ?_
                    refine r_lald (L := 24000) (i := k) ((q.2.2.2 92) k.toInt.toNat) rfl hM rfl (by omega) rfl ?_
                    generalize g277 : (q.2.2.2 92) k.toInt.toNat = v276
                    have x278 : v276.toInt = rB (q.2.2.2 92) k.toInt := rB_of (i := k) g277 rfl
                    refine hs (f := dm_ild 110 6) rfl rfl ?_
                    refine g_if_eq (n := 113) (tt := 126) rfl (fun h279 => ?_) (fun h279 => ?_)
                    · skip
                      have h279 : ad.toInt = 0 := h279
                      refine hs (f := dm_ild 128 5) rfl rfl ?_
                      refine r_inv rfl hM rfl (as := [.ref 68, .int n, .long v276, .int v]) rfl (Nat.le_of_ble_eq_true rfl) (hT_mono (by decide) (r_148 hM n v276 v (by omega) (by omega)) (fun r1 M281 w => ?_))
                      rcases w with ⟨rfl, rfl, un, uv⟩ | ⟨rfl, uv, hM281⟩
                      · skip
                        have uv : rA b95 (n.toInt - 1) = v.toInt := uv
                        have hx282 : xI (q.2.2.2 92) (q.1 29).toInt f.toInt t.toInt (¬ ad.toInt = 0) b94 n.toInt (if u198.toInt ≤ t.toInt then u198.toInt else if rB (q.2.2.2 92) k.toInt < t.toInt then t.toInt else rB (q.2.2.2 92) k.toInt) := xI_up hx (by first | omega | (repeat' split) <;> omega)
                        refine hs (f := dm_ist 133 7) (lv' := [(7, .int n), (11, .long u198), (10, .int k), (8, .long t), (0, .ref 68), (1, .long f), (3, .long s), (5, .int v), (6, .int ad)]) rfl rfl ?_
                        exact j133s n b94 b95 _ hM (by omega) (by omega) (by omega) (fun z1 z2 z3 => by first | omega | (exfalso; omega)) hx282
                      · skip
                        have uv : 0 < n.toInt → ¬ rA b95 (n.toInt - 1) = v.toInt := uv
                        replace hM281 := rm_to (q' := (sA (sB q 94 (vp_updL b94 n.toInt.toNat v276)) 95 (upd b95 n.toInt.toNat v))) hM281 (Eq.trans (congrArg (fun z => sA z 95 (upd b95 n.toInt.toNat v)) (show sB (sA (sB q 94 b94) 95 b95) 94 (vp_updL b94 n.toInt.toNat v276) = (sA (sB q 94 (vp_updL b94 n.toInt.toNat v276)) 95 b95) from (congrArg (fun z => (sA z 95 b95)) (show sB (sB q 94 b94) 94 (vp_updL b94 n.toInt.toNat v276) = (sB q 94 (vp_updL b94 n.toInt.toNat v276)) from sB_sB)))) (show sA (sA (sB q 94 (vp_updL b94 n.toInt.toNat v276)) 95 b95) 95 (upd b95 n.toInt.toNat v) = (sA (sB q 94 (vp_updL b94 n.toInt.toNat v276)) 95 (upd b95 n.toInt.toNat v)) from (show sA (sA (sB q 94 (vp_updL b94 n.toInt.toNat v276)) 95 b95) 95 (upd b95 n.toInt.toNat v) = (sA (sB q 94 (vp_updL b94 n.toInt.toNat v276)) 95 (upd b95 n.toInt.toNat v)) from sA_sA)))
                        have e283 : (n + 1).toInt = n.toInt + 1 := i_addc 1 rfl (by omega) (by omega)
                        have ul : rA (upd b95 n.toInt.toNat v) ((n + 1).toInt - 1) = v.toInt := by rw [e283]; exact rA_last (by omega)
                        have hx282 : xI (q.2.2.2 92) (q.1 29).toInt f.toInt t.toInt (¬ ad.toInt = 0) (vp_updL b94 n.toInt.toNat v276) (n + 1).toInt (if u198.toInt ≤ t.toInt then u198.toInt else if rB (q.2.2.2 92) k.toInt < t.toInt then t.toInt else rB (q.2.2.2 92) k.toInt) := by
                          rw [e283]
                          refine xI_lay hx (by omega) (by first | omega | (repeat' split) <;> omega) (by first | omega | (repeat' split) <;> omega) (by omega) ?_
                          obtain ⟨wi, wi0, wi1, wi2⟩ := wka
                          first
                          | exact Or.inl (by omega)
                          | exact Or.inr (Or.inl (by omega))
                          | exact Or.inr (Or.inr ⟨wi, wi0, wi1, by omega, Or.inr (by omega)⟩)
                          | exact Or.inr (Or.inr ⟨wi, wi0, wi1, by omega, Or.inl (by omega)⟩)
                          | (by_cases z1 : rB (q.2.2.2 92) k.toInt = f.toInt
                             · exact Or.inl (by omega)
                             · exact absurd (hv (by omega) (by omega) (by omega)) (uv (by omega)))
                        refine hs (f := dm_ist 133 7) (lv' := [(7, .int (n + 1)), (11, .long u198), (10, .int k), (8, .long t), (0, .ref 68), (1, .long f), (3, .long s), (5, .int v), (6, .int ad)]) rfl rfl ?_
                        exact j133s (n + 1) (vp_updL b94 n.toInt.toNat v276) (upd b95 n.toInt.toNat v) _ hM281 (by omega) (by omega) (by omega) (fun z1 z2 z3 => by first | exact ul | (exfalso; omega) | omega) hx282
                    · skip
                      have h279 : ¬ ad.toInt = 0 := h279
                      refine hs (f := dm_ald 114 0) rfl rfl ?_
                      refine r_geta (c := 90) rfl hM rfl ?_
                      refine hs (f := dm_ild 119 10) rfl rfl ?_
                      refine r_iald (L := 24000) (i := k) ((q.2.2.1 93) k.toInt.toNat) rfl hM rfl (by omega) rfl ?_
                      generalize g285 : (q.2.2.1 93) k.toInt.toNat = v284
                      have x286 : v284.toInt = rA (q.2.2.1 93) k.toInt := rA_of (i := k) g285 rfl
                      refine hs (f := dm_ild 122 5) rfl rfl ?_
                      refine hs (f := dm_ii 123 (fun x y => x + y)) (st' := [.int (v284 + v), .long v276, .int n, .ref 68]) rfl rfl ?_
                      refine hs (f := dm_goto 128) rfl rfl ?_
                      refine r_inv rfl hM rfl (as := [.ref 68, .int n, .long v276, .int (v284 + v)]) rfl (Nat.le_of_ble_eq_true rfl) (hT_mono (by decide) (r_148 hM n v276 (v284 + v) (by omega) (by omega)) (fun r1 M288 w => ?_))
                      rcases w with ⟨rfl, rfl, un, uv⟩ | ⟨rfl, uv, hM288⟩
                      · skip
                        have uv : rA b95 (n.toInt - 1) = (v284 + v).toInt := uv
                        have hx289 : xI (q.2.2.2 92) (q.1 29).toInt f.toInt t.toInt (¬ ad.toInt = 0) b94 n.toInt (if u198.toInt ≤ t.toInt then u198.toInt else if rB (q.2.2.2 92) k.toInt < t.toInt then t.toInt else rB (q.2.2.2 92) k.toInt) := xI_up hx (by first | omega | (repeat' split) <;> omega)
                        refine hs (f := dm_ist 133 7) (lv' := [(7, .int n), (11, .long u198), (10, .int k), (8, .long t), (0, .ref 68), (1, .long f), (3, .long s), (5, .int v), (6, .int ad)]) rfl rfl ?_
                        exact j133s n b94 b95 _ hM (by omega) (by omega) (by omega) (fun z1 z2 z3 => by first | omega | (exfalso; omega)) hx289
                      · skip
                        have uv : 0 < n.toInt → ¬ rA b95 (n.toInt - 1) = (v284 + v).toInt := uv
                        replace hM288 := rm_to (q' := (sA (sB q 94 (vp_updL b94 n.toInt.toNat v276)) 95 (upd b95 n.toInt.toNat (v284 + v)))) hM288 (Eq.trans (congrArg (fun z => sA z 95 (upd b95 n.toInt.toNat (v284 + v))) (show sB (sA (sB q 94 b94) 95 b95) 94 (vp_updL b94 n.toInt.toNat v276) = (sA (sB q 94 (vp_updL b94 n.toInt.toNat v276)) 95 b95) from (congrArg (fun z => (sA z 95 b95)) (show sB (sB q 94 b94) 94 (vp_updL b94 n.toInt.toNat v276) = (sB q 94 (vp_updL b94 n.toInt.toNat v276)) from sB_sB)))) (show sA (sA (sB q 94 (vp_updL b94 n.toInt.toNat v276)) 95 b95) 95 (upd b95 n.toInt.toNat (v284 + v)) = (sA (sB q 94 (vp_updL b94 n.toInt.toNat v276)) 95 (upd b95 n.toInt.toNat (v284 + v))) from (show sA (sA (sB q 94 (vp_updL b94 n.toInt.toNat v276)) 95 b95) 95 (upd b95 n.toInt.toNat (v284 + v)) = (sA (sB q 94 (vp_updL b94 n.toInt.toNat v276)) 95 (upd b95 n.toInt.toNat (v284 + v))) from sA_sA)))
                        have e290 : (n + 1).toInt = n.toInt + 1 := i_addc 1 rfl (by omega) (by omega)
                        have ul : rA (upd b95 n.toInt.toNat (v284 + v)) ((n + 1).toInt - 1) = (v284 + v).toInt := by rw [e290]; exact rA_last (by omega)
                        have hx289 : xI (q.2.2.2 92) (q.1 29).toInt f.toInt t.toInt (¬ ad.toInt = 0) (vp_updL b94 n.toInt.toNat v276) (n + 1).toInt (if u198.toInt ≤ t.toInt then u198.toInt else if rB (q.2.2.2 92) k.toInt < t.toInt then t.toInt else rB (q.2.2.2 92) k.toInt) := by
                          rw [e290]
                          refine xI_lay hx (by omega) (by first | omega | (repeat' split) <;> omega) (by first | omega | (repeat' split) <;> omega) (by omega) ?_
                          obtain ⟨wi, wi0, wi1, wi2⟩ := wka
                          first
                          | exact Or.inl (by omega)
                          | exact Or.inr (Or.inl (by omega))
                          | exact Or.inr (Or.inr ⟨wi, wi0, wi1, by omega, Or.inr (by omega)⟩)
                          | exact Or.inr (Or.inr ⟨wi, wi0, wi1, by omega, Or.inl (by omega)⟩)
                          | (by_cases z1 : rB (q.2.2.2 92) k.toInt = f.toInt
                             · exact Or.inl (by omega)
                             · exact absurd (hv (by omega) (by omega) (by omega)) (uv (by omega)))
                        refine hs (f := dm_ist 133 7) (lv' := [(7, .int (n + 1)), (11, .long u198), (10, .int k), (8, .long t), (0, .ref 68), (1, .long f), (3, .long s), (5, .int v), (6, .int ad)]) rfl rfl ?_
                        exact j133s (n + 1) (vp_updL b94 n.toInt.toNat v276) (upd b95 n.toInt.toNat (v284 + v)) _ hM288 (by omega) (by omega) (by omega) (fun z1 z2 z3 => by first | exact ul | (exfalso; omega) | omega) hx289
                  · skip
                    have h275 : v272.toInt < f.toInt := h275
                    refine hs (f := dm_lld 98 1) rfl rfl ?_
                    refine hs (f := dm_goto 108) rfl rfl ?_
                    refine hs (f := dm_ild 110 6) rfl rfl ?_
                    refine g_if_eq (n := 113) (tt := 126) rfl (fun h291 => ?_) (fun h291 => ?_)
                    · skip
                      have h291 : ad.toInt = 0 := h291
                      refine hs (f := dm_ild 128 5) rfl rfl ?_
                      refine r_inv rfl hM rfl (as := [.ref 68, .int n, .long f, .int v]) rfl (Nat.le_of_ble_eq_true rfl) (hT_mono (by decide) (r_148 hM n f v (by omega) (by omega)) (fun r1 M293 w => ?_))
                      rcases w with ⟨rfl, rfl, un, uv⟩ | ⟨rfl, uv, hM293⟩
                      · skip
                        have uv : rA b95 (n.toInt - 1) = v.toInt := uv
                        have hx294 : xI (q.2.2.2 92) (q.1 29).toInt f.toInt t.toInt (¬ ad.toInt = 0) b94 n.toInt (if u198.toInt ≤ t.toInt then u198.toInt else if rB (q.2.2.2 92) k.toInt < t.toInt then t.toInt else rB (q.2.2.2 92) k.toInt) := xI_up hx (by first | omega | (repeat' split) <;> omega)
                        refine hs (f := dm_ist 133 7) (lv' := [(7, .int n), (11, .long u198), (10, .int k), (8, .long t), (0, .ref 68), (1, .long f), (3, .long s), (5, .int v), (6, .int ad)]) rfl rfl ?_
                        exact j133s n b94 b95 _ hM (by omega) (by omega) (by omega) (fun z1 z2 z3 => by first | omega | (exfalso; omega)) hx294
                      · skip
                        have uv : 0 < n.toInt → ¬ rA b95 (n.toInt - 1) = v.toInt := uv
                        replace hM293 := rm_to (q' := (sA (sB q 94 (vp_updL b94 n.toInt.toNat f)) 95 (upd b95 n.toInt.toNat v))) hM293 (Eq.trans (congrArg (fun z => sA z 95 (upd b95 n.toInt.toNat v)) (show sB (sA (sB q 94 b94) 95 b95) 94 (vp_updL b94 n.toInt.toNat f) = (sA (sB q 94 (vp_updL b94 n.toInt.toNat f)) 95 b95) from (congrArg (fun z => (sA z 95 b95)) (show sB (sB q 94 b94) 94 (vp_updL b94 n.toInt.toNat f) = (sB q 94 (vp_updL b94 n.toInt.toNat f)) from sB_sB)))) (show sA (sA (sB q 94 (vp_updL b94 n.toInt.toNat f)) 95 b95) 95 (upd b95 n.toInt.toNat v) = (sA (sB q 94 (vp_updL b94 n.toInt.toNat f)) 95 (upd b95 n.toInt.toNat v)) from (show sA (sA (sB q 94 (vp_updL b94 n.toInt.toNat f)) 95 b95) 95 (upd b95 n.toInt.toNat v) = (sA (sB q 94 (vp_updL b94 n.toInt.toNat f)) 95 (upd b95 n.toInt.toNat v)) from sA_sA)))
                        have e295 : (n + 1).toInt = n.toInt + 1 := i_addc 1 rfl (by omega) (by omega)
                        have ul : rA (upd b95 n.toInt.toNat v) ((n + 1).toInt - 1) = v.toInt := by rw [e295]; exact rA_last (by omega)
                        have hx294 : xI (q.2.2.2 92) (q.1 29).toInt f.toInt t.toInt (¬ ad.toInt = 0) (vp_updL b94 n.toInt.toNat f) (n + 1).toInt (if u198.toInt ≤ t.toInt then u198.toInt else if rB (q.2.2.2 92) k.toInt < t.toInt then t.toInt else rB (q.2.2.2 92) k.toInt) := by
                          rw [e295]
                          refine xI_lay hx (by omega) (by first | omega | (repeat' split) <;> omega) (by first | omega | (repeat' split) <;> omega) (by omega) ?_
                          obtain ⟨wi, wi0, wi1, wi2⟩ := wka
                          first
                          | exact Or.inl (by omega)
                          | exact Or.inr (Or.inl (by omega))
                          | exact Or.inr (Or.inr ⟨wi, wi0, wi1, by omega, Or.inr (by omega)⟩)
                          | exact Or.inr (Or.inr ⟨wi, wi0, wi1, by omega, Or.inl (by omega)⟩)
                          | (by_cases z1 : rB (q.2.2.2 92) k.toInt = f.toInt
                             · exact Or.inl (by omega)
                             · exact absurd (hv (by omega) (by omega) (by omega)) (uv (by omega)))
                        refine hs (f := dm_ist 133 7) (lv' := [(7, .int (n + 1)), (11, .long u198), (10, .int k), (8, .long t), (0, .ref 68), (1, .long f), (3, .long s), (5, .int v), (6, .int ad)]) rfl rfl ?_
                        exact j133s (n + 1) (vp_updL b94 n.toInt.toNat f) (upd b95 n.toInt.toNat v) _ hM293 (by omega) (by omega) (by omega) (fun z1 z2 z3 => by first | exact ul | (exfalso; omega) | omega) hx294
                    · skip
                      have h291 : ¬ ad.toInt = 0 := h291
                      refine hs (f := dm_ald 114 0) rfl rfl ?_
                      refine r_geta (c := 90) rfl hM rfl ?_
                      refine hs (f := dm_ild 119 10) rfl rfl ?_
                      refine r_iald (L := 24000) (i := k) ((q.2.2.1 93) k.toInt.toNat) rfl hM rfl (by omega) rfl ?_
                      generalize g297 : (q.2.2.1 93) k.toInt.toNat = v296
                      have x298 : v296.toInt = rA (q.2.2.1 93) k.toInt := rA_of (i := k) g297 rfl
                      refine hs (f := dm_ild 122 5) rfl rfl ?_
                      refine hs (f := dm_ii 123 (fun x y => x + y)) (st' := [.int (v296 + v), .long f, .int n, .ref 68]) rfl rfl ?_
                      refine hs (f := dm_goto 128) rfl rfl ?_
                      refine r_inv rfl hM rfl (as := [.ref 68, .int n, .long f, .int (v296 + v)]) rfl (Nat.le_of_ble_eq_true rfl) (hT_mono (by decide) (r_148 hM n f (v296 + v) (by omega) (by omega)) (fun r1 M300 w => ?_))
                      rcases w with ⟨rfl, rfl, un, uv⟩ | ⟨rfl, uv, hM300⟩
                      · skip
                        have uv : rA b95 (n.toInt - 1) = (v296 + v).toInt := uv
                        have hx301 : xI (q.2.2.2 92) (q.1 29).toInt f.toInt t.toInt (¬ ad.toInt = 0) b94 n.toInt (if u198.toInt ≤ t.toInt then u198.toInt else if rB (q.2.2.2 92) k.toInt < t.toInt then t.toInt else rB (q.2.2.2 92) k.toInt) := xI_up hx (by first | omega | (repeat' split) <;> omega)
                        refine hs (f := dm_ist 133 7) (lv' := [(7, .int n), (11, .long u198), (10, .int k), (8, .long t), (0, .ref 68), (1, .long f), (3, .long s), (5, .int v), (6, .int ad)]) rfl rfl ?_
                        exact j133s n b94 b95 _ hM (by omega) (by omega) (by omega) (fun z1 z2 z3 => by first | omega | (exfalso; omega)) hx301
                      · skip
                        have uv : 0 < n.toInt → ¬ rA b95 (n.toInt - 1) = (v296 + v).toInt := uv
                        replace hM300 := rm_to (q' := (sA (sB q 94 (vp_updL b94 n.toInt.toNat f)) 95 (upd b95 n.toInt.toNat (v296 + v)))) hM300 (Eq.trans (congrArg (fun z => sA z 95 (upd b95 n.toInt.toNat (v296 + v))) (show sB (sA (sB q 94 b94) 95 b95) 94 (vp_updL b94 n.toInt.toNat f) = (sA (sB q 94 (vp_updL b94 n.toInt.toNat f)) 95 b95) from (congrArg (fun z => (sA z 95 b95)) (show sB (sB q 94 b94) 94 (vp_updL b94 n.toInt.toNat f) = (sB q 94 (vp_updL b94 n.toInt.toNat f)) from sB_sB)))) (show sA (sA (sB q 94 (vp_updL b94 n.toInt.toNat f)) 95 b95) 95 (upd b95 n.toInt.toNat (v296 + v)) = (sA (sB q 94 (vp_updL b94 n.toInt.toNat f)) 95 (upd b95 n.toInt.toNat (v296 + v))) from (show sA (sA (sB q 94 (vp_updL b94 n.toInt.toNat f)) 95 b95) 95 (upd b95 n.toInt.toNat (v296 + v)) = (sA (sB q 94 (vp_updL b94 n.toInt.toNat f)) 95 (upd b95 n.toInt.toNat (v296 + v))) from sA_sA)))
                        have e302 : (n + 1).toInt = n.toInt + 1 := i_addc 1 rfl (by omega) (by omega)
                        have ul : rA (upd b95 n.toInt.toNat (v296 + v)) ((n + 1).toInt - 1) = (v296 + v).toInt := by rw [e302]; exact rA_last (by omega)
                        have hx301 : xI (q.2.2.2 92) (q.1 29).toInt f.toInt t.toInt (¬ ad.toInt = 0) (vp_updL b94 n.toInt.toNat f) (n + 1).toInt (if u198.toInt ≤ t.toInt then u198.toInt else if rB (q.2.2.2 92) k.toInt < t.toInt then t.toInt else rB (q.2.2.2 92) k.toInt) := by
                          rw [e302]
                          refine xI_lay hx (by omega) (by first | omega | (repeat' split) <;> omega) (by first | omega | (repeat' split) <;> omega) (by omega) ?_
                          obtain ⟨wi, wi0, wi1, wi2⟩ := wka
                          first
                          | exact Or.inl (by omega)
                          | exact Or.inr (Or.inl (by omega))
                          | exact Or.inr (Or.inr ⟨wi, wi0, wi1, by omega, Or.inr (by omega)⟩)
                          | exact Or.inr (Or.inr ⟨wi, wi0, wi1, by omega, Or.inl (by omega)⟩)
                          | (by_cases z1 : rB (q.2.2.2 92) k.toInt = f.toInt
                             · exact Or.inl (by omega)
                             · exact absurd (hv (by omega) (by omega) (by omega)) (uv (by omega)))
                        refine hs (f := dm_ist 133 7) (lv' := [(7, .int (n + 1)), (11, .long u198), (10, .int k), (8, .long t), (0, .ref 68), (1, .long f), (3, .long s), (5, .int v), (6, .int ad)]) rfl rfl ?_
                        exact j133s (n + 1) (vp_updL b94 n.toInt.toNat f) (upd b95 n.toInt.toNat (v296 + v)) _ hM300 (by omega) (by omega) (by omega) (fun z1 z2 z3 => by first | exact ul | (exfalso; omega) | omega) hx301
            · skip
              intro n b94 b95 M hM m0 m1 m2 m3 m4 m5 hv hx
              refine hs (f := dm_lld 64 11) rfl rfl ?_
              refine hs (f := dm_lld 65 1) rfl rfl ?_
              refine g_lc_le (x := u198) (y := f) (m := 66) (n := 69) (tt := 133) rfl rfl (fun h303 => ?_) (fun h303 => ?_)
              · skip
                have h303 : u198.toInt ≤ f.toInt := h303
                exact j133n.2 n b94 b95 _ hM (by omega) (by omega) (by omega) (by omega) (fun z1 z2 z3 => by first | exact hv z1 (by omega) (by omega) | (exfalso; omega)) (xI_up hx (by first | omega | (repeat' split) <;> omega))
              · skip
                have h303 : u198.toInt > f.toInt := h303
                refine hs (f := dm_ald 70 0) rfl rfl ?_
                refine r_geta (c := 89) rfl hM rfl ?_
                refine hs (f := dm_ild 75 10) rfl rfl ?_
                refine r_lald (L := 24000) (i := k) ((q.2.2.2 92) k.toInt.toNat) rfl hM rfl (by omega) rfl ?_
                generalize g305 : (q.2.2.2 92) k.toInt.toNat = v304
                have x306 : v304.toInt = rB (q.2.2.2 92) k.toInt := rB_of (i := k) g305 rfl
                refine hs (f := dm_lld 78 8) rfl rfl ?_
                refine g_lc_ge (x := v304) (y := t) (m := 79) (n := 82) (tt := 133) rfl rfl (fun h307 => ?_) (fun h307 => ?_)
                · skip
                  have h307 : v304.toInt ≥ t.toInt := h307
                  exact j133n.2 n b94 b95 _ hM (by omega) (by omega) (by omega) (by omega) (fun z1 z2 z3 => by first | exact hv z1 (by omega) (by omega) | (exfalso; omega)) (xI_up hx (by first | omega | (repeat' split) <;> omega))
                · skip
                  have h307 : v304.toInt < t.toInt := h307
                  refine hs (f := dm_ald 83 0) rfl rfl ?_
                  refine hs (f := dm_ild 85 7) rfl rfl ?_
                  refine hs (f := dm_ald 86 0) rfl rfl ?_
                  refine r_geta (c := 89) rfl hM rfl ?_
                  refine hs (f := dm_ild 91 10) rfl rfl ?_
                  refine r_lald (L := 24000) (i := k) ((q.2.2.2 92) k.toInt.toNat) rfl hM rfl (by omega) rfl ?_
                  generalize g309 : (q.2.2.2 92) k.toInt.toNat = v308
                  have x310 : v308.toInt = rB (q.2.2.2 92) k.toInt := rB_of (i := k) g309 rfl
                  refine hs (f := dm_lld 93 1) rfl rfl ?_
                  refine g_lc_ge (x := v308) (y := f) (m := 94) (n := 97) (tt := 101) rfl rfl (fun h311 => ?_) (fun h311 => ?_)
                  · skip
                    have h311 : v308.toInt ≥ f.toInt := h311
                    refine hs (f := dm_ald 102 0) rfl rfl ?_
                    refine r_geta (c := 89) rfl hM rfl ?_
                    refine hs (f := dm_ild 107 10) rfl rfl ?_
                    refine r_lald (L := 24000) (i := k) ((q.2.2.2 92) k.toInt.toNat) rfl hM rfl (by omega) rfl ?_
                    generalize g313 : (q.2.2.2 92) k.toInt.toNat = v312
                    have x314 : v312.toInt = rB (q.2.2.2 92) k.toInt := rB_of (i := k) g313 rfl
                    refine hs (f := dm_ild 110 6) rfl rfl ?_
                    refine g_if_eq (n := 113) (tt := 126) rfl (fun h315 => ?_) (fun h315 => ?_)
                    · skip
                      have h315 : ad.toInt = 0 := h315
                      refine hs (f := dm_ild 128 5) rfl rfl ?_
                      refine r_inv rfl hM rfl (as := [.ref 68, .int n, .long v312, .int v]) rfl (Nat.le_of_ble_eq_true rfl) (hT_mono (by decide) (r_148 hM n v312 v (by omega) (by omega)) (fun r1 M317 w => ?_))
                      rcases w with ⟨rfl, rfl, un, uv⟩ | ⟨rfl, uv, hM317⟩
                      · skip
                        have uv : rA b95 (n.toInt - 1) = v.toInt := uv
                        have hx318 : xI (q.2.2.2 92) (q.1 29).toInt f.toInt t.toInt (¬ ad.toInt = 0) b94 n.toInt (if u198.toInt ≤ t.toInt then u198.toInt else if rB (q.2.2.2 92) k.toInt < t.toInt then t.toInt else rB (q.2.2.2 92) k.toInt) := xI_up hx (by first | omega | (repeat' split) <;> omega)
                        refine hs (f := dm_ist 133 7) (lv' := [(7, .int n), (11, .long u198), (10, .int k), (8, .long t), (0, .ref 68), (1, .long f), (3, .long s), (5, .int v), (6, .int ad)]) rfl rfl ?_
                        exact j133s n b94 b95 _ hM (by omega) (by omega) (by omega) (fun z1 z2 z3 => by first | omega | (exfalso; omega)) hx318
                      · skip
                        have uv : 0 < n.toInt → ¬ rA b95 (n.toInt - 1) = v.toInt := uv
                        replace hM317 := rm_to (q' := (sA (sB q 94 (vp_updL b94 n.toInt.toNat v312)) 95 (upd b95 n.toInt.toNat v))) hM317 (Eq.trans (congrArg (fun z => sA z 95 (upd b95 n.toInt.toNat v)) (show sB (sA (sB q 94 b94) 95 b95) 94 (vp_updL b94 n.toInt.toNat v312) = (sA (sB q 94 (vp_updL b94 n.toInt.toNat v312)) 95 b95) from (congrArg (fun z => (sA z 95 b95)) (show sB (sB q 94 b94) 94 (vp_updL b94 n.toInt.toNat v312) = (sB q 94 (vp_updL b94 n.toInt.toNat v312)) from sB_sB)))) (show sA (sA (sB q 94 (vp_updL b94 n.toInt.toNat v312)) 95 b95) 95 (upd b95 n.toInt.toNat v) = (sA (sB q 94 (vp_updL b94 n.toInt.toNat v312)) 95 (upd b95 n.toInt.toNat v)) from (show sA (sA (sB q 94 (vp_updL b94 n.toInt.toNat v312)) 95 b95) 95 (upd b95 n.toInt.toNat v) = (sA (sB q 94 (vp_updL b94 n.toInt.toNat v312)) 95 (upd b95 n.toInt.toNat v)) from sA_sA)))
                        have e319 : (n + 1).toInt = n.toInt + 1 := i_addc 1 rfl (by omega) (by omega)
                        have ul : rA (upd b95 n.toInt.toNat v) ((n + 1).toInt - 1) = v.toInt := by rw [e319]; exact rA_last (by omega)
                        have hx318 : xI (q.2.2.2 92) (q.1 29).toInt f.toInt t.toInt (¬ ad.toInt = 0) (vp_updL b94 n.toInt.toNat v312) (n + 1).toInt (if u198.toInt ≤ t.toInt then u198.toInt else if rB (q.2.2.2 92) k.toInt < t.toInt then t.toInt else rB (q.2.2.2 92) k.toInt) := by
                          rw [e319]
                          refine xI_lay hx (by omega) (by first | omega | (repeat' split) <;> omega) (by first | omega | (repeat' split) <;> omega) (by omega) ?_
                          obtain ⟨wi, wi0, wi1, wi2⟩ := wka
                          first
                          | exact Or.inl (by omega)
                          | exact Or.inr (Or.inl (by omega))
                          | exact Or.inr (Or.inr ⟨wi, wi0, wi1, by omega, Or.inr (by omega)⟩)
                          | exact Or.inr (Or.inr ⟨wi, wi0, wi1, by omega, Or.inl (by omega)⟩)
                          | (by_cases z1 : rB (q.2.2.2 92) k.toInt = f.toInt
                             · exact Or.inl (by omega)
                             · exact absurd (hv (by omega) (by omega) (by omega)) (uv (by omega)))
                        refine hs (f := dm_ist 133 7) (lv' := [(7, .int (n + 1)), (11, .long u198), (10, .int k), (8, .long t), (0, .ref 68), (1, .long f), (3, .long s), (5, .int v), (6, .int ad)]) rfl rfl ?_
                        exact j133s (n + 1) (vp_updL b94 n.toInt.toNat v312) (upd b95 n.toInt.toNat v) _ hM317 (by omega) (by omega) (by omega) (fun z1 z2 z3 => by first | exact ul | (exfalso; omega) | omega) hx318
                    · skip
                      have h315 : ¬ ad.toInt = 0 := h315
                      refine hs (f := dm_ald 114 0) rfl rfl ?_
                      refine r_geta (c := 90) rfl hM rfl ?_
                      refine hs (f := dm_ild 119 10) rfl rfl ?_
                      refine r_iald (L := 24000) (i := k) ((q.2.2.1 93) k.toInt.toNat) rfl hM rfl (by omega) rfl ?_
                      generalize g321 : (q.2.2.1 93) k.toInt.toNat = v320
                      have x322 : v320.toInt = rA (q.2.2.1 93) k.toInt := rA_of (i := k) g321 rfl
                      refine hs (f := dm_ild 122 5) rfl rfl ?_
                      refine hs (f := dm_ii 123 (fun x y => x + y)) (st' := [.int (v320 + v), .long v312, .int n, .ref 68]) rfl rfl ?_
                      refine hs (f := dm_goto 128) rfl rfl ?_
                      refine r_inv rfl hM rfl (as := [.ref 68, .int n, .long v312, .int (v320 + v)]) rfl (Nat.le_of_ble_eq_true rfl) (hT_mono (by decide) (r_148 hM n v312 (v320 + v) (by omega) (by omega)) (fun r1 M324 w => ?_))
                      rcases w with ⟨rfl, rfl, un, uv⟩ | ⟨rfl, uv, hM324⟩
                      · skip
                        have uv : rA b95 (n.toInt - 1) = (v320 + v).toInt := uv
                        have hx325 : xI (q.2.2.2 92) (q.1 29).toInt f.toInt t.toInt (¬ ad.toInt = 0) b94 n.toInt (if u198.toInt ≤ t.toInt then u198.toInt else if rB (q.2.2.2 92) k.toInt < t.toInt then t.toInt else rB (q.2.2.2 92) k.toInt) := xI_up hx (by first | omega | (repeat' split) <;> omega)
                        refine hs (f := dm_ist 133 7) (lv' := [(7, .int n), (11, .long u198), (10, .int k), (8, .long t), (0, .ref 68), (1, .long f), (3, .long s), (5, .int v), (6, .int ad)]) rfl rfl ?_
                        exact j133s n b94 b95 _ hM (by omega) (by omega) (by omega) (fun z1 z2 z3 => by first | omega | (exfalso; omega)) hx325
                      · skip
                        have uv : 0 < n.toInt → ¬ rA b95 (n.toInt - 1) = (v320 + v).toInt := uv
                        replace hM324 := rm_to (q' := (sA (sB q 94 (vp_updL b94 n.toInt.toNat v312)) 95 (upd b95 n.toInt.toNat (v320 + v)))) hM324 (Eq.trans (congrArg (fun z => sA z 95 (upd b95 n.toInt.toNat (v320 + v))) (show sB (sA (sB q 94 b94) 95 b95) 94 (vp_updL b94 n.toInt.toNat v312) = (sA (sB q 94 (vp_updL b94 n.toInt.toNat v312)) 95 b95) from (congrArg (fun z => (sA z 95 b95)) (show sB (sB q 94 b94) 94 (vp_updL b94 n.toInt.toNat v312) = (sB q 94 (vp_updL b94 n.toInt.toNat v312)) from sB_sB)))) (show sA (sA (sB q 94 (vp_updL b94 n.toInt.toNat v312)) 95 b95) 95 (upd b95 n.toInt.toNat (v320 + v)) = (sA (sB q 94 (vp_updL b94 n.toInt.toNat v312)) 95 (upd b95 n.toInt.toNat (v320 + v))) from (show sA (sA (sB q 94 (vp_updL b94 n.toInt.toNat v312)) 95 b95) 95 (upd b95 n.toInt.toNat (v320 + v)) = (sA (sB q 94 (vp_updL b94 n.toInt.toNat v312)) 95 (upd b95 n.toInt.toNat (v320 + v))) from sA_sA)))
                        have e326 : (n + 1).toInt = n.toInt + 1 := i_addc 1 rfl (by omega) (by omega)
                        have ul : rA (upd b95 n.toInt.toNat (v320 + v)) ((n + 1).toInt - 1) = (v320 + v).toInt := by rw [e326]; exact rA_last (by omega)
                        have hx325 : xI (q.2.2.2 92) (q.1 29).toInt f.toInt t.toInt (¬ ad.toInt = 0) (vp_updL b94 n.toInt.toNat v312) (n + 1).toInt (if u198.toInt ≤ t.toInt then u198.toInt else if rB (q.2.2.2 92) k.toInt < t.toInt then t.toInt else rB (q.2.2.2 92) k.toInt) := by
                          rw [e326]
                          refine xI_lay hx (by omega) (by first | omega | (repeat' split) <;> omega) (by first | omega | (repeat' split) <;> omega) (by omega) ?_
                          obtain ⟨wi, wi0, wi1, wi2⟩ := wka
                          first
                          | exact Or.inl (by omega)
                          | exact Or.inr (Or.inl (by omega))
                          | exact Or.inr (Or.inr ⟨wi, wi0, wi1, by omega, Or.inr (by omega)⟩)
                          | exact Or.inr (Or.inr ⟨wi, wi0, wi1, by omega, Or.inl (by omega)⟩)
                          | (by_cases z1 : rB (q.2.2.2 92) k.toInt = f.toInt
                             · exact Or.inl (by omega)
                             · exact absurd (hv (by omega) (by omega) (by omega)) (uv (by omega)))
                        refine hs (f := dm_ist 133 7) (lv' := [(7, .int (n + 1)), (11, .long u198), (10, .int k), (8, .long t), (0, .ref 68), (1, .long f), (3, .long s), (5, .int v), (6, .int ad)]) rfl rfl ?_
                        exact j133s (n + 1) (vp_updL b94 n.toInt.toNat v312) (upd b95 n.toInt.toNat (v320 + v)) _ hM324 (by omega) (by omega) (by omega) (fun z1 z2 z3 => by first | exact ul | (exfalso; omega) | omega) hx325
                  · skip
                    have h311 : v308.toInt < f.toInt := h311
                    refine hs (f := dm_lld 98 1) rfl rfl ?_
                    refine hs (f := dm_goto 108) rfl rfl ?_
                    refine hs (f := dm_ild 110 6) rfl rfl ?_
                    refine g_if_eq (n := 113) (tt := 126) rfl (fun h327 => ?_) (fun h327 => ?_)
                    · skip
                      have h327 : ad.toInt = 0 := h327
                      refine hs (f := dm_ild 128 5) rfl rfl ?_
                      refine r_inv rfl hM rfl (as := [.ref 68, .int n, .long f, .int v]) rfl (Nat.le_of_ble_eq_true rfl) (hT_mono (by decide) (r_148 hM n f v (by omega) (by omega)) (fun r1 M329 w => ?_))
                      rcases w with ⟨rfl, rfl, un, uv⟩ | ⟨rfl, uv, hM329⟩
                      · skip
                        have uv : rA b95 (n.toInt - 1) = v.toInt := uv
                        have hx330 : xI (q.2.2.2 92) (q.1 29).toInt f.toInt t.toInt (¬ ad.toInt = 0) b94 n.toInt (if u198.toInt ≤ t.toInt then u198.toInt else if rB (q.2.2.2 92) k.toInt < t.toInt then t.toInt else rB (q.2.2.2 92) k.toInt) := xI_up hx (by first | omega | (repeat' split) <;> omega)
                        refine hs (f := dm_ist 133 7) (lv' := [(7, .int n), (11, .long u198), (10, .int k), (8, .long t), (0, .ref 68), (1, .long f), (3, .long s), (5, .int v), (6, .int ad)]) rfl rfl ?_
                        exact j133s n b94 b95 _ hM (by omega) (by omega) (by omega) (fun z1 z2 z3 => by first | omega | (exfalso; omega)) hx330
                      · skip
                        have uv : 0 < n.toInt → ¬ rA b95 (n.toInt - 1) = v.toInt := uv
                        replace hM329 := rm_to (q' := (sA (sB q 94 (vp_updL b94 n.toInt.toNat f)) 95 (upd b95 n.toInt.toNat v))) hM329 (Eq.trans (congrArg (fun z => sA z 95 (upd b95 n.toInt.toNat v)) (show sB (sA (sB q 94 b94) 95 b95) 94 (vp_updL b94 n.toInt.toNat f) = (sA (sB q 94 (vp_updL b94 n.toInt.toNat f)) 95 b95) from (congrArg (fun z => (sA z 95 b95)) (show sB (sB q 94 b94) 94 (vp_updL b94 n.toInt.toNat f) = (sB q 94 (vp_updL b94 n.toInt.toNat f)) from sB_sB)))) (show sA (sA (sB q 94 (vp_updL b94 n.toInt.toNat f)) 95 b95) 95 (upd b95 n.toInt.toNat v) = (sA (sB q 94 (vp_updL b94 n.toInt.toNat f)) 95 (upd b95 n.toInt.toNat v)) from (show sA (sA (sB q 94 (vp_updL b94 n.toInt.toNat f)) 95 b95) 95 (upd b95 n.toInt.toNat v) = (sA (sB q 94 (vp_updL b94 n.toInt.toNat f)) 95 (upd b95 n.toInt.toNat v)) from sA_sA)))
                        have e331 : (n + 1).toInt = n.toInt + 1 := i_addc 1 rfl (by omega) (by omega)
                        have ul : rA (upd b95 n.toInt.toNat v) ((n + 1).toInt - 1) = v.toInt := by rw [e331]; exact rA_last (by omega)
                        have hx330 : xI (q.2.2.2 92) (q.1 29).toInt f.toInt t.toInt (¬ ad.toInt = 0) (vp_updL b94 n.toInt.toNat f) (n + 1).toInt (if u198.toInt ≤ t.toInt then u198.toInt else if rB (q.2.2.2 92) k.toInt < t.toInt then t.toInt else rB (q.2.2.2 92) k.toInt) := by
                          rw [e331]
                          refine xI_lay hx (by omega) (by first | omega | (repeat' split) <;> omega) (by first | omega | (repeat' split) <;> omega) (by omega) ?_
                          obtain ⟨wi, wi0, wi1, wi2⟩ := wka
                          first
                          | exact Or.inl (by omega)
                          | exact Or.inr (Or.inl (by omega))
                          | exact Or.inr (Or.inr ⟨wi, wi0, wi1, by omega, Or.inr (by omega)⟩)
                          | exact Or.inr (Or.inr ⟨wi, wi0, wi1, by omega, Or.inl (by omega)⟩)
                          | (by_cases z1 : rB (q.2.2.2 92) k.toInt = f.toInt
                             · exact Or.inl (by omega)
                             · exact absurd (hv (by omega) (by omega) (by omega)) (uv (by omega)))
                        refine hs (f := dm_ist 133 7) (lv' := [(7, .int (n + 1)), (11, .long u198), (10, .int k), (8, .long t), (0, .ref 68), (1, .long f), (3, .long s), (5, .int v), (6, .int ad)]) rfl rfl ?_
                        exact j133s (n + 1) (vp_updL b94 n.toInt.toNat f) (upd b95 n.toInt.toNat v) _ hM329 (by omega) (by omega) (by omega) (fun z1 z2 z3 => by first | exact ul | (exfalso; omega) | omega) hx330
                    · skip
                      have h327 : ¬ ad.toInt = 0 := h327
                      refine hs (f := dm_ald 114 0) rfl rfl ?_
                      refine r_geta (c := 90) rfl hM rfl ?_
                      refine hs (f := dm_ild 119 10) rfl rfl ?_
                      refine r_iald (L := 24000) (i := k) ((q.2.2.1 93) k.toInt.toNat) rfl hM rfl (by omega) rfl ?_
                      generalize g333 : (q.2.2.1 93) k.toInt.toNat = v332
                      have x334 : v332.toInt = rA (q.2.2.1 93) k.toInt := rA_of (i := k) g333 rfl
                      refine hs (f := dm_ild 122 5) rfl rfl ?_
                      refine hs (f := dm_ii 123 (fun x y => x + y)) (st' := [.int (v332 + v), .long f, .int n, .ref 68]) rfl rfl ?_
                      refine hs (f := dm_goto 128) rfl rfl ?_
                      refine r_inv rfl hM rfl (as := [.ref 68, .int n, .long f, .int (v332 + v)]) rfl (Nat.le_of_ble_eq_true rfl) (hT_mono (by decide) (r_148 hM n f (v332 + v) (by omega) (by omega)) (fun r1 M336 w => ?_))
                      rcases w with ⟨rfl, rfl, un, uv⟩ | ⟨rfl, uv, hM336⟩
                      · skip
                        have uv : rA b95 (n.toInt - 1) = (v332 + v).toInt := uv
                        have hx337 : xI (q.2.2.2 92) (q.1 29).toInt f.toInt t.toInt (¬ ad.toInt = 0) b94 n.toInt (if u198.toInt ≤ t.toInt then u198.toInt else if rB (q.2.2.2 92) k.toInt < t.toInt then t.toInt else rB (q.2.2.2 92) k.toInt) := xI_up hx (by first | omega | (repeat' split) <;> omega)
                        refine hs (f := dm_ist 133 7) (lv' := [(7, .int n), (11, .long u198), (10, .int k), (8, .long t), (0, .ref 68), (1, .long f), (3, .long s), (5, .int v), (6, .int ad)]) rfl rfl ?_
                        exact j133s n b94 b95 _ hM (by omega) (by omega) (by omega) (fun z1 z2 z3 => by first | omega | (exfalso; omega)) hx337
                      · skip
                        have uv : 0 < n.toInt → ¬ rA b95 (n.toInt - 1) = (v332 + v).toInt := uv
                        replace hM336 := rm_to (q' := (sA (sB q 94 (vp_updL b94 n.toInt.toNat f)) 95 (upd b95 n.toInt.toNat (v332 + v)))) hM336 (Eq.trans (congrArg (fun z => sA z 95 (upd b95 n.toInt.toNat (v332 + v))) (show sB (sA (sB q 94 b94) 95 b95) 94 (vp_updL b94 n.toInt.toNat f) = (sA (sB q 94 (vp_updL b94 n.toInt.toNat f)) 95 b95) from (congrArg (fun z => (sA z 95 b95)) (show sB (sB q 94 b94) 94 (vp_updL b94 n.toInt.toNat f) = (sB q 94 (vp_updL b94 n.toInt.toNat f)) from sB_sB)))) (show sA (sA (sB q 94 (vp_updL b94 n.toInt.toNat f)) 95 b95) 95 (upd b95 n.toInt.toNat (v332 + v)) = (sA (sB q 94 (vp_updL b94 n.toInt.toNat f)) 95 (upd b95 n.toInt.toNat (v332 + v))) from (show sA (sA (sB q 94 (vp_updL b94 n.toInt.toNat f)) 95 b95) 95 (upd b95 n.toInt.toNat (v332 + v)) = (sA (sB q 94 (vp_updL b94 n.toInt.toNat f)) 95 (upd b95 n.toInt.toNat (v332 + v))) from sA_sA)))
                        have e338 : (n + 1).toInt = n.toInt + 1 := i_addc 1 rfl (by omega) (by omega)
                        have ul : rA (upd b95 n.toInt.toNat (v332 + v)) ((n + 1).toInt - 1) = (v332 + v).toInt := by rw [e338]; exact rA_last (by omega)
                        have hx337 : xI (q.2.2.2 92) (q.1 29).toInt f.toInt t.toInt (¬ ad.toInt = 0) (vp_updL b94 n.toInt.toNat f) (n + 1).toInt (if u198.toInt ≤ t.toInt then u198.toInt else if rB (q.2.2.2 92) k.toInt < t.toInt then t.toInt else rB (q.2.2.2 92) k.toInt) := by
                          rw [e338]
                          refine xI_lay hx (by omega) (by first | omega | (repeat' split) <;> omega) (by first | omega | (repeat' split) <;> omega) (by omega) ?_
                          obtain ⟨wi, wi0, wi1, wi2⟩ := wka
                          first
                          | exact Or.inl (by omega)
                          | exact Or.inr (Or.inl (by omega))
                          | exact Or.inr (Or.inr ⟨wi, wi0, wi1, by omega, Or.inr (by omega)⟩)
                          | exact Or.inr (Or.inr ⟨wi, wi0, wi1, by omega, Or.inl (by omega)⟩)
                          | (by_cases z1 : rB (q.2.2.2 92) k.toInt = f.toInt
                             · exact Or.inl (by omega)
                             · exact absurd (hv (by omega) (by omega) (by omega)) (uv (by omega)))
                        refine hs (f := dm_ist 133 7) (lv' := [(7, .int (n + 1)), (11, .long u198), (10, .int k), (8, .long t), (0, .ref 68), (1, .long f), (3, .long s), (5, .int v), (6, .int ad)]) rfl rfl ?_
                        exact j133s (n + 1) (vp_updL b94 n.toInt.toNat f) (upd b95 n.toInt.toNat (v332 + v)) _ hM336 (by omega) (by omega) (by omega) (fun z1 z2 z3 => by first | exact ul | (exfalso; omega) | omega) hx337
          have j62s : ∀ (n : Int32) (b94 : Nat → Int64) (b95 : Nat → Int32) (M : dm_Mem), Rm X (sA (sB q 94 b94) 95 b95) M → (0 ≤ n.toInt) → (1 ≤ n.toInt ∨ (k.toInt = 0 ∧ f.toInt = 0)) → (n.toInt ≤ k.toInt + 2) → (rB (q.2.2.2 92) k.toInt ≤ t.toInt → n.toInt ≤ k.toInt + 1) → (rB (q.2.2.2 92) k.toInt = f.toInt → n.toInt ≤ k.toInt) → (rB (q.2.2.2 92) k.toInt < f.toInt) → (ad.toInt = 0 → f.toInt < rB (q.2.2.2 92) k.toInt → rB (q.2.2.2 92) k.toInt < t.toInt → rA b95 (n.toInt - 1) = v.toInt) → (xI (q.2.2.2 92) (q.1 29).toInt f.toInt t.toInt (¬ ad.toInt = 0) b94 n.toInt (if rB (q.2.2.2 92) k.toInt < f.toInt then rB (q.2.2.2 92) k.toInt + 1 else rB (q.2.2.2 92) k.toInt)) → hG 1 cd_150 62 [(7, .int n), (11, .long u198), (10, .int k), (8, .long t), (0, .ref 68), (1, .long f), (3, .long s), (5, .int v), (6, .int ad)] [] M (fun r M' => r = none ∧ ∃ (n : Int32) (b92 b94 : Nat → Int64) (b93 b95 : Nat → Int32), wS b92 n.toInt ∧ n.toInt ≤ (q.1 29).toInt + 2 ∧ (∀ i : Int, 0 ≤ i → i < n.toInt → rB b92 i = f.toInt ∨ rB b92 i = f.toInt + s.toInt ∨ ∃ k : Int, 0 ≤ k ∧ k < (q.1 29).toInt ∧ rB b92 i = rB (q.2.2.2 92) k ∧ (¬ ad.toInt = 0 ∨ ¬ (f.toInt < rB (q.2.2.2 92) k ∧ rB (q.2.2.2 92) k < f.toInt + s.toInt))) ∧ Rm X (sA (sA (sB (sB (sF q 29 n) 92 b92) 94 b94) 93 b93) 95 b95) M') := by
            intro n b94 b95 M hM m0 m1 m2 m3 m4 m5 hv hx
            refine hs (f := dm_lld 64 11) rfl rfl ?_
            refine hs (f := dm_lld 65 1) rfl rfl ?_
            refine g_lc_le (x := u198) (y := f) (m := 66) (n := 69) (tt := 133) rfl rfl (fun h339 => ?_) (fun h339 => ?_)
            · skip
              have h339 : u198.toInt ≤ f.toInt := h339
              exact j133s n b94 b95 _ hM (by omega) (by omega) (by omega) (fun z1 z2 z3 => by first | exact hv z1 (by omega) (by omega) | (exfalso; omega)) (xI_up hx (by first | omega | (repeat' split) <;> omega))
            · skip
              have h339 : u198.toInt > f.toInt := h339
              refine hs (f := dm_ald 70 0) rfl rfl ?_
              refine r_geta (c := 89) rfl hM rfl ?_
              refine hs (f := dm_ild 75 10) rfl rfl ?_
              refine r_lald (L := 24000) (i := k) ((q.2.2.2 92) k.toInt.toNat) rfl hM rfl (by omega) rfl ?_
              generalize g341 : (q.2.2.2 92) k.toInt.toNat = v340
              have x342 : v340.toInt = rB (q.2.2.2 92) k.toInt := rB_of (i := k) g341 rfl
              refine hs (f := dm_lld 78 8) rfl rfl ?_
              refine g_lc_ge (x := v340) (y := t) (m := 79) (n := 82) (tt := 133) rfl rfl (fun h343 => ?_) (fun h343 => ?_)
              · skip
                have h343 : v340.toInt ≥ t.toInt := h343
                exact j133s n b94 b95 _ hM (by omega) (by omega) (by omega) (fun z1 z2 z3 => by first | exact hv z1 (by omega) (by omega) | (exfalso; omega)) (xI_up hx (by first | omega | (repeat' split) <;> omega))
              · skip
                have h343 : v340.toInt < t.toInt := h343
                refine hs (f := dm_ald 83 0) rfl rfl ?_
                refine hs (f := dm_ild 85 7) rfl rfl ?_
                refine hs (f := dm_ald 86 0) rfl rfl ?_
                refine r_geta (c := 89) rfl hM rfl ?_
                refine hs (f := dm_ild 91 10) rfl rfl ?_
                refine r_lald (L := 24000) (i := k) ((q.2.2.2 92) k.toInt.toNat) rfl hM rfl (by omega) rfl ?_
                generalize g345 : (q.2.2.2 92) k.toInt.toNat = v344
                have x346 : v344.toInt = rB (q.2.2.2 92) k.toInt := rB_of (i := k) g345 rfl
                refine hs (f := dm_lld 93 1) rfl rfl ?_
                refine g_lc_ge (x := v344) (y := f) (m := 94) (n := 97) (tt := 101) rfl rfl (fun h347 => ?_) (fun h347 => ?_)
                · skip
                  have h347 : v344.toInt ≥ f.toInt := h347
                  refine hs (f := dm_ald 102 0) rfl rfl ?_
                  refine r_geta (c := 89) rfl hM rfl ?_
                  refine hs (f := dm_ild 107 10) rfl rfl ?_
                  refine r_lald (L := 24000) (i := k) ((q.2.2.2 92) k.toInt.toNat) rfl hM rfl (by omega) rfl ?_
                  generalize g349 : (q.2.2.2 92) k.toInt.toNat = v348
                  have x350 : v348.toInt = rB (q.2.2.2 92) k.toInt := rB_of (i := k) g349 rfl
                  refine hs (f := dm_ild 110 6) rfl rfl ?_
                  refine g_if_eq (n := 113) (tt := 126) rfl (fun h351 => ?_) (fun h351 => ?_)
                  · skip
                    have h351 : ad.toInt = 0 := h351
                    refine hs (f := dm_ild 128 5) rfl rfl ?_
                    refine r_inv rfl hM rfl (as := [.ref 68, .int n, .long v348, .int v]) rfl (Nat.le_of_ble_eq_true rfl) (hT_mono (by decide) (r_148 hM n v348 v (by omega) (by omega)) (fun r1 M353 w => ?_))
                    rcases w with ⟨rfl, rfl, un, uv⟩ | ⟨rfl, uv, hM353⟩
                    · skip
                      have uv : rA b95 (n.toInt - 1) = v.toInt := uv
                      have hx354 : xI (q.2.2.2 92) (q.1 29).toInt f.toInt t.toInt (¬ ad.toInt = 0) b94 n.toInt (if u198.toInt ≤ t.toInt then u198.toInt else if rB (q.2.2.2 92) k.toInt < t.toInt then t.toInt else rB (q.2.2.2 92) k.toInt) := xI_up hx (by first | omega | (repeat' split) <;> omega)
                      refine hs (f := dm_ist 133 7) (lv' := [(7, .int n), (11, .long u198), (10, .int k), (8, .long t), (0, .ref 68), (1, .long f), (3, .long s), (5, .int v), (6, .int ad)]) rfl rfl ?_
                      exact j133s n b94 b95 _ hM (by omega) (by omega) (by omega) (fun z1 z2 z3 => by first | omega | (exfalso; omega)) hx354
                    · skip
                      have uv : 0 < n.toInt → ¬ rA b95 (n.toInt - 1) = v.toInt := uv
                      replace hM353 := rm_to (q' := (sA (sB q 94 (vp_updL b94 n.toInt.toNat v348)) 95 (upd b95 n.toInt.toNat v))) hM353 (Eq.trans (congrArg (fun z => sA z 95 (upd b95 n.toInt.toNat v)) (show sB (sA (sB q 94 b94) 95 b95) 94 (vp_updL b94 n.toInt.toNat v348) = (sA (sB q 94 (vp_updL b94 n.toInt.toNat v348)) 95 b95) from (congrArg (fun z => (sA z 95 b95)) (show sB (sB q 94 b94) 94 (vp_updL b94 n.toInt.toNat v348) = (sB q 94 (vp_updL b94 n.toInt.toNat v348)) from sB_sB)))) (show sA (sA (sB q 94 (vp_updL b94 n.toInt.toNat v348)) 95 b95) 95 (upd b95 n.toInt.toNat v) = (sA (sB q 94 (vp_updL b94 n.toInt.toNat v348)) 95 (upd b95 n.toInt.toNat v)) from (show sA (sA (sB q 94 (vp_updL b94 n.toInt.toNat v348)) 95 b95) 95 (upd b95 n.toInt.toNat v) = (sA (sB q 94 (vp_updL b94 n.toInt.toNat v348)) 95 (upd b95 n.toInt.toNat v)) from sA_sA)))
                      have e355 : (n + 1).toInt = n.toInt + 1 := i_addc 1 rfl (by omega) (by omega)
                      have ul : rA (upd b95 n.toInt.toNat v) ((n + 1).toInt - 1) = v.toInt := by rw [e355]; exact rA_last (by omega)
                      have hx354 : xI (q.2.2.2 92) (q.1 29).toInt f.toInt t.toInt (¬ ad.toInt = 0) (vp_updL b94 n.toInt.toNat v348) (n + 1).toInt (if u198.toInt ≤ t.toInt then u198.toInt else if rB (q.2.2.2 92) k.toInt < t.toInt then t.toInt else rB (q.2.2.2 92) k.toInt) := by
                        rw [e355]
                        refine xI_lay hx (by omega) (by first | omega | (repeat' split) <;> omega) (by first | omega | (repeat' split) <;> omega) (by omega) ?_
                        obtain ⟨wi, wi0, wi1, wi2⟩ := wka
                        first
                        | exact Or.inl (by omega)
                        | exact Or.inr (Or.inl (by omega))
                        | exact Or.inr (Or.inr ⟨wi, wi0, wi1, by omega, Or.inr (by omega)⟩)
                        | exact Or.inr (Or.inr ⟨wi, wi0, wi1, by omega, Or.inl (by omega)⟩)
                        | (by_cases z1 : rB (q.2.2.2 92) k.toInt = f.toInt
                           · exact Or.inl (by omega)
                           · exact absurd (hv (by omega) (by omega) (by omega)) (uv (by omega)))
                      refine hs (f := dm_ist 133 7) (lv' := [(7, .int (n + 1)), (11, .long u198), (10, .int k), (8, .long t), (0, .ref 68), (1, .long f), (3, .long s), (5, .int v), (6, .int ad)]) rfl rfl ?_
                      exact j133s (n + 1) (vp_updL b94 n.toInt.toNat v348) (upd b95 n.toInt.toNat v) _ hM353 (by omega) (by omega) (by omega) (fun z1 z2 z3 => by first | exact ul | (exfalso; omega) | omega) hx354
                  · skip
                    have h351 : ¬ ad.toInt = 0 := h351
                    refine hs (f := dm_ald 114 0) rfl rfl ?_
                    refine r_geta (c := 90) rfl hM rfl ?_
                    refine hs (f := dm_ild 119 10) rfl rfl ?_
                    refine r_iald (L := 24000) (i := k) ((q.2.2.1 93) k.toInt.toNat) rfl hM rfl (by omega) rfl ?_
                    generalize g357 : (q.2.2.1 93) k.toInt.toNat = v356
                    have x358 : v356.toInt = rA (q.2.2.1 93) k.toInt := rA_of (i := k) g357 rfl
                    refine hs (f := dm_ild 122 5) rfl rfl ?_
                    refine hs (f := dm_ii 123 (fun x y => x + y)) (st' := [.int (v356 + v), .long v348, .int n, .ref 68]) rfl rfl ?_
                    refine hs (f := dm_goto 128) rfl rfl ?_
                    refine r_inv rfl hM rfl (as := [.ref 68, .int n, .long v348, .int (v356 + v)]) rfl (Nat.le_of_ble_eq_true rfl) (hT_mono (by decide) (r_148 hM n v348 (v356 + v) (by omega) (by omega)) (fun r1 M360 w => ?_))
                    rcases w with ⟨rfl, rfl, un, uv⟩ | ⟨rfl, uv, hM360⟩
                    · skip
                      have uv : rA b95 (n.toInt - 1) = (v356 + v).toInt := uv
                      have hx361 : xI (q.2.2.2 92) (q.1 29).toInt f.toInt t.toInt (¬ ad.toInt = 0) b94 n.toInt (if u198.toInt ≤ t.toInt then u198.toInt else if rB (q.2.2.2 92) k.toInt < t.toInt then t.toInt else rB (q.2.2.2 92) k.toInt) := xI_up hx (by first | omega | (repeat' split) <;> omega)
                      refine hs (f := dm_ist 133 7) (lv' := [(7, .int n), (11, .long u198), (10, .int k), (8, .long t), (0, .ref 68), (1, .long f), (3, .long s), (5, .int v), (6, .int ad)]) rfl rfl ?_
                      exact j133s n b94 b95 _ hM (by omega) (by omega) (by omega) (fun z1 z2 z3 => by first | omega | (exfalso; omega)) hx361
                    · skip
                      have uv : 0 < n.toInt → ¬ rA b95 (n.toInt - 1) = (v356 + v).toInt := uv
                      replace hM360 := rm_to (q' := (sA (sB q 94 (vp_updL b94 n.toInt.toNat v348)) 95 (upd b95 n.toInt.toNat (v356 + v)))) hM360 (Eq.trans (congrArg (fun z => sA z 95 (upd b95 n.toInt.toNat (v356 + v))) (show sB (sA (sB q 94 b94) 95 b95) 94 (vp_updL b94 n.toInt.toNat v348) = (sA (sB q 94 (vp_updL b94 n.toInt.toNat v348)) 95 b95) from (congrArg (fun z => (sA z 95 b95)) (show sB (sB q 94 b94) 94 (vp_updL b94 n.toInt.toNat v348) = (sB q 94 (vp_updL b94 n.toInt.toNat v348)) from sB_sB)))) (show sA (sA (sB q 94 (vp_updL b94 n.toInt.toNat v348)) 95 b95) 95 (upd b95 n.toInt.toNat (v356 + v)) = (sA (sB q 94 (vp_updL b94 n.toInt.toNat v348)) 95 (upd b95 n.toInt.toNat (v356 + v))) from (show sA (sA (sB q 94 (vp_updL b94 n.toInt.toNat v348)) 95 b95) 95 (upd b95 n.toInt.toNat (v356 + v)) = (sA (sB q 94 (vp_updL b94 n.toInt.toNat v348)) 95 (upd b95 n.toInt.toNat (v356 + v))) from sA_sA)))
                      have e362 : (n + 1).toInt = n.toInt + 1 := i_addc 1 rfl (by omega) (by omega)
                      have ul : rA (upd b95 n.toInt.toNat (v356 + v)) ((n + 1).toInt - 1) = (v356 + v).toInt := by rw [e362]; exact rA_last (by omega)
                      have hx361 : xI (q.2.2.2 92) (q.1 29).toInt f.toInt t.toInt (¬ ad.toInt = 0) (vp_updL b94 n.toInt.toNat v348) (n + 1).toInt (if u198.toInt ≤ t.toInt then u198.toInt else if rB (q.2.2.2 92) k.toInt < t.toInt then t.toInt else rB (q.2.2.2 92) k.toInt) := by
                        rw [e362]
                        refine xI_lay hx (by omega) (by first | omega | (repeat' split) <;> omega) (by first | omega | (repeat' split) <;> omega) (by omega) ?_
                        obtain ⟨wi, wi0, wi1, wi2⟩ := wka
                        first
                        | exact Or.inl (by omega)
                        | exact Or.inr (Or.inl (by omega))
                        | exact Or.inr (Or.inr ⟨wi, wi0, wi1, by omega, Or.inr (by omega)⟩)
                        | exact Or.inr (Or.inr ⟨wi, wi0, wi1, by omega, Or.inl (by omega)⟩)
                        | (by_cases z1 : rB (q.2.2.2 92) k.toInt = f.toInt
                           · exact Or.inl (by omega)
                           · exact absurd (hv (by omega) (by omega) (by omega)) (uv (by omega)))
                      refine hs (f := dm_ist 133 7) (lv' := [(7, .int (n + 1)), (11, .long u198), (10, .int k), (8, .long t), (0, .ref 68), (1, .long f), (3, .long s), (5, .int v), (6, .int ad)]) rfl rfl ?_
                      exact j133s (n + 1) (vp_updL b94 n.toInt.toNat v348) (upd b95 n.toInt.toNat (v356 + v)) _ hM360 (by omega) (by omega) (by omega) (fun z1 z2 z3 => by first | exact ul | (exfalso; omega) | omega) hx361
                · skip
                  have h347 : v344.toInt < f.toInt := h347
                  refine hs (f := dm_lld 98 1) rfl rfl ?_
                  refine hs (f := dm_goto 108) rfl rfl ?_
                  refine hs (f := dm_ild 110 6) rfl rfl ?_
                  refine g_if_eq (n := 113) (tt := 126) rfl (fun h363 => ?_) (fun h363 => ?_)
                  · skip
                    have h363 : ad.toInt = 0 := h363
                    refine hs (f := dm_ild 128 5) rfl rfl ?_
                    refine r_inv rfl hM rfl (as := [.ref 68, .int n, .long f, .int v]) rfl (Nat.le_of_ble_eq_true rfl) (hT_mono (by decide) (r_148 hM n f v (by omega) (by omega)) (fun r1 M365 w => ?_))
                    rcases w with ⟨rfl, rfl, un, uv⟩ | ⟨rfl, uv, hM365⟩
                    · skip
                      have uv : rA b95 (n.toInt - 1) = v.toInt := uv
                      have hx366 : xI (q.2.2.2 92) (q.1 29).toInt f.toInt t.toInt (¬ ad.toInt = 0) b94 n.toInt (if u198.toInt ≤ t.toInt then u198.toInt else if rB (q.2.2.2 92) k.toInt < t.toInt then t.toInt else rB (q.2.2.2 92) k.toInt) := xI_up hx (by first | omega | (repeat' split) <;> omega)
                      refine hs (f := dm_ist 133 7) (lv' := [(7, .int n), (11, .long u198), (10, .int k), (8, .long t), (0, .ref 68), (1, .long f), (3, .long s), (5, .int v), (6, .int ad)]) rfl rfl ?_
                      exact j133s n b94 b95 _ hM (by omega) (by omega) (by omega) (fun z1 z2 z3 => by first | omega | (exfalso; omega)) hx366
                    · skip
                      have uv : 0 < n.toInt → ¬ rA b95 (n.toInt - 1) = v.toInt := uv
                      replace hM365 := rm_to (q' := (sA (sB q 94 (vp_updL b94 n.toInt.toNat f)) 95 (upd b95 n.toInt.toNat v))) hM365 (Eq.trans (congrArg (fun z => sA z 95 (upd b95 n.toInt.toNat v)) (show sB (sA (sB q 94 b94) 95 b95) 94 (vp_updL b94 n.toInt.toNat f) = (sA (sB q 94 (vp_updL b94 n.toInt.toNat f)) 95 b95) from (congrArg (fun z => (sA z 95 b95)) (show sB (sB q 94 b94) 94 (vp_updL b94 n.toInt.toNat f) = (sB q 94 (vp_updL b94 n.toInt.toNat f)) from sB_sB)))) (show sA (sA (sB q 94 (vp_updL b94 n.toInt.toNat f)) 95 b95) 95 (upd b95 n.toInt.toNat v) = (sA (sB q 94 (vp_updL b94 n.toInt.toNat f)) 95 (upd b95 n.toInt.toNat v)) from (show sA (sA (sB q 94 (vp_updL b94 n.toInt.toNat f)) 95 b95) 95 (upd b95 n.toInt.toNat v) = (sA (sB q 94 (vp_updL b94 n.toInt.toNat f)) 95 (upd b95 n.toInt.toNat v)) from sA_sA)))
                      have e367 : (n + 1).toInt = n.toInt + 1 := i_addc 1 rfl (by omega) (by omega)
                      have ul : rA (upd b95 n.toInt.toNat v) ((n + 1).toInt - 1) = v.toInt := by rw [e367]; exact rA_last (by omega)
                      have hx366 : xI (q.2.2.2 92) (q.1 29).toInt f.toInt t.toInt (¬ ad.toInt = 0) (vp_updL b94 n.toInt.toNat f) (n + 1).toInt (if u198.toInt ≤ t.toInt then u198.toInt else if rB (q.2.2.2 92) k.toInt < t.toInt then t.toInt else rB (q.2.2.2 92) k.toInt) := by
                        rw [e367]
                        refine xI_lay hx (by omega) (by first | omega | (repeat' split) <;> omega) (by first | omega | (repeat' split) <;> omega) (by omega) ?_
                        obtain ⟨wi, wi0, wi1, wi2⟩ := wka
                        first
                        | exact Or.inl (by omega)
                        | exact Or.inr (Or.inl (by omega))
                        | exact Or.inr (Or.inr ⟨wi, wi0, wi1, by omega, Or.inr (by omega)⟩)
                        | exact Or.inr (Or.inr ⟨wi, wi0, wi1, by omega, Or.inl (by omega)⟩)
                        | (by_cases z1 : rB (q.2.2.2 92) k.toInt = f.toInt
                           · exact Or.inl (by omega)
                           · exact absurd (hv (by omega) (by omega) (by omega)) (uv (by omega)))
                      refine hs (f := dm_ist 133 7) (lv' := [(7, .int (n + 1)), (11, .long u198), (10, .int k), (8, .long t), (0, .ref 68), (1, .long f), (3, .long s), (5, .int v), (6, .int ad)]) rfl rfl ?_
                      exact j133s (n + 1) (vp_updL b94 n.toInt.toNat f) (upd b95 n.toInt.toNat v) _ hM365 (by omega) (by omega) (by omega) (fun z1 z2 z3 => by first | exact ul | (exfalso; omega) | omega) hx366
                  · skip
                    have h363 : ¬ ad.toInt = 0 := h363
                    refine hs (f := dm_ald 114 0) rfl rfl ?_
                    refine r_geta (c := 90) rfl hM rfl ?_
                    refine hs (f := dm_ild 119 10) rfl rfl ?_
                    refine r_iald (L := 24000) (i := k) ((q.2.2.1 93) k.toInt.toNat) rfl hM rfl (by omega) rfl ?_
                    generalize g369 : (q.2.2.1 93) k.toInt.toNat = v368
                    have x370 : v368.toInt = rA (q.2.2.1 93) k.toInt := rA_of (i := k) g369 rfl
                    refine hs (f := dm_ild 122 5) rfl rfl ?_
                    refine hs (f := dm_ii 123 (fun x y => x + y)) (st' := [.int (v368 + v), .long f, .int n, .ref 68]) rfl rfl ?_
                    refine hs (f := dm_goto 128) rfl rfl ?_
                    refine r_inv rfl hM rfl (as := [.ref 68, .int n, .long f, .int (v368 + v)]) rfl (Nat.le_of_ble_eq_true rfl) (hT_mono (by decide) (r_148 hM n f (v368 + v) (by omega) (by omega)) (fun r1 M372 w => ?_))
                    rcases w with ⟨rfl, rfl, un, uv⟩ | ⟨rfl, uv, hM372⟩
                    · skip
                      have uv : rA b95 (n.toInt - 1) = (v368 + v).toInt := uv
                      have hx373 : xI (q.2.2.2 92) (q.1 29).toInt f.toInt t.toInt (¬ ad.toInt = 0) b94 n.toInt (if u198.toInt ≤ t.toInt then u198.toInt else if rB (q.2.2.2 92) k.toInt < t.toInt then t.toInt else rB (q.2.2.2 92) k.toInt) := xI_up hx (by first | omega | (repeat' split) <;> omega)
                      refine hs (f := dm_ist 133 7) (lv' := [(7, .int n), (11, .long u198), (10, .int k), (8, .long t), (0, .ref 68), (1, .long f), (3, .long s), (5, .int v), (6, .int ad)]) rfl rfl ?_
                      exact j133s n b94 b95 _ hM (by omega) (by omega) (by omega) (fun z1 z2 z3 => by first | omega | (exfalso; omega)) hx373
                    · skip
                      have uv : 0 < n.toInt → ¬ rA b95 (n.toInt - 1) = (v368 + v).toInt := uv
                      replace hM372 := rm_to (q' := (sA (sB q 94 (vp_updL b94 n.toInt.toNat f)) 95 (upd b95 n.toInt.toNat (v368 + v)))) hM372 (Eq.trans (congrArg (fun z => sA z 95 (upd b95 n.toInt.toNat (v368 + v))) (show sB (sA (sB q 94 b94) 95 b95) 94 (vp_updL b94 n.toInt.toNat f) = (sA (sB q 94 (vp_updL b94 n.toInt.toNat f)) 95 b95) from (congrArg (fun z => (sA z 95 b95)) (show sB (sB q 94 b94) 94 (vp_updL b94 n.toInt.toNat f) = (sB q 94 (vp_updL b94 n.toInt.toNat f)) from sB_sB)))) (show sA (sA (sB q 94 (vp_updL b94 n.toInt.toNat f)) 95 b95) 95 (upd b95 n.toInt.toNat (v368 + v)) = (sA (sB q 94 (vp_updL b94 n.toInt.toNat f)) 95 (upd b95 n.toInt.toNat (v368 + v))) from (show sA (sA (sB q 94 (vp_updL b94 n.toInt.toNat f)) 95 b95) 95 (upd b95 n.toInt.toNat (v368 + v)) = (sA (sB q 94 (vp_updL b94 n.toInt.toNat f)) 95 (upd b95 n.toInt.toNat (v368 + v))) from sA_sA)))
                      have e374 : (n + 1).toInt = n.toInt + 1 := i_addc 1 rfl (by omega) (by omega)
                      have ul : rA (upd b95 n.toInt.toNat (v368 + v)) ((n + 1).toInt - 1) = (v368 + v).toInt := by rw [e374]; exact rA_last (by omega)
                      have hx373 : xI (q.2.2.2 92) (q.1 29).toInt f.toInt t.toInt (¬ ad.toInt = 0) (vp_updL b94 n.toInt.toNat f) (n + 1).toInt (if u198.toInt ≤ t.toInt then u198.toInt else if rB (q.2.2.2 92) k.toInt < t.toInt then t.toInt else rB (q.2.2.2 92) k.toInt) := by
                        rw [e374]
                        refine xI_lay hx (by omega) (by first | omega | (repeat' split) <;> omega) (by first | omega | (repeat' split) <;> omega) (by omega) ?_
                        obtain ⟨wi, wi0, wi1, wi2⟩ := wka
                        first
                        | exact Or.inl (by omega)
                        | exact Or.inr (Or.inl (by omega))
                        | exact Or.inr (Or.inr ⟨wi, wi0, wi1, by omega, Or.inr (by omega)⟩)
                        | exact Or.inr (Or.inr ⟨wi, wi0, wi1, by omega, Or.inl (by omega)⟩)
                        | (by_cases z1 : rB (q.2.2.2 92) k.toInt = f.toInt
                           · exact Or.inl (by omega)
                           · exact absurd (hv (by omega) (by omega) (by omega)) (uv (by omega)))
                      refine hs (f := dm_ist 133 7) (lv' := [(7, .int (n + 1)), (11, .long u198), (10, .int k), (8, .long t), (0, .ref 68), (1, .long f), (3, .long s), (5, .int v), (6, .int ad)]) rfl rfl ?_
                      exact j133s (n + 1) (vp_updL b94 n.toInt.toNat f) (upd b95 n.toInt.toNat (v368 + v)) _ hM372 (by omega) (by omega) (by omega) (fun z1 z2 z3 => by first | exact ul | (exfalso; omega) | omega) hx373
          refine hs (f := dm_ald 29 0) rfl rfl ?_
          refine r_geta (c := 89) rfl hM rfl ?_
          refine hs (f := dm_ild 34 10) rfl rfl ?_
          refine r_lald (L := 24000) (i := k) ((q.2.2.2 92) k.toInt.toNat) rfl hM rfl (by omega) rfl ?_
          generalize g376 : (q.2.2.2 92) k.toInt.toNat = v375
          have x377 : v375.toInt = rB (q.2.2.2 92) k.toInt := rB_of (i := k) g376 rfl
          refine hs (f := dm_lld 36 1) rfl rfl ?_
          refine g_lc_ge (x := v375) (y := f) (m := 37) (n := 40) (tt := 62) rfl rfl (fun h378 => ?_) (fun h378 => ?_)
          · skip
            have h378 : v375.toInt ≥ f.toInt := h378
            exact j62n.2 n b94 b95 _ hM (by omega) (by omega) (by omega) (by omega) (by omega) (by omega) (fun z1 z2 z3 => by first | exact hv z1 (by omega) (by omega) | (exfalso; omega)) (xI_up hx (by first | omega | (repeat' split) <;> omega))
          · skip
            have h378 : v375.toInt < f.toInt := h378
            refine hs (f := dm_ald 41 0) rfl rfl ?_
            refine hs (f := dm_ild 43 7) rfl rfl ?_
            refine hs (f := dm_ald 44 0) rfl rfl ?_
            refine r_geta (c := 89) rfl hM rfl ?_
            refine hs (f := dm_ild 49 10) rfl rfl ?_
            refine r_lald (L := 24000) (i := k) ((q.2.2.2 92) k.toInt.toNat) rfl hM rfl (by omega) rfl ?_
            generalize g380 : (q.2.2.2 92) k.toInt.toNat = v379
            have x381 : v379.toInt = rB (q.2.2.2 92) k.toInt := rB_of (i := k) g380 rfl
            refine hs (f := dm_ald 51 0) rfl rfl ?_
            refine r_geta (c := 90) rfl hM rfl ?_
            refine hs (f := dm_ild 56 10) rfl rfl ?_
            refine r_iald (L := 24000) (i := k) ((q.2.2.1 93) k.toInt.toNat) rfl hM rfl (by omega) rfl ?_
            generalize g383 : (q.2.2.1 93) k.toInt.toNat = v382
            have x384 : v382.toInt = rA (q.2.2.1 93) k.toInt := rA_of (i := k) g383 rfl
            refine r_inv rfl hM rfl (as := [.ref 68, .int n, .long v379, .int v382]) rfl (Nat.le_of_ble_eq_true rfl) (hT_mono (by decide) (r_148 hM n v379 v382 (by omega) (by omega)) (fun r1 M386 w => ?_))
            rcases w with ⟨rfl, rfl, un, uv⟩ | ⟨rfl, uv, hM386⟩
            · skip
              have uv : rA b95 (n.toInt - 1) = v382.toInt := uv
              have hx387 : xI (q.2.2.2 92) (q.1 29).toInt f.toInt t.toInt (¬ ad.toInt = 0) b94 n.toInt (if rB (q.2.2.2 92) k.toInt < f.toInt then rB (q.2.2.2 92) k.toInt + 1 else rB (q.2.2.2 92) k.toInt) := xI_up hx (by first | omega | (repeat' split) <;> omega)
              refine hs (f := dm_ist 62 7) (lv' := [(7, .int n), (11, .long u198), (10, .int k), (8, .long t), (0, .ref 68), (1, .long f), (3, .long s), (5, .int v), (6, .int ad)]) rfl rfl ?_
              exact j62s n b94 b95 _ hM (by omega) (by omega) (by omega) (by omega) (by omega) (by omega) (fun z1 z2 z3 => by first | omega | (exfalso; omega)) hx387
            · skip
              have uv : 0 < n.toInt → ¬ rA b95 (n.toInt - 1) = v382.toInt := uv
              replace hM386 := rm_to (q' := (sA (sB q 94 (vp_updL b94 n.toInt.toNat v379)) 95 (upd b95 n.toInt.toNat v382))) hM386 (Eq.trans (congrArg (fun z => sA z 95 (upd b95 n.toInt.toNat v382)) (show sB (sA (sB q 94 b94) 95 b95) 94 (vp_updL b94 n.toInt.toNat v379) = (sA (sB q 94 (vp_updL b94 n.toInt.toNat v379)) 95 b95) from (congrArg (fun z => (sA z 95 b95)) (show sB (sB q 94 b94) 94 (vp_updL b94 n.toInt.toNat v379) = (sB q 94 (vp_updL b94 n.toInt.toNat v379)) from sB_sB)))) (show sA (sA (sB q 94 (vp_updL b94 n.toInt.toNat v379)) 95 b95) 95 (upd b95 n.toInt.toNat v382) = (sA (sB q 94 (vp_updL b94 n.toInt.toNat v379)) 95 (upd b95 n.toInt.toNat v382)) from (show sA (sA (sB q 94 (vp_updL b94 n.toInt.toNat v379)) 95 b95) 95 (upd b95 n.toInt.toNat v382) = (sA (sB q 94 (vp_updL b94 n.toInt.toNat v379)) 95 (upd b95 n.toInt.toNat v382)) from sA_sA)))
              have e388 : (n + 1).toInt = n.toInt + 1 := i_addc 1 rfl (by omega) (by omega)
              have ul : rA (upd b95 n.toInt.toNat v382) ((n + 1).toInt - 1) = v382.toInt := by rw [e388]; exact rA_last (by omega)
              have hx387 : xI (q.2.2.2 92) (q.1 29).toInt f.toInt t.toInt (¬ ad.toInt = 0) (vp_updL b94 n.toInt.toNat v379) (n + 1).toInt (if rB (q.2.2.2 92) k.toInt < f.toInt then rB (q.2.2.2 92) k.toInt + 1 else rB (q.2.2.2 92) k.toInt) := by
                rw [e388]
                refine xI_lay hx (by omega) (by first | omega | (repeat' split) <;> omega) (by first | omega | (repeat' split) <;> omega) (by omega) ?_
                obtain ⟨wi, wi0, wi1, wi2⟩ := wka
                first
                | exact Or.inl (by omega)
                | exact Or.inr (Or.inl (by omega))
                | exact Or.inr (Or.inr ⟨wi, wi0, wi1, by omega, Or.inr (by omega)⟩)
                | exact Or.inr (Or.inr ⟨wi, wi0, wi1, by omega, Or.inl (by omega)⟩)
                | (by_cases z1 : rB (q.2.2.2 92) k.toInt = f.toInt
                   · exact Or.inl (by omega)
                   · exact absurd (hv (by omega) (by omega) (by omega)) (uv (by omega)))
              refine hs (f := dm_ist 62 7) (lv' := [(7, .int (n + 1)), (11, .long u198), (10, .int k), (8, .long t), (0, .ref 68), (1, .long f), (3, .long s), (5, .int v), (6, .int ad)]) rfl rfl ?_
              exact j62s (n + 1) (vp_updL b94 n.toInt.toNat v379) (upd b95 n.toInt.toNat v382) _ hM386 (by omega) (by omega) (by omega) (by omega) (by omega) (by omega) (fun z1 z2 z3 => by first | exact ul | (exfalso; omega) | omega) hx387
  refine hs (f := dm_push 9 (.int 0)) rfl rfl ?_
  refine hs (f := dm_ist 11 10) (lv' := [(10, .int 0), (8, .long t), (7, .int 0), (0, .ref 68), (1, .long f), (3, .long s), (5, .int v), (6, .int ad)]) rfl rfl ?_
  replace hM := rm_to (q' := (sB q 94 (q.2.2.2 94))) hM (Eq.trans (sB_id (q := q) (k := 94) (v := (q.2.2.2 94)) rfl) (show sB q 94 (q.2.2.2 94) = (sB q 94 (q.2.2.2 94)) from (show sB q 94 (q.2.2.2 94) = (sB q 94 (q.2.2.2 94)) from rfl)))
  replace hM := rm_to (q' := (sA (sB q 94 (q.2.2.2 94)) 95 (q.2.2.1 95))) hM (Eq.trans (sA_id (q := (sB q 94 (q.2.2.2 94))) (k := 95) (v := (q.2.2.1 95)) rfl) (show sA (sB q 94 (q.2.2.2 94)) 95 (q.2.2.1 95) = (sA (sB q 94 (q.2.2.2 94)) 95 (q.2.2.1 95)) from (show sA (sB q 94 (q.2.2.2 94)) 95 (q.2.2.1 95) = (sA (sB q 94 (q.2.2.2 94)) 95 (q.2.2.1 95)) from rfl)))
  exact (j11 _).1 (0 : Int32) (0 : Int32) 0 (q.2.2.2 94) (q.2.2.1 95) _ hM (by decide) (by show (0 : Int) ≤ _; omega) (by decide) (by show (0 : Int) ≤ 0 + 2; omega) (fun _ => by show (0 : Int) ≤ _; decide) (fun _ => by show (0 : Int) ≤ _; decide) (fun z => absurd z (by decide)) (fun _ z => absurd z (by show ¬ f.toInt < if (0 : Int) < (q.1 29).toInt then rB (q.2.2.2 92) 0 else _; rw [if_pos (by omega), h00]; omega)) xI_nil rfl
