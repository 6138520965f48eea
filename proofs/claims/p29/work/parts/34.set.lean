/-! a row that is laid anew -/
def xI (w : Nat → Int64) (N f t : Int) (G : Prop) (x : Nat → Int64) (n P : Int) : Prop :=
  (∀ i : Int, 0 ≤ i → i + 1 < n → rB x i < rB x (i + 1)) ∧ (0 < n → rB x 0 = 0) ∧ (∀ i : Int, 0 ≤ i → i < n → rB x i < P ∧ (rB x i = f ∨ rB x i = t ∨ ∃ k : Int, 0 ≤ k ∧ k < N ∧ rB x i = rB w k ∧ (G ∨ ¬ (f < rB w k ∧ rB w k < t))))
theorem xI_up {w : Nat → Int64} {N f t : Int} {G : Prop} {x : Nat → Int64} {n P P' : Int} (h : xI w N f t G x n P) (hP : P ≤ P') : xI w N f t G x n P' := ⟨h.1, h.2.1, fun i i0 i1 => ⟨by have := (h.2.2 i i0 i1).1; omega, (h.2.2 i i0 i1).2⟩⟩
theorem xI_nil {w : Nat → Int64} {N f t : Int} {G : Prop} {x : Nat → Int64} {P : Int} : xI w N f t G x 0 P := ⟨fun i i0 i1 => by omega, fun h => by omega, fun i i0 i1 => by omega⟩
theorem xI_lay {w : Nat → Int64} {N f t : Int} {G : Prop} {x : Nat → Int64} {n P P' : Int} {m : Nat} {p : Int64} (h : xI w N f t G x n P) (hm : n = m) (hP : P ≤ p.toInt) (hP' : p.toInt < P') (h0 : n = 0 → p.toInt = 0) (ha : p.toInt = f ∨ p.toInt = t ∨ ∃ k : Int, 0 ≤ k ∧ k < N ∧ p.toInt = rB w k ∧ (G ∨ ¬ (f < rB w k ∧ rB w k < t))) : xI w N f t G (vp_updL x m p) (n + 1) P' := by
  obtain ⟨h1, h2, h3⟩ := h
  refine ⟨fun i i0 i1 => ?_, fun _ => ?_, fun i i0 i1 => ?_⟩
  · rw [rB_upd i0, rB_upd (by omega)]
    by_cases e : i + 1 = m
    · rw [if_pos e, if_neg (by omega)]
      have := (h3 i i0 (by omega)).1
      omega
    · rw [if_neg e, if_neg (by omega)]
      exact h1 i i0 (by omega)
  · rw [rB_upd (by omega)]
    by_cases e : (0 : Int) = m
    · rw [if_pos e]
      exact h0 (by omega)
    · rw [if_neg e]
      exact h2 (by omega)
  · rw [rB_upd i0]
    by_cases e : i = m
    · rw [if_pos e]
      exact ⟨hP', ha⟩
    · rw [if_neg e]
      have := h3 i i0 (by omega)
      exact ⟨by omega, this.2⟩
theorem xI_wS {w : Nat → Int64} {N f t : Int} {G : Prop} {x y : Nat → Int64} {n : Int} (h : xI w N f t G x n 1152921504606846976) (hn : 1 ≤ n) (he : ∀ i : Int, 0 ≤ i → i < n → y i.toNat = x i.toNat) : wS y n := by
  have he2 : ∀ i : Int, 0 ≤ i → i < n → rB y i = rB x i := fun i i0 i1 => by unfold rB; rw [he i i0 i1]
  refine ⟨hn, ?_, fun i i0 i1 => ?_, fun i i0 i1 => ?_⟩
  · rw [he2 0 (by omega) (by omega)]
    exact h.2.1 (by omega)
  · rw [he2 i i0 (by omega), he2 (i + 1) (by omega) i1]
    exact h.1 i i0 i1
  · rw [he2 i i0 i1]
    exact (h.2.2 i i0 i1).1
theorem rA_last {a : Nat → Int32} {n : Int} {m : Nat} {x : Int32} (hm : n = m) : rA (upd a m x) (n + 1 - 1) = x.toInt := by
  rw [rA_upd (by omega), if_pos (by omega)]
theorem r_146 {X : dm_Mem} {q : rS} {M : dm_Mem} (hM : Rm X q M) (f s : Int64) (hS : wS (q.2.2.2 92) (q.1 29).toInt) (hn : (q.1 29).toInt ≤ 24000) (hf : 0 ≤ f.toInt) (hs0 : 0 < s.toInt) (hfs : f.toInt + s.toInt ≤ 1152921504606846976) : hT 2 146 [.ref 68, .long f, .long s] M (fun r M' => ∃ v : Int32, r = some (.int v) ∧ M' = M) := by
  have hn0 := hS.1
  have h00 := hS.2.1
  have j10 : ∀ (nn : Nat), ∀ (k u : Int32) (M : dm_Mem), Rm X q M → (0 ≤ k.toInt) → (k.toInt ≤ (q.1 29).toInt) → ((q.1 29).toInt - k.toInt).toNat = nn → hG 1 cd_146 10 [(6, .int k), (5, .int u), (0, .ref 68), (1, .long f), (3, .long s)] [] M (fun r M' => ∃ v : Int32, r = some (.int v) ∧ M' = M) := by
    intro nn
    induction nn using Nat.strongRecOn with
    | ind nn IH =>
      intro k u M hM k0 k1 hms
      refine hs (f := dm_ild 12 6) rfl rfl ?_
      refine hs (f := dm_ald 13 0) rfl rfl ?_
      refine r_geti (q.1 29) rfl hM rfl rfl ?_
      refine g_ic_ge (n := 19) (tt := 65) rfl (fun h1 => ?_) (fun h1 => ?_)
      · skip
        have h1 : k.toInt ≥ (q.1 29).toInt := h1
        refine hs (f := dm_ild 67 5) rfl rfl ?_
        exact hr (f := dm_ret .int) rfl rfl (⟨_, rfl, rfl⟩)
      · skip
        have h1 : k.toInt < (q.1 29).toInt := h1
        refine hs (f := dm_ald 20 0) rfl rfl ?_
        refine r_geta (c := 89) rfl hM rfl ?_
        refine hs (f := dm_ild 25 6) rfl rfl ?_
        refine r_lald (L := 24000) (i := k) ((q.2.2.2 92) k.toInt.toNat) rfl hM rfl (by omega) rfl ?_
        generalize g3 : (q.2.2.2 92) k.toInt.toNat = v2
        have x4 : v2.toInt = rB (q.2.2.2 92) k.toInt := rB_of (i := k) g3 rfl
        refine hs (f := dm_lld 27 1) rfl rfl ?_
        refine hs (f := dm_lld 28 3) rfl rfl ?_
        have e5 : (f + s).toInt = f.toInt + s.toInt := by have w := j_add (x := f) (y := s) (by omega) (by omega); omega
        refine hs (f := dm_ll 29 (fun x y => x + y)) (st' := [.long (f + s), .long v2]) rfl rfl ?_
        refine g_lc_ge (x := v2) (y := (f + s)) (m := 30) (n := 33) (tt := 65) rfl rfl (fun h6 => ?_) (fun h6 => ?_)
        · skip
          have h6 : v2.toInt ≥ (f + s).toInt := h6
          refine hs (f := dm_ild 67 5) rfl rfl ?_
          exact hr (f := dm_ret .int) rfl rfl (⟨_, rfl, rfl⟩)
        · skip
          have h6 : v2.toInt < (f + s).toInt := h6
          refine hs (f := dm_ald 34 0) rfl rfl ?_
          refine r_geta (c := 90) rfl hM rfl ?_
          refine hs (f := dm_ild 39 6) rfl rfl ?_
          refine r_iald (L := 24000) (i := k) ((q.2.2.1 93) k.toInt.toNat) rfl hM rfl (by omega) rfl ?_
          generalize g8 : (q.2.2.1 93) k.toInt.toNat = v7
          have x9 : v7.toInt = rA (q.2.2.1 93) k.toInt := rA_of (i := k) g8 rfl
          refine hs (f := dm_ild 42 5) rfl rfl ?_
          refine g_ic_le (n := 45) (tt := 55) rfl (fun h10 => ?_) (fun h10 => ?_)
          · skip
            have h10 : v7.toInt ≤ u.toInt := h10
            refine hs (f := dm_ild 57 5) rfl rfl ?_
            refine hs (f := dm_ist 59 5) (lv' := [(5, .int u), (6, .int k), (0, .ref 68), (1, .long f), (3, .long s)]) rfl rfl ?_
            have e11 : (k + 1).toInt = k.toInt + 1 := by have w := i_addc (x := k) (y := 1) 1 rfl (by omega) (by omega); omega
            refine hs (f := dm_iinc 62 6 1) (lv' := [(6, .int (k + 1)), (5, .int u), (0, .ref 68), (1, .long f), (3, .long s)]) rfl rfl ?_
            refine hs (f := dm_goto 10) rfl rfl ?_
            exact (IH _ (by omega)) (k + 1) u _ hM (by omega) (by omega) rfl
          · skip
            have h10 : v7.toInt > u.toInt := h10
            refine hs (f := dm_ald 46 0) rfl rfl ?_
            refine r_geta (c := 90) rfl hM rfl ?_
            refine hs (f := dm_ild 51 6) rfl rfl ?_
            refine r_iald (L := 24000) (i := k) ((q.2.2.1 93) k.toInt.toNat) rfl hM rfl (by omega) rfl ?_
            generalize g13 : (q.2.2.1 93) k.toInt.toNat = v12
            have x14 : v12.toInt = rA (q.2.2.1 93) k.toInt := rA_of (i := k) g13 rfl
            refine hs (f := dm_goto 57) rfl rfl ?_
            refine hs (f := dm_ist 59 5) (lv' := [(5, .int v12), (6, .int k), (0, .ref 68), (1, .long f), (3, .long s)]) rfl rfl ?_
            have e15 : (k + 1).toInt = k.toInt + 1 := by have w := i_addc (x := k) (y := 1) 1 rfl (by omega) (by omega); omega
            refine hs (f := dm_iinc 62 6 1) (lv' := [(6, .int (k + 1)), (5, .int v12), (0, .ref 68), (1, .long f), (3, .long s)]) rfl rfl ?_
            refine hs (f := dm_goto 10) rfl rfl ?_
            exact (IH _ (by omega)) (k + 1) v12 _ hM (by omega) (by omega) rfl
  refine hx (t := cd_146) rfl (Nat.le_of_ble_eq_true rfl) (lv := [(0, .ref 68), (1, .long f), (3, .long s)]) rfl ?_
  refine hs (f := dm_push 1 (.int 0)) rfl rfl ?_
  refine hs (f := dm_ist 3 5) (lv' := [(5, .int 0), (0, .ref 68), (1, .long f), (3, .long s)]) rfl rfl ?_
  refine hs (f := dm_ald 4 0) rfl rfl ?_
  refine hs (f := dm_lld 5 1) rfl rfl ?_
  refine r_inv rfl hM rfl (as := [.ref 68, .long f]) rfl (Nat.le_of_ble_eq_true rfl) (hT_mono (by decide) (r_143 hM f ⟨hn0, hn⟩ (by omega)) (fun r1 M17 w => ?_))
  obtain ⟨u16, rfl, rfl, u160, u161, u162, u163⟩ := w
  refine hs (f := dm_ist 10 6) (lv' := [(6, .int u16), (5, .int 0), (0, .ref 68), (1, .long f), (3, .long s)]) rfl rfl ?_
  exact (j10 _) u16 (0 : Int32) _ hM (by omega) (by omega) rfl
theorem r_147 {X : dm_Mem} {q : rS} {M : dm_Mem} (hM : Rm X q M) (f s : Int64) (hS : wS (q.2.2.2 92) (q.1 29).toInt) (hn : (q.1 29).toInt ≤ 24000) (hf : 0 ≤ f.toInt) (hs0 : 0 < s.toInt) (hfs : f.toInt + s.toInt ≤ 1152921504606846976) : hT 2 147 [.ref 68, .long f, .long s] M (fun r M' => r = some (.int (leastF (q.2.2.2 92) (q.2.2.1 93) (q.1 29).toInt f.toInt s.toInt)) ∧ M' = M) := by
  have hn0 := hS.1
  have h00 := hS.2.1
  have j11 : ∀ (nn : Nat), ∀ (k u : Int32) (M : dm_Mem), Rm X q M → (0 ≤ k.toInt) → (k.toInt ≤ (q.1 29).toInt) → (lF (q.2.2.2 92) (q.2.2.1 93) (q.1 29).toInt (f.toInt + s.toInt) ((q.1 29).toInt - k.toInt).toNat k.toInt u = leastF (q.2.2.2 92) (q.2.2.1 93) (q.1 29).toInt f.toInt s.toInt) → ((q.1 29).toInt - k.toInt).toNat = nn → hG 1 cd_147 11 [(6, .int k), (5, .int u), (0, .ref 68), (1, .long f), (3, .long s)] [] M (fun r M' => r = some (.int (leastF (q.2.2.2 92) (q.2.2.1 93) (q.1 29).toInt f.toInt s.toInt)) ∧ M' = M) := by
    intro nn
    induction nn using Nat.strongRecOn with
    | ind nn IH =>
      intro k u M hM k0 k1 hk hms
      refine hs (f := dm_ild 13 6) rfl rfl ?_
      refine hs (f := dm_ald 14 0) rfl rfl ?_
      refine r_geti (q.1 29) rfl hM rfl rfl ?_
      refine g_ic_ge (n := 20) (tt := 66) rfl (fun h1 => ?_) (fun h1 => ?_)
      · skip
        have h1 : k.toInt ≥ (q.1 29).toInt := h1
        refine hs (f := dm_ild 68 5) rfl rfl ?_
        exact hr (f := dm_ret .int) rfl rfl (⟨by rw [← hk, lF_end (by omega)], rfl⟩)
      · skip
        have h1 : k.toInt < (q.1 29).toInt := h1
        refine hs (f := dm_ald 21 0) rfl rfl ?_
        refine r_geta (c := 89) rfl hM rfl ?_
        refine hs (f := dm_ild 26 6) rfl rfl ?_
        refine r_lald (L := 24000) (i := k) ((q.2.2.2 92) k.toInt.toNat) rfl hM rfl (by omega) rfl ?_
        generalize g3 : (q.2.2.2 92) k.toInt.toNat = v2
        have x4 : v2.toInt = rB (q.2.2.2 92) k.toInt := rB_of (i := k) g3 rfl
        refine hs (f := dm_lld 28 1) rfl rfl ?_
        refine hs (f := dm_lld 29 3) rfl rfl ?_
        have e5 : (f + s).toInt = f.toInt + s.toInt := by have w := j_add (x := f) (y := s) (by omega) (by omega); omega
        refine hs (f := dm_ll 30 (fun x y => x + y)) (st' := [.long (f + s), .long v2]) rfl rfl ?_
        refine g_lc_ge (x := v2) (y := (f + s)) (m := 31) (n := 34) (tt := 66) rfl rfl (fun h6 => ?_) (fun h6 => ?_)
        · skip
          have h6 : v2.toInt ≥ (f + s).toInt := h6
          refine hs (f := dm_ild 68 5) rfl rfl ?_
          exact hr (f := dm_ret .int) rfl rfl (⟨by rw [← hk, lF_end (by omega)], rfl⟩)
        · skip
          have h6 : v2.toInt < (f + s).toInt := h6
          refine hs (f := dm_ald 35 0) rfl rfl ?_
          refine r_geta (c := 90) rfl hM rfl ?_
          refine hs (f := dm_ild 40 6) rfl rfl ?_
          refine r_iald (L := 24000) (i := k) ((q.2.2.1 93) k.toInt.toNat) rfl hM rfl (by omega) rfl ?_
          generalize g8 : (q.2.2.1 93) k.toInt.toNat = v7
          have x9 : v7.toInt = rA (q.2.2.1 93) k.toInt := rA_of (i := k) g8 rfl
          refine hs (f := dm_ild 43 5) rfl rfl ?_
          refine g_ic_ge (n := 46) (tt := 56) rfl (fun h10 => ?_) (fun h10 => ?_)
          · skip
            have h10 : v7.toInt ≥ u.toInt := h10
            refine hs (f := dm_ild 58 5) rfl rfl ?_
            refine hs (f := dm_ist 60 5) (lv' := [(5, .int u), (6, .int k), (0, .ref 68), (1, .long f), (3, .long s)]) rfl rfl ?_
            have e11 : (k + 1).toInt = k.toInt + 1 := by have w := i_addc (x := k) (y := 1) 1 rfl (by omega) (by omega); omega
            refine hs (f := dm_iinc 63 6 1) (lv' := [(6, .int (k + 1)), (5, .int u), (0, .ref 68), (1, .long f), (3, .long s)]) rfl rfl ?_
            refine hs (f := dm_goto 11) rfl rfl ?_
            exact (IH _ (by omega)) (k + 1) u _ hM (by omega) (by omega) (by have hk2 := hk; rw [lF_go (by omega) (by omega), if_neg (by rw [g8]; omega)] at hk2; rw [e11]; exact hk2) rfl
          · skip
            have h10 : v7.toInt < u.toInt := h10
            refine hs (f := dm_ald 47 0) rfl rfl ?_
            refine r_geta (c := 90) rfl hM rfl ?_
            refine hs (f := dm_ild 52 6) rfl rfl ?_
            refine r_iald (L := 24000) (i := k) ((q.2.2.1 93) k.toInt.toNat) rfl hM rfl (by omega) rfl ?_
            generalize g13 : (q.2.2.1 93) k.toInt.toNat = v12
            have x14 : v12.toInt = rA (q.2.2.1 93) k.toInt := rA_of (i := k) g13 rfl
            refine hs (f := dm_goto 58) rfl rfl ?_
            refine hs (f := dm_ist 60 5) (lv' := [(5, .int v12), (6, .int k), (0, .ref 68), (1, .long f), (3, .long s)]) rfl rfl ?_
            have e15 : (k + 1).toInt = k.toInt + 1 := by have w := i_addc (x := k) (y := 1) 1 rfl (by omega) (by omega); omega
            refine hs (f := dm_iinc 63 6 1) (lv' := [(6, .int (k + 1)), (5, .int v12), (0, .ref 68), (1, .long f), (3, .long s)]) rfl rfl ?_
            refine hs (f := dm_goto 11) rfl rfl ?_
            exact (IH _ (by omega)) (k + 1) v12 _ hM (by omega) (by omega) (by have hk2 := hk; rw [lF_go (by omega) (by omega), if_pos (by rw [g8]; omega), g13] at hk2; rw [e15]; exact hk2) rfl
  refine hx (t := cd_147) rfl (Nat.le_of_ble_eq_true rfl) (lv := [(0, .ref 68), (1, .long f), (3, .long s)]) rfl ?_
  refine hs (f := dm_push 2 (.int 2147483647)) rfl rfl ?_
  refine hs (f := dm_ist 4 5) (lv' := [(5, .int 2147483647), (0, .ref 68), (1, .long f), (3, .long s)]) rfl rfl ?_
  refine hs (f := dm_ald 5 0) rfl rfl ?_
  refine hs (f := dm_lld 6 1) rfl rfl ?_
  refine r_inv rfl hM rfl (as := [.ref 68, .long f]) rfl (Nat.le_of_ble_eq_true rfl) (hT_mono (by decide) (r_143 hM f ⟨hn0, hn⟩ (by omega)) (fun r1 M17 w => ?_))
  obtain ⟨u16, rfl, rfl, u160, u161, u162, u163⟩ := w
  refine hs (f := dm_ist 11 6) (lv' := [(6, .int u16), (5, .int 2147483647), (0, .ref 68), (1, .long f), (3, .long s)]) rfl rfl ?_
  exact (j11 _) u16 (2147483647 : Int32) _ hM (by omega) (by omega) (by unfold leastF; rw [aF_eq hS ⟨u160, u161, u162, u163⟩]) rfl
theorem r_148 {X : dm_Mem} {q : rS} {M : dm_Mem} (hM : Rm X q M) (n : Int32) (p : Int64) (v : Int32) (n0 : 0 ≤ n.toInt) (n1 : n.toInt < 24000) : hT 1 148 [.ref 68, .int n, .long p, .int v] M (fun r M' => (M' = M ∧ r = some (.int n) ∧ 0 < n.toInt ∧ rA (q.2.2.1 95) (n.toInt - 1) = v.toInt) ∨ (r = some (.int (n + 1)) ∧ (0 < n.toInt → ¬ rA (q.2.2.1 95) (n.toInt - 1) = v.toInt) ∧ Rm X (sA (sB q 94 (vp_updL (q.2.2.2 94) n.toInt.toNat p)) 95 (upd (q.2.2.1 95) n.toInt.toNat v)) M')) := by
  refine hx (t := cd_148) rfl (Nat.le_of_ble_eq_true rfl) (lv := [(0, .ref 68), (1, .int n), (2, .long p), (4, .int v)]) rfl ?_
  refine hs (f := dm_ild 1 1) rfl rfl ?_
  refine g_if_le (n := 4) (tt := 19) rfl (fun h1 => ?_) (fun h1 => ?_)
  · skip
    have h1 : n.toInt ≤ 0 := h1
    refine hs (f := dm_ald 20 0) rfl rfl ?_
    refine r_geta (c := 91) rfl hM rfl ?_
    refine hs (f := dm_ild 24 1) rfl rfl ?_
    refine hs (f := dm_lld 25 2) rfl rfl ?_
    refine r_last (L := 24000) (i := n) (x := p) (q.2.2.2 94) rfl hM rfl (by omega) rfl (fun M2 hM2 => ?_)
    replace hM2 := rm_to (q' := (sB q 94 (vp_updL (q.2.2.2 94) n.toInt.toNat p))) hM2 (show sB q 94 (vp_updL (q.2.2.2 94) n.toInt.toNat p) = (sB q 94 (vp_updL (q.2.2.2 94) n.toInt.toNat p)) from (show sB q 94 (vp_updL (q.2.2.2 94) n.toInt.toNat p) = (sB q 94 (vp_updL (q.2.2.2 94) n.toInt.toNat p)) from rfl))
    refine hs (f := dm_ald 27 0) rfl rfl ?_
    refine r_geta (c := 92) rfl hM2 rfl ?_
    refine hs (f := dm_ild 31 1) rfl rfl ?_
    refine hs (f := dm_ild 33 4) rfl rfl ?_
    refine r_iast (L := 24000) (i := n) (x := v) (q.2.2.1 95) rfl hM2 rfl (by omega) rfl (fun M3 hM3 => ?_)
    replace hM3 := rm_to (q' := (sA (sB q 94 (vp_updL (q.2.2.2 94) n.toInt.toNat p)) 95 (upd (q.2.2.1 95) n.toInt.toNat v))) hM3 (show sA (sB q 94 (vp_updL (q.2.2.2 94) n.toInt.toNat p)) 95 (upd (q.2.2.1 95) n.toInt.toNat v) = (sA (sB q 94 (vp_updL (q.2.2.2 94) n.toInt.toNat p)) 95 (upd (q.2.2.1 95) n.toInt.toNat v)) from (show sA (sB q 94 (vp_updL (q.2.2.2 94) n.toInt.toNat p)) 95 (upd (q.2.2.1 95) n.toInt.toNat v) = (sA (sB q 94 (vp_updL (q.2.2.2 94) n.toInt.toNat p)) 95 (upd (q.2.2.1 95) n.toInt.toNat v)) from rfl))
    refine hs (f := dm_ild 35 1) rfl rfl ?_
    refine hs (f := dm_push 36 (.int 1)) rfl rfl ?_
    have e4 : (n + (1 : Int32)).toInt = n.toInt + 1 := by have w := i_addc (x := n) (y := (1 : Int32)) 1 rfl (by omega) (by omega); omega
    refine hs (f := dm_ii 37 (fun x y => x + y)) (st' := [.int (n + (1 : Int32))]) rfl rfl ?_
    exact hr (f := dm_ret .int) rfl rfl (Or.inr ⟨rfl, fun _ => by first | omega | (exfalso; omega), hM3⟩)
  · skip
    have h1 : n.toInt > 0 := h1
    refine hs (f := dm_ald 5 0) rfl rfl ?_
    refine r_geta (c := 92) rfl hM rfl ?_
    refine hs (f := dm_ild 9 1) rfl rfl ?_
    refine hs (f := dm_push 10 (.int 1)) rfl rfl ?_
    have e5 : (n - (1 : Int32)).toInt = n.toInt - 1 := by have w := i_subc (x := n) (y := (1 : Int32)) 1 rfl (by omega) (by omega); omega
    refine hs (f := dm_ii 11 (fun x y => x - y)) (st' := [.int (n - (1 : Int32)), .ref 95]) rfl rfl ?_
    refine r_iald (L := 24000) (i := (n - (1 : Int32))) ((q.2.2.1 95) (n - (1 : Int32)).toInt.toNat) rfl hM rfl (by omega) rfl ?_
    generalize g7 : (q.2.2.1 95) (n - (1 : Int32)).toInt.toNat = v6
    have x8 : v6.toInt = rA (q.2.2.1 95) (n.toInt - 1) := rA_of (i := (n - (1 : Int32))) g7 e5
    refine hs (f := dm_ild 14 4) rfl rfl ?_
    refine g_ic_ne (n := 17) (tt := 19) rfl (fun h9 => ?_) (fun h9 => ?_)
    · skip
      have h9 : ¬ v6.toInt = v.toInt := h9
      refine hs (f := dm_ald 20 0) rfl rfl ?_
      refine r_geta (c := 91) rfl hM rfl ?_
      refine hs (f := dm_ild 24 1) rfl rfl ?_
      refine hs (f := dm_lld 25 2) rfl rfl ?_
      refine r_last (L := 24000) (i := n) (x := p) (q.2.2.2 94) rfl hM rfl (by omega) rfl (fun M10 hM10 => ?_)
      replace hM10 := rm_to (q' := (sB q 94 (vp_updL (q.2.2.2 94) n.toInt.toNat p))) hM10 (show sB q 94 (vp_updL (q.2.2.2 94) n.toInt.toNat p) = (sB q 94 (vp_updL (q.2.2.2 94) n.toInt.toNat p)) from (show sB q 94 (vp_updL (q.2.2.2 94) n.toInt.toNat p) = (sB q 94 (vp_updL (q.2.2.2 94) n.toInt.toNat p)) from rfl))
      refine hs (f := dm_ald 27 0) rfl rfl ?_
      refine r_geta (c := 92) rfl hM10 rfl ?_
      refine hs (f := dm_ild 31 1) rfl rfl ?_
      refine hs (f := dm_ild 33 4) rfl rfl ?_
      refine r_iast (L := 24000) (i := n) (x := v) (q.2.2.1 95) rfl hM10 rfl (by omega) rfl (fun M11 hM11 => ?_)
      replace hM11 := rm_to (q' := (sA (sB q 94 (vp_updL (q.2.2.2 94) n.toInt.toNat p)) 95 (upd (q.2.2.1 95) n.toInt.toNat v))) hM11 (show sA (sB q 94 (vp_updL (q.2.2.2 94) n.toInt.toNat p)) 95 (upd (q.2.2.1 95) n.toInt.toNat v) = (sA (sB q 94 (vp_updL (q.2.2.2 94) n.toInt.toNat p)) 95 (upd (q.2.2.1 95) n.toInt.toNat v)) from (show sA (sB q 94 (vp_updL (q.2.2.2 94) n.toInt.toNat p)) 95 (upd (q.2.2.1 95) n.toInt.toNat v) = (sA (sB q 94 (vp_updL (q.2.2.2 94) n.toInt.toNat p)) 95 (upd (q.2.2.1 95) n.toInt.toNat v)) from rfl))
      refine hs (f := dm_ild 35 1) rfl rfl ?_
      refine hs (f := dm_push 36 (.int 1)) rfl rfl ?_
      have e12 : (n + (1 : Int32)).toInt = n.toInt + 1 := by have w := i_addc (x := n) (y := (1 : Int32)) 1 rfl (by omega) (by omega); omega
      refine hs (f := dm_ii 37 (fun x y => x + y)) (st' := [.int (n + (1 : Int32))]) rfl rfl ?_
      exact hr (f := dm_ret .int) rfl rfl (Or.inr ⟨rfl, fun _ => by first | omega | (exfalso; omega), hM11⟩)
    · skip
      have h9 : v6.toInt = v.toInt := h9
      refine hs (f := dm_ild 18 1) rfl rfl ?_
      exact hr (f := dm_ret .int) rfl rfl (Or.inl ⟨rfl, rfl, by omega, by omega⟩)
theorem r_149 {X : dm_Mem} {q : rS} {M : dm_Mem} (hM : Rm X q M) (n : Int32) (n0 : 0 ≤ n.toInt) (n1 : n.toInt ≤ 24000) : hT 1 149 [.ref 68, .int n] M (fun r M' => r = none ∧ ∃ (b1 : Nat → Int64) (b2 : Nat → Int32), (∀ i : Int, 0 ≤ i → i < n.toInt → b1 i.toNat = q.2.2.2 94 i.toNat ∧ b2 i.toNat = q.2.2.1 95 i.toNat) ∧ Rm X (sA (sB (sF q 29 n) 92 b1) 93 b2) M') := by
  have j2 : ∀ (nn : Nat), ∀ (k : Int32) (b1 : Nat → Int64) (b2 : Nat → Int32) (M : dm_Mem), Rm X (sA (sB q 92 b1) 93 b2) M → (0 ≤ k.toInt) → (k.toInt ≤ n.toInt) → (∀ i : Int, 0 ≤ i → i < k.toInt → b1 i.toNat = q.2.2.2 94 i.toNat ∧ b2 i.toNat = q.2.2.1 95 i.toNat) → (n.toInt - k.toInt).toNat = nn → hG 0 cd_149 2 [(2, .int k), (0, .ref 68), (1, .int n)] [] M (fun r M' => r = none ∧ ∃ (b1 : Nat → Int64) (b2 : Nat → Int32), (∀ i : Int, 0 ≤ i → i < n.toInt → b1 i.toNat = q.2.2.2 94 i.toNat ∧ b2 i.toNat = q.2.2.1 95 i.toNat) ∧ Rm X (sA (sB (sF q 29 n) 92 b1) 93 b2) M') := by
    intro nn
    induction nn using Nat.strongRecOn with
    | ind nn IH =>
      intro k b1 b2 M hM k0 k1 hc hms
      refine hs (f := dm_ild 3 2) rfl rfl ?_
      refine hs (f := dm_ild 4 1) rfl rfl ?_
      refine g_ic_ge (n := 7) (tt := 37) rfl (fun h1 => ?_) (fun h1 => ?_)
      · skip
        have h1 : k.toInt ≥ n.toInt := h1
        refine hs (f := dm_ald 38 0) rfl rfl ?_
        refine hs (f := dm_ild 39 1) rfl rfl ?_
        refine r_puti rfl hM rfl (fun M2 hM2 => ?_)
        replace hM2 := rm_to (q' := (sA (sB (sF q 29 n) 92 b1) 93 b2)) hM2 (show sF (sA (sB q 92 b1) 93 b2) 29 n = (sA (sB (sF q 29 n) 92 b1) 93 b2) from (congrArg (fun z => (sA (sB z 92 b1) 93 b2)) (show sF q 29 n = (sF q 29 n) from rfl)))
        exact hr (f := dm_vret) rfl rfl (⟨rfl, b1, b2, fun i i0 i1 => hc i i0 (by omega), hM2⟩)
      · skip
        have h1 : k.toInt < n.toInt := h1
        refine hs (f := dm_ald 8 0) rfl rfl ?_
        refine r_geta (c := 89) rfl hM rfl ?_
        refine hs (f := dm_ild 12 2) rfl rfl ?_
        refine hs (f := dm_ald 13 0) rfl rfl ?_
        refine r_geta (c := 91) rfl hM rfl ?_
        refine hs (f := dm_ild 17 2) rfl rfl ?_
        refine r_lald (L := 24000) (i := k) ((q.2.2.2 94) k.toInt.toNat) rfl hM rfl (by omega) rfl ?_
        generalize g4 : (q.2.2.2 94) k.toInt.toNat = v3
        have x5 : v3.toInt = rB (q.2.2.2 94) k.toInt := rB_of (i := k) g4 rfl
        refine r_last (L := 24000) (i := k) (x := v3) b1 rfl hM rfl (by omega) rfl (fun M6 hM6 => ?_)
        replace hM6 := rm_to (q' := (sA (sB q 92 (vp_updL b1 k.toInt.toNat v3)) 93 b2)) hM6 (show sB (sA (sB q 92 b1) 93 b2) 92 (vp_updL b1 k.toInt.toNat v3) = (sA (sB q 92 (vp_updL b1 k.toInt.toNat v3)) 93 b2) from (congrArg (fun z => (sA z 93 b2)) (show sB (sB q 92 b1) 92 (vp_updL b1 k.toInt.toNat v3) = (sB q 92 (vp_updL b1 k.toInt.toNat v3)) from sB_sB)))
        refine hs (f := dm_ald 20 0) rfl rfl ?_
        refine r_geta (c := 90) rfl hM6 rfl ?_
        refine hs (f := dm_ild 24 2) rfl rfl ?_
        refine hs (f := dm_ald 25 0) rfl rfl ?_
        refine r_geta (c := 92) rfl hM6 rfl ?_
        refine hs (f := dm_ild 29 2) rfl rfl ?_
        refine r_iald (L := 24000) (i := k) ((q.2.2.1 95) k.toInt.toNat) rfl hM6 rfl (by omega) rfl ?_
        generalize g8 : (q.2.2.1 95) k.toInt.toNat = v7
        have x9 : v7.toInt = rA (q.2.2.1 95) k.toInt := rA_of (i := k) g8 rfl
        refine r_iast (L := 24000) (i := k) (x := v7) b2 rfl hM6 rfl (by omega) rfl (fun M10 hM10 => ?_)
        replace hM10 := rm_to (q' := (sA (sB q 92 (vp_updL b1 k.toInt.toNat v3)) 93 (upd b2 k.toInt.toNat v7))) hM10 (show sA (sA (sB q 92 (vp_updL b1 k.toInt.toNat v3)) 93 b2) 93 (upd b2 k.toInt.toNat v7) = (sA (sB q 92 (vp_updL b1 k.toInt.toNat v3)) 93 (upd b2 k.toInt.toNat v7)) from (show sA (sA (sB q 92 (vp_updL b1 k.toInt.toNat v3)) 93 b2) 93 (upd b2 k.toInt.toNat v7) = (sA (sB q 92 (vp_updL b1 k.toInt.toNat v3)) 93 (upd b2 k.toInt.toNat v7)) from sA_sA))
        have e11 : (k + 1).toInt = k.toInt + 1 := by have w := i_addc (x := k) (y := 1) 1 rfl (by omega) (by omega); omega
        refine hs (f := dm_iinc 34 2 1) (lv' := [(2, .int (k + 1)), (0, .ref 68), (1, .int n)]) rfl rfl ?_
        refine hs (f := dm_goto 2) rfl rfl ?_
        refine (IH _ (by omega)) (k + 1) (vp_updL b1 k.toInt.toNat v3) (upd b2 k.toInt.toNat v7) _ hM10 (by omega) (by omega) ?_ rfl
        intro i i0 i1
        by_cases ik : i = k.toInt
        · subst ik
          refine ⟨?_, ?_⟩
          · unfold vp_updL
            rw [if_pos rfl, ← g4]
          · unfold upd
            rw [if_pos rfl, ← g8]
        · have hz := hc i i0 (by omega)
          refine ⟨?_, ?_⟩
          · unfold vp_updL
            rw [if_neg (by omega)]
            exact hz.1
          · unfold upd
            rw [if_neg (by omega)]
            exact hz.2
  refine hx (t := cd_149) rfl (Nat.le_of_ble_eq_true rfl) (lv := [(0, .ref 68), (1, .int n)]) rfl ?_
  refine hs (f := dm_push 1 (.int 0)) rfl rfl ?_
  refine hs (f := dm_ist 2 2) (lv' := [(2, .int 0), (0, .ref 68), (1, .int n)]) rfl rfl ?_
  replace hM := rm_to (q' := (sB q 92 (q.2.2.2 92))) hM (Eq.trans (sB_id (q := q) (k := 92) (v := (q.2.2.2 92)) rfl) (show sB q 92 (q.2.2.2 92) = (sB q 92 (q.2.2.2 92)) from (show sB q 92 (q.2.2.2 92) = (sB q 92 (q.2.2.2 92)) from rfl)))
  replace hM := rm_to (q' := (sA (sB q 92 (q.2.2.2 92)) 93 (q.2.2.1 93))) hM (Eq.trans (sA_id (q := (sB q 92 (q.2.2.2 92))) (k := 93) (v := (q.2.2.1 93)) rfl) (show sA (sB q 92 (q.2.2.2 92)) 93 (q.2.2.1 93) = (sA (sB q 92 (q.2.2.2 92)) 93 (q.2.2.1 93)) from (show sA (sB q 92 (q.2.2.2 92)) 93 (q.2.2.1 93) = (sA (sB q 92 (q.2.2.2 92)) 93 (q.2.2.1 93)) from rfl)))
  exact (j2 _) 0 (q.2.2.2 92) (q.2.2.1 93) _ hM (by decide) (by show (0 : Int) ≤ _; omega) (fun i i0 i1 => absurd i1 (by show ¬ i < (0 : Int); omega)) rfl
def sj_181 (X : dm_Mem) (q : rS) (f s : Int64) (v ad : Int32) (t : Int64) (k : Int32) (e : Int64) : Prop := ∀ (n : Int32) (b94 : Nat → Int64) (b95 : Nat → Int32) (M : dm_Mem), Rm X (sA (sB q 94 b94) 95 b95) M → (1 ≤ n.toInt) → (n.toInt ≤ k.toInt + 3) → (e.toInt ≤ t.toInt → n.toInt ≤ k.toInt + 2) → (e.toInt ≤ f.toInt → n.toInt ≤ k.toInt + 1) → (ad.toInt = 0 → f.toInt < e.toInt → e.toInt < t.toInt → rA b95 (n.toInt - 1) = v.toInt) → (xI (q.2.2.2 92) (q.1 29).toInt f.toInt t.toInt (¬ ad.toInt = 0) b94 n.toInt e.toInt) → hG 1 cd_150 181 [(7, .int n), (11, .long e), (10, .int k), (8, .long t), (0, .ref 68), (1, .long f), (3, .long s), (5, .int v), (6, .int ad)] [] M (fun r M' => r = none ∧ ∃ (n : Int32) (b92 b94 : Nat → Int64) (b93 b95 : Nat → Int32), wS b92 n.toInt ∧ n.toInt ≤ (q.1 29).toInt + 2 ∧ (∀ i : Int, 0 ≤ i → i < n.toInt → rB b92 i = f.toInt ∨ rB b92 i = f.toInt + s.toInt ∨ ∃ k : Int, 0 ≤ k ∧ k < (q.1 29).toInt ∧ rB b92 i = rB (q.2.2.2 92) k ∧ (¬ ad.toInt = 0 ∨ ¬ (f.toInt < rB (q.2.2.2 92) k ∧ rB (q.2.2.2 92) k < f.toInt + s.toInt))) ∧ Rm X (sA (sA (sB (sB (sF q 29 n) 92 b92) 94 b94) 93 b93) 95 b95) M')
def sj_133n (X : dm_Mem) (q : rS) (f s : Int64) (v ad : Int32) (t : Int64) (k : Int32) (e : Int64) : Prop := (∀ (n : Int32) (b94 : Nat → Int64) (b95 : Nat → Int32) (M : dm_Mem), Rm X (sA (sB q 94 b94) 95 b95) M → (1 ≤ n.toInt) → (n.toInt ≤ k.toInt + 2) → (e.toInt ≤ f.toInt → n.toInt ≤ k.toInt + 1) → (t.toInt ≤ rB (q.2.2.2 92) k.toInt) → (ad.toInt = 0 → f.toInt < e.toInt → rB (q.2.2.2 92) k.toInt < t.toInt → rA b95 (n.toInt - 1) = v.toInt) → (xI (q.2.2.2 92) (q.1 29).toInt f.toInt t.toInt (¬ ad.toInt = 0) b94 n.toInt (if e.toInt ≤ t.toInt then e.toInt else if rB (q.2.2.2 92) k.toInt < t.toInt then t.toInt else rB (q.2.2.2 92) k.toInt)) → hG 1 cd_150 133 [(11, .long e), (10, .int k), (8, .long t), (7, .int n), (0, .ref 68), (1, .long f), (3, .long s), (5, .int v), (6, .int ad)] [] M (fun r M' => r = none ∧ ∃ (n : Int32) (b92 b94 : Nat → Int64) (b93 b95 : Nat → Int32), wS b92 n.toInt ∧ n.toInt ≤ (q.1 29).toInt + 2 ∧ (∀ i : Int, 0 ≤ i → i < n.toInt → rB b92 i = f.toInt ∨ rB b92 i = f.toInt + s.toInt ∨ ∃ k : Int, 0 ≤ k ∧ k < (q.1 29).toInt ∧ rB b92 i = rB (q.2.2.2 92) k ∧ (¬ ad.toInt = 0 ∨ ¬ (f.toInt < rB (q.2.2.2 92) k ∧ rB (q.2.2.2 92) k < f.toInt + s.toInt))) ∧ Rm X (sA (sA (sB (sB (sF q 29 n) 92 b92) 94 b94) 93 b93) 95 b95) M')) ∧ (∀ (n : Int32) (b94 : Nat → Int64) (b95 : Nat → Int32) (M : dm_Mem), Rm X (sA (sB q 94 b94) 95 b95) M → (1 ≤ n.toInt) → (n.toInt ≤ k.toInt + 2) → (e.toInt ≤ f.toInt → n.toInt ≤ k.toInt + 1) → (t.toInt ≤ rB (q.2.2.2 92) k.toInt) → (ad.toInt = 0 → f.toInt < e.toInt → rB (q.2.2.2 92) k.toInt < t.toInt → rA b95 (n.toInt - 1) = v.toInt) → (xI (q.2.2.2 92) (q.1 29).toInt f.toInt t.toInt (¬ ad.toInt = 0) b94 n.toInt (if e.toInt ≤ t.toInt then e.toInt else if rB (q.2.2.2 92) k.toInt < t.toInt then t.toInt else rB (q.2.2.2 92) k.toInt)) → hG 1 cd_150 133 [(11, .long e), (10, .int k), (7, .int n), (8, .long t), (0, .ref 68), (1, .long f), (3, .long s), (5, .int v), (6, .int ad)] [] M (fun r M' => r = none ∧ ∃ (n : Int32) (b92 b94 : Nat → Int64) (b93 b95 : Nat → Int32), wS b92 n.toInt ∧ n.toInt ≤ (q.1 29).toInt + 2 ∧ (∀ i : Int, 0 ≤ i → i < n.toInt → rB b92 i = f.toInt ∨ rB b92 i = f.toInt + s.toInt ∨ ∃ k : Int, 0 ≤ k ∧ k < (q.1 29).toInt ∧ rB b92 i = rB (q.2.2.2 92) k ∧ (¬ ad.toInt = 0 ∨ ¬ (f.toInt < rB (q.2.2.2 92) k ∧ rB (q.2.2.2 92) k < f.toInt + s.toInt))) ∧ Rm X (sA (sA (sB (sB (sF q 29 n) 92 b92) 94 b94) 93 b93) 95 b95) M'))
def sj_133s (X : dm_Mem) (q : rS) (f s : Int64) (v ad : Int32) (t : Int64) (k : Int32) (e : Int64) : Prop := ∀ (n : Int32) (b94 : Nat → Int64) (b95 : Nat → Int32) (M : dm_Mem), Rm X (sA (sB q 94 b94) 95 b95) M → (1 ≤ n.toInt) → (n.toInt ≤ k.toInt + 2) → (e.toInt ≤ f.toInt → n.toInt ≤ k.toInt + 1) → (ad.toInt = 0 → f.toInt < e.toInt → rB (q.2.2.2 92) k.toInt < t.toInt → rA b95 (n.toInt - 1) = v.toInt) → (xI (q.2.2.2 92) (q.1 29).toInt f.toInt t.toInt (¬ ad.toInt = 0) b94 n.toInt (if e.toInt ≤ t.toInt then e.toInt else if rB (q.2.2.2 92) k.toInt < t.toInt then t.toInt else rB (q.2.2.2 92) k.toInt)) → hG 1 cd_150 133 [(7, .int n), (11, .long e), (10, .int k), (8, .long t), (0, .ref 68), (1, .long f), (3, .long s), (5, .int v), (6, .int ad)] [] M (fun r M' => r = none ∧ ∃ (n : Int32) (b92 b94 : Nat → Int64) (b93 b95 : Nat → Int32), wS b92 n.toInt ∧ n.toInt ≤ (q.1 29).toInt + 2 ∧ (∀ i : Int, 0 ≤ i → i < n.toInt → rB b92 i = f.toInt ∨ rB b92 i = f.toInt + s.toInt ∨ ∃ k : Int, 0 ≤ k ∧ k < (q.1 29).toInt ∧ rB b92 i = rB (q.2.2.2 92) k ∧ (¬ ad.toInt = 0 ∨ ¬ (f.toInt < rB (q.2.2.2 92) k ∧ rB (q.2.2.2 92) k < f.toInt + s.toInt))) ∧ Rm X (sA (sA (sB (sB (sF q 29 n) 92 b92) 94 b94) 93 b93) 95 b95) M')
def sj_62n (X : dm_Mem) (q : rS) (f s : Int64) (v ad : Int32) (t : Int64) (k : Int32) (e : Int64) : Prop := (∀ (n : Int32) (b94 : Nat → Int64) (b95 : Nat → Int32) (M : dm_Mem), Rm X (sA (sB q 94 b94) 95 b95) M → (0 ≤ n.toInt) → (1 ≤ n.toInt ∨ (k.toInt = 0 ∧ f.toInt = 0)) → (n.toInt ≤ k.toInt + 2) → (rB (q.2.2.2 92) k.toInt ≤ t.toInt → n.toInt ≤ k.toInt + 1) → (rB (q.2.2.2 92) k.toInt = f.toInt → n.toInt ≤ k.toInt) → (f.toInt ≤ rB (q.2.2.2 92) k.toInt) → (ad.toInt = 0 → f.toInt < rB (q.2.2.2 92) k.toInt → rB (q.2.2.2 92) k.toInt < t.toInt → rA b95 (n.toInt - 1) = v.toInt) → (xI (q.2.2.2 92) (q.1 29).toInt f.toInt t.toInt (¬ ad.toInt = 0) b94 n.toInt (if rB (q.2.2.2 92) k.toInt < f.toInt then rB (q.2.2.2 92) k.toInt + 1 else rB (q.2.2.2 92) k.toInt)) → hG 1 cd_150 62 [(11, .long e), (10, .int k), (8, .long t), (7, .int n), (0, .ref 68), (1, .long f), (3, .long s), (5, .int v), (6, .int ad)] [] M (fun r M' => r = none ∧ ∃ (n : Int32) (b92 b94 : Nat → Int64) (b93 b95 : Nat → Int32), wS b92 n.toInt ∧ n.toInt ≤ (q.1 29).toInt + 2 ∧ (∀ i : Int, 0 ≤ i → i < n.toInt → rB b92 i = f.toInt ∨ rB b92 i = f.toInt + s.toInt ∨ ∃ k : Int, 0 ≤ k ∧ k < (q.1 29).toInt ∧ rB b92 i = rB (q.2.2.2 92) k ∧ (¬ ad.toInt = 0 ∨ ¬ (f.toInt < rB (q.2.2.2 92) k ∧ rB (q.2.2.2 92) k < f.toInt + s.toInt))) ∧ Rm X (sA (sA (sB (sB (sF q 29 n) 92 b92) 94 b94) 93 b93) 95 b95) M')) ∧ (∀ (n : Int32) (b94 : Nat → Int64) (b95 : Nat → Int32) (M : dm_Mem), Rm X (sA (sB q 94 b94) 95 b95) M → (0 ≤ n.toInt) → (1 ≤ n.toInt ∨ (k.toInt = 0 ∧ f.toInt = 0)) → (n.toInt ≤ k.toInt + 2) → (rB (q.2.2.2 92) k.toInt ≤ t.toInt → n.toInt ≤ k.toInt + 1) → (rB (q.2.2.2 92) k.toInt = f.toInt → n.toInt ≤ k.toInt) → (f.toInt ≤ rB (q.2.2.2 92) k.toInt) → (ad.toInt = 0 → f.toInt < rB (q.2.2.2 92) k.toInt → rB (q.2.2.2 92) k.toInt < t.toInt → rA b95 (n.toInt - 1) = v.toInt) → (xI (q.2.2.2 92) (q.1 29).toInt f.toInt t.toInt (¬ ad.toInt = 0) b94 n.toInt (if rB (q.2.2.2 92) k.toInt < f.toInt then rB (q.2.2.2 92) k.toInt + 1 else rB (q.2.2.2 92) k.toInt)) → hG 1 cd_150 62 [(11, .long e), (10, .int k), (7, .int n), (8, .long t), (0, .ref 68), (1, .long f), (3, .long s), (5, .int v), (6, .int ad)] [] M (fun r M' => r = none ∧ ∃ (n : Int32) (b92 b94 : Nat → Int64) (b93 b95 : Nat → Int32), wS b92 n.toInt ∧ n.toInt ≤ (q.1 29).toInt + 2 ∧ (∀ i : Int, 0 ≤ i → i < n.toInt → rB b92 i = f.toInt ∨ rB b92 i = f.toInt + s.toInt ∨ ∃ k : Int, 0 ≤ k ∧ k < (q.1 29).toInt ∧ rB b92 i = rB (q.2.2.2 92) k ∧ (¬ ad.toInt = 0 ∨ ¬ (f.toInt < rB (q.2.2.2 92) k ∧ rB (q.2.2.2 92) k < f.toInt + s.toInt))) ∧ Rm X (sA (sA (sB (sB (sF q 29 n) 92 b92) 94 b94) 93 b93) 95 b95) M'))
def sj_62s (X : dm_Mem) (q : rS) (f s : Int64) (v ad : Int32) (t : Int64) (k : Int32) (e : Int64) : Prop := ∀ (n : Int32) (b94 : Nat → Int64) (b95 : Nat → Int32) (M : dm_Mem), Rm X (sA (sB q 94 b94) 95 b95) M → (0 ≤ n.toInt) → (1 ≤ n.toInt ∨ (k.toInt = 0 ∧ f.toInt = 0)) → (n.toInt ≤ k.toInt + 2) → (rB (q.2.2.2 92) k.toInt ≤ t.toInt → n.toInt ≤ k.toInt + 1) → (rB (q.2.2.2 92) k.toInt = f.toInt → n.toInt ≤ k.toInt) → (rB (q.2.2.2 92) k.toInt < f.toInt) → (ad.toInt = 0 → f.toInt < rB (q.2.2.2 92) k.toInt → rB (q.2.2.2 92) k.toInt < t.toInt → rA b95 (n.toInt - 1) = v.toInt) → (xI (q.2.2.2 92) (q.1 29).toInt f.toInt t.toInt (¬ ad.toInt = 0) b94 n.toInt (if rB (q.2.2.2 92) k.toInt < f.toInt then rB (q.2.2.2 92) k.toInt + 1 else rB (q.2.2.2 92) k.toInt)) → hG 1 cd_150 62 [(7, .int n), (11, .long e), (10, .int k), (8, .long t), (0, .ref 68), (1, .long f), (3, .long s), (5, .int v), (6, .int ad)] [] M (fun r M' => r = none ∧ ∃ (n : Int32) (b92 b94 : Nat → Int64) (b93 b95 : Nat → Int32), wS b92 n.toInt ∧ n.toInt ≤ (q.1 29).toInt + 2 ∧ (∀ i : Int, 0 ≤ i → i < n.toInt → rB b92 i = f.toInt ∨ rB b92 i = f.toInt + s.toInt ∨ ∃ k : Int, 0 ≤ k ∧ k < (q.1 29).toInt ∧ rB b92 i = rB (q.2.2.2 92) k ∧ (¬ ad.toInt = 0 ∨ ¬ (f.toInt < rB (q.2.2.2 92) k ∧ rB (q.2.2.2 92) k < f.toInt + s.toInt))) ∧ Rm X (sA (sA (sB (sB (sF q 29 n) 92 b92) 94 b94) 93 b93) 95 b95) M')
set_option maxHeartbeats 4000000 in
theorem sq_133n {X : dm_Mem} {q : rS} {f s : Int64} {v ad : Int32} {t : Int64} {k : Int32} {e : Int64} (hS : wS (q.2.2.2 92) (q.1 29).toInt) (hn : (q.1 29).toInt ≤ 22000) (hf : 0 ≤ f.toInt) (hs0 : 0 < s.toInt) (hfs : f.toInt + s.toInt ≤ 1152921504606846976) (hn0 : 1 ≤ (q.1 29).toInt) (h00 : rB (q.2.2.2 92) 0 = 0) (ht : t.toInt = f.toInt + s.toInt) (k0 : 0 ≤ k.toInt) (k9 : k.toInt < (q.1 29).toInt) (wkk : rB (q.2.2.2 92) k.toInt < e.toInt) (wk0 : 0 ≤ rB (q.2.2.2 92) k.toInt) (wkz : k.toInt = 0 → rB (q.2.2.2 92) k.toInt = 0) (wky : 0 < k.toInt → 0 < rB (q.2.2.2 92) k.toInt) (wka : ∃ i : Int, 0 ≤ i ∧ i < (q.1 29).toInt ∧ rB (q.2.2.2 92) k.toInt = rB (q.2.2.2 92) i) (j181 : sj_181 X q f s v ad t k e) : sj_133n X q f s v ad t k e := by
  refine ⟨?_, ?_⟩
  · skip
    intro n b94 b95 M hM m0 m2 m3 m5 hv hx
    refine hs (f := dm_lld 135 11) rfl rfl ?_
    refine hs (f := dm_lld 137 8) rfl rfl ?_
    refine g_lc_le (x := e) (y := t) (m := 138) (n := 141) (tt := 181) rfl rfl (fun h1 => ?_) (fun h1 => ?_)
    · skip
      have h1 : e.toInt ≤ t.toInt := h1
      exfalso
      omega
    · skip
      have h1 : e.toInt > t.toInt := h1
      refine hs (f := dm_ald 142 0) rfl rfl ?_
      refine hs (f := dm_ild 144 7) rfl rfl ?_
      refine hs (f := dm_ald 145 0) rfl rfl ?_
      refine r_geta (c := 89) rfl hM rfl ?_
      refine hs (f := dm_ild 150 10) rfl rfl ?_
      refine r_lald (L := 24000) (i := k) ((q.2.2.2 92) k.toInt.toNat) rfl hM rfl (by omega) rfl ?_
      generalize g3 : (q.2.2.2 92) k.toInt.toNat = v2
      have x4 : v2.toInt = rB (q.2.2.2 92) k.toInt := rB_of (i := k) g3 rfl
      refine hs (f := dm_lld 153 8) rfl rfl ?_
      refine g_lc_ge (x := v2) (y := t) (m := 154) (n := 157) (tt := 162) rfl rfl (fun h5 => ?_) (fun h5 => ?_)
      · skip
        have h5 : v2.toInt ≥ t.toInt := h5
        refine hs (f := dm_ald 163 0) rfl rfl ?_
        refine r_geta (c := 89) rfl hM rfl ?_
        refine hs (f := dm_ild 168 10) rfl rfl ?_
        refine r_lald (L := 24000) (i := k) ((q.2.2.2 92) k.toInt.toNat) rfl hM rfl (by omega) rfl ?_
        generalize g7 : (q.2.2.2 92) k.toInt.toNat = v6
        have x8 : v6.toInt = rB (q.2.2.2 92) k.toInt := rB_of (i := k) g7 rfl
        refine hs (f := dm_ald 170 0) rfl rfl ?_
        refine r_geta (c := 90) rfl hM rfl ?_
        refine hs (f := dm_ild 175 10) rfl rfl ?_
        refine r_iald (L := 24000) (i := k) ((q.2.2.1 93) k.toInt.toNat) rfl hM rfl (by omega) rfl ?_
        generalize g10 : (q.2.2.1 93) k.toInt.toNat = v9
        have x11 : v9.toInt = rA (q.2.2.1 93) k.toInt := rA_of (i := k) g10 rfl
        refine r_inv rfl hM rfl (as := [.ref 68, .int n, .long v6, .int v9]) rfl (Nat.le_of_ble_eq_true rfl) (hT_mono (by decide) (r_148 hM n v6 v9 (by omega) (by omega)) (fun r1 M13 w => ?_))
        rcases w with ⟨rfl, rfl, un, uv⟩ | ⟨rfl, uv, hM13⟩
        · skip
          have uv : rA b95 (n.toInt - 1) = v9.toInt := uv
          have hx14 : xI (q.2.2.2 92) (q.1 29).toInt f.toInt t.toInt (¬ ad.toInt = 0) b94 n.toInt e.toInt := xI_up hx (by first | omega | (repeat' split) <;> omega)
          refine hs (f := dm_ist 181 7) (lv' := [(7, .int n), (11, .long e), (10, .int k), (8, .long t), (0, .ref 68), (1, .long f), (3, .long s), (5, .int v), (6, .int ad)]) rfl rfl ?_
          exact j181 n b94 b95 _ hM (by omega) (by omega) (by omega) (by omega) (fun z1 z2 z3 => by first | omega | (exfalso; omega)) hx14
        · skip
          have uv : 0 < n.toInt → ¬ rA b95 (n.toInt - 1) = v9.toInt := uv
          replace hM13 := rm_to (q' := (sA (sB q 94 (vp_updL b94 n.toInt.toNat v6)) 95 (upd b95 n.toInt.toNat v9))) hM13 (Eq.trans (congrArg (fun z => sA z 95 (upd b95 n.toInt.toNat v9)) (show sB (sA (sB q 94 b94) 95 b95) 94 (vp_updL b94 n.toInt.toNat v6) = (sA (sB q 94 (vp_updL b94 n.toInt.toNat v6)) 95 b95) from (congrArg (fun z => (sA z 95 b95)) (show sB (sB q 94 b94) 94 (vp_updL b94 n.toInt.toNat v6) = (sB q 94 (vp_updL b94 n.toInt.toNat v6)) from sB_sB)))) (show sA (sA (sB q 94 (vp_updL b94 n.toInt.toNat v6)) 95 b95) 95 (upd b95 n.toInt.toNat v9) = (sA (sB q 94 (vp_updL b94 n.toInt.toNat v6)) 95 (upd b95 n.toInt.toNat v9)) from (show sA (sA (sB q 94 (vp_updL b94 n.toInt.toNat v6)) 95 b95) 95 (upd b95 n.toInt.toNat v9) = (sA (sB q 94 (vp_updL b94 n.toInt.toNat v6)) 95 (upd b95 n.toInt.toNat v9)) from sA_sA)))
          have e15 : (n + 1).toInt = n.toInt + 1 := i_addc 1 rfl (by omega) (by omega)
          have ul : rA (upd b95 n.toInt.toNat v9) ((n + 1).toInt - 1) = v9.toInt := by rw [e15]; exact rA_last (by omega)
          have hx14 : xI (q.2.2.2 92) (q.1 29).toInt f.toInt t.toInt (¬ ad.toInt = 0) (vp_updL b94 n.toInt.toNat v6) (n + 1).toInt e.toInt := by
            rw [e15]
            refine xI_lay hx (by omega) (by first | omega | (repeat' split) <;> omega) (by first | omega | (repeat' split) <;> omega) (by omega) ?_
            obtain ⟨wi, wi0, wi1, wi2⟩ := wka
            first
            | exact Or.inl (by omega)
            | exact Or.inr (Or.inl (by omega))
            | exact Or.inr (Or.inr ⟨wi, wi0, wi1, by omega, Or.inr (by omega)⟩)
            | exact Or.inr (Or.inr ⟨wi, wi0, wi1, by omega, Or.inl (by omega)⟩)
            | (by_cases z1 : rB (q.2.2.2 92) k.toInt = f.toInt
               · exact Or.inl (by omega)
               · exact absurd (hv (by omega) (by omega) (by omega)) (uv (by omega)))
          refine hs (f := dm_ist 181 7) (lv' := [(7, .int (n + 1)), (11, .long e), (10, .int k), (8, .long t), (0, .ref 68), (1, .long f), (3, .long s), (5, .int v), (6, .int ad)]) rfl rfl ?_
          exact j181 (n + 1) (vp_updL b94 n.toInt.toNat v6) (upd b95 n.toInt.toNat v9) _ hM13 (by omega) (by omega) (by omega) (by omega) (fun z1 z2 z3 => by first | exact ul | (exfalso; omega) | omega) hx14
      · skip
        have h5 : v2.toInt < t.toInt := h5
        refine hs (f := dm_lld 159 8) rfl rfl ?_
        refine hs (f := dm_goto 169) rfl rfl ?_
        refine hs (f := dm_ald 170 0) rfl rfl ?_
        refine r_geta (c := 90) rfl hM rfl ?_
        refine hs (f := dm_ild 175 10) rfl rfl ?_
        refine r_iald (L := 24000) (i := k) ((q.2.2.1 93) k.toInt.toNat) rfl hM rfl (by omega) rfl ?_
        generalize g17 : (q.2.2.1 93) k.toInt.toNat = v16
        have x18 : v16.toInt = rA (q.2.2.1 93) k.toInt := rA_of (i := k) g17 rfl
        refine r_inv rfl hM rfl (as := [.ref 68, .int n, .long t, .int v16]) rfl (Nat.le_of_ble_eq_true rfl) (hT_mono (by decide) (r_148 hM n t v16 (by omega) (by omega)) (fun r1 M20 w => ?_))
        rcases w with ⟨rfl, rfl, un, uv⟩ | ⟨rfl, uv, hM20⟩
        · skip
          have uv : rA b95 (n.toInt - 1) = v16.toInt := uv
          have hx21 : xI (q.2.2.2 92) (q.1 29).toInt f.toInt t.toInt (¬ ad.toInt = 0) b94 n.toInt e.toInt := xI_up hx (by first | omega | (repeat' split) <;> omega)
          refine hs (f := dm_ist 181 7) (lv' := [(7, .int n), (11, .long e), (10, .int k), (8, .long t), (0, .ref 68), (1, .long f), (3, .long s), (5, .int v), (6, .int ad)]) rfl rfl ?_
          exact j181 n b94 b95 _ hM (by omega) (by omega) (by omega) (by omega) (fun z1 z2 z3 => by first | omega | (exfalso; omega)) hx21
        · skip
          have uv : 0 < n.toInt → ¬ rA b95 (n.toInt - 1) = v16.toInt := uv
          replace hM20 := rm_to (q' := (sA (sB q 94 (vp_updL b94 n.toInt.toNat t)) 95 (upd b95 n.toInt.toNat v16))) hM20 (Eq.trans (congrArg (fun z => sA z 95 (upd b95 n.toInt.toNat v16)) (show sB (sA (sB q 94 b94) 95 b95) 94 (vp_updL b94 n.toInt.toNat t) = (sA (sB q 94 (vp_updL b94 n.toInt.toNat t)) 95 b95) from (congrArg (fun z => (sA z 95 b95)) (show sB (sB q 94 b94) 94 (vp_updL b94 n.toInt.toNat t) = (sB q 94 (vp_updL b94 n.toInt.toNat t)) from sB_sB)))) (show sA (sA (sB q 94 (vp_updL b94 n.toInt.toNat t)) 95 b95) 95 (upd b95 n.toInt.toNat v16) = (sA (sB q 94 (vp_updL b94 n.toInt.toNat t)) 95 (upd b95 n.toInt.toNat v16)) from (show sA (sA (sB q 94 (vp_updL b94 n.toInt.toNat t)) 95 b95) 95 (upd b95 n.toInt.toNat v16) = (sA (sB q 94 (vp_updL b94 n.toInt.toNat t)) 95 (upd b95 n.toInt.toNat v16)) from sA_sA)))
          have e22 : (n + 1).toInt = n.toInt + 1 := i_addc 1 rfl (by omega) (by omega)
          have ul : rA (upd b95 n.toInt.toNat v16) ((n + 1).toInt - 1) = v16.toInt := by rw [e22]; exact rA_last (by omega)
          have hx21 : xI (q.2.2.2 92) (q.1 29).toInt f.toInt t.toInt (¬ ad.toInt = 0) (vp_updL b94 n.toInt.toNat t) (n + 1).toInt e.toInt := by
            rw [e22]
            refine xI_lay hx (by omega) (by first | omega | (repeat' split) <;> omega) (by first | omega | (repeat' split) <;> omega) (by omega) ?_
            obtain ⟨wi, wi0, wi1, wi2⟩ := wka
            first
            | exact Or.inl (by omega)
            | exact Or.inr (Or.inl (by omega))
            | exact Or.inr (Or.inr ⟨wi, wi0, wi1, by omega, Or.inr (by omega)⟩)
            | exact Or.inr (Or.inr ⟨wi, wi0, wi1, by omega, Or.inl (by omega)⟩)
            | (by_cases z1 : rB (q.2.2.2 92) k.toInt = f.toInt
               · exact Or.inl (by omega)
               · exact absurd (hv (by omega) (by omega) (by omega)) (uv (by omega)))
          refine hs (f := dm_ist 181 7) (lv' := [(7, .int (n + 1)), (11, .long e), (10, .int k), (8, .long t), (0, .ref 68), (1, .long f), (3, .long s), (5, .int v), (6, .int ad)]) rfl rfl ?_
          exact j181 (n + 1) (vp_updL b94 n.toInt.toNat t) (upd b95 n.toInt.toNat v16) _ hM20 (by omega) (by omega) (by omega) (by omega) (fun z1 z2 z3 => by first | exact ul | (exfalso; omega) | omega) hx21
  · skip
    intro n b94 b95 M hM m0 m2 m3 m5 hv hx
    refine hs (f := dm_lld 135 11) rfl rfl ?_
    refine hs (f := dm_lld 137 8) rfl rfl ?_
    refine g_lc_le (x := e) (y := t) (m := 138) (n := 141) (tt := 181) rfl rfl (fun h23 => ?_) (fun h23 => ?_)
    · skip
      have h23 : e.toInt ≤ t.toInt := h23
      exfalso
      omega
    · skip
      have h23 : e.toInt > t.toInt := h23
      refine hs (f := dm_ald 142 0) rfl rfl ?_
      refine hs (f := dm_ild 144 7) rfl rfl ?_
      refine hs (f := dm_ald 145 0) rfl rfl ?_
      refine r_geta (c := 89) rfl hM rfl ?_
      refine hs (f := dm_ild 150 10) rfl rfl ?_
      refine r_lald (L := 24000) (i := k) ((q.2.2.2 92) k.toInt.toNat) rfl hM rfl (by omega) rfl ?_
      generalize g25 : (q.2.2.2 92) k.toInt.toNat = v24
      have x26 : v24.toInt = rB (q.2.2.2 92) k.toInt := rB_of (i := k) g25 rfl
      refine hs (f := dm_lld 153 8) rfl rfl ?_
      refine g_lc_ge (x := v24) (y := t) (m := 154) (n := 157) (tt := 162) rfl rfl (fun h27 => ?_) (fun h27 => ?_)
      · skip
        have h27 : v24.toInt ≥ t.toInt := h27
        refine hs (f := dm_ald 163 0) rfl rfl ?_
        refine r_geta (c := 89) rfl hM rfl ?_
        refine hs (f := dm_ild 168 10) rfl rfl ?_
        refine r_lald (L := 24000) (i := k) ((q.2.2.2 92) k.toInt.toNat) rfl hM rfl (by omega) rfl ?_
        generalize g29 : (q.2.2.2 92) k.toInt.toNat = v28
        have x30 : v28.toInt = rB (q.2.2.2 92) k.toInt := rB_of (i := k) g29 rfl
        refine hs (f := dm_ald 170 0) rfl rfl ?_
        refine r_geta (c := 90) rfl hM rfl ?_
        refine hs (f := dm_ild 175 10) rfl rfl ?_
        refine r_iald (L := 24000) (i := k) ((q.2.2.1 93) k.toInt.toNat) rfl hM rfl (by omega) rfl ?_
        generalize g32 : (q.2.2.1 93) k.toInt.toNat = v31
        have x33 : v31.toInt = rA (q.2.2.1 93) k.toInt := rA_of (i := k) g32 rfl
        refine r_inv rfl hM rfl (as := [.ref 68, .int n, .long v28, .int v31]) rfl (Nat.le_of_ble_eq_true rfl) (hT_mono (by decide) (r_148 hM n v28 v31 (by omega) (by omega)) (fun r1 M35 w => ?_))
        rcases w with ⟨rfl, rfl, un, uv⟩ | ⟨rfl, uv, hM35⟩
        · skip
          have uv : rA b95 (n.toInt - 1) = v31.toInt := uv
          have hx36 : xI (q.2.2.2 92) (q.1 29).toInt f.toInt t.toInt (¬ ad.toInt = 0) b94 n.toInt e.toInt := xI_up hx (by first | omega | (repeat' split) <;> omega)
          refine hs (f := dm_ist 181 7) (lv' := [(7, .int n), (11, .long e), (10, .int k), (8, .long t), (0, .ref 68), (1, .long f), (3, .long s), (5, .int v), (6, .int ad)]) rfl rfl ?_
          exact j181 n b94 b95 _ hM (by omega) (by omega) (by omega) (by omega) (fun z1 z2 z3 => by first | omega | (exfalso; omega)) hx36
        · skip
          have uv : 0 < n.toInt → ¬ rA b95 (n.toInt - 1) = v31.toInt := uv
          replace hM35 := rm_to (q' := (sA (sB q 94 (vp_updL b94 n.toInt.toNat v28)) 95 (upd b95 n.toInt.toNat v31))) hM35 (Eq.trans (congrArg (fun z => sA z 95 (upd b95 n.toInt.toNat v31)) (show sB (sA (sB q 94 b94) 95 b95) 94 (vp_updL b94 n.toInt.toNat v28) = (sA (sB q 94 (vp_updL b94 n.toInt.toNat v28)) 95 b95) from (congrArg (fun z => (sA z 95 b95)) (show sB (sB q 94 b94) 94 (vp_updL b94 n.toInt.toNat v28) = (sB q 94 (vp_updL b94 n.toInt.toNat v28)) from sB_sB)))) (show sA (sA (sB q 94 (vp_updL b94 n.toInt.toNat v28)) 95 b95) 95 (upd b95 n.toInt.toNat v31) = (sA (sB q 94 (vp_updL b94 n.toInt.toNat v28)) 95 (upd b95 n.toInt.toNat v31)) from (show sA (sA (sB q 94 (vp_updL b94 n.toInt.toNat v28)) 95 b95) 95 (upd b95 n.toInt.toNat v31) = (sA (sB q 94 (vp_updL b94 n.toInt.toNat v28)) 95 (upd b95 n.toInt.toNat v31)) from sA_sA)))
          have e37 : (n + 1).toInt = n.toInt + 1 := i_addc 1 rfl (by omega) (by omega)
          have ul : rA (upd b95 n.toInt.toNat v31) ((n + 1).toInt - 1) = v31.toInt := by rw [e37]; exact rA_last (by omega)
          have hx36 : xI (q.2.2.2 92) (q.1 29).toInt f.toInt t.toInt (¬ ad.toInt = 0) (vp_updL b94 n.toInt.toNat v28) (n + 1).toInt e.toInt := by
            rw [e37]
            refine xI_lay hx (by omega) (by first | omega | (repeat' split) <;> omega) (by first | omega | (repeat' split) <;> omega) (by omega) ?_
            obtain ⟨wi, wi0, wi1, wi2⟩ := wka
            first
            | exact Or.inl (by omega)
            | exact Or.inr (Or.inl (by omega))
            | exact Or.inr (Or.inr ⟨wi, wi0, wi1, by omega, Or.inr (by omega)⟩)
            | exact Or.inr (Or.inr ⟨wi, wi0, wi1, by omega, Or.inl (by omega)⟩)
            | (by_cases z1 : rB (q.2.2.2 92) k.toInt = f.toInt
               · exact Or.inl (by omega)
               · exact absurd (hv (by omega) (by omega) (by omega)) (uv (by omega)))
          refine hs (f := dm_ist 181 7) (lv' := [(7, .int (n + 1)), (11, .long e), (10, .int k), (8, .long t), (0, .ref 68), (1, .long f), (3, .long s), (5, .int v), (6, .int ad)]) rfl rfl ?_
          exact j181 (n + 1) (vp_updL b94 n.toInt.toNat v28) (upd b95 n.toInt.toNat v31) _ hM35 (by omega) (by omega) (by omega) (by omega) (fun z1 z2 z3 => by first | exact ul | (exfalso; omega) | omega) hx36
      · skip
        have h27 : v24.toInt < t.toInt := h27
        refine hs (f := dm_lld 159 8) rfl rfl ?_
        refine hs (f := dm_goto 169) rfl rfl ?_
        refine hs (f := dm_ald 170 0) rfl rfl ?_
        refine r_geta (c := 90) rfl hM rfl ?_
        refine hs (f := dm_ild 175 10) rfl rfl ?_
        refine r_iald (L := 24000) (i := k) ((q.2.2.1 93) k.toInt.toNat) rfl hM rfl (by omega) rfl ?_
        generalize g39 : (q.2.2.1 93) k.toInt.toNat = v38
        have x40 : v38.toInt = rA (q.2.2.1 93) k.toInt := rA_of (i := k) g39 rfl
        refine r_inv rfl hM rfl (as := [.ref 68, .int n, .long t, .int v38]) rfl (Nat.le_of_ble_eq_true rfl) (hT_mono (by decide) (r_148 hM n t v38 (by omega) (by omega)) (fun r1 M42 w => ?_))
        rcases w with ⟨rfl, rfl, un, uv⟩ | ⟨rfl, uv, hM42⟩
        · skip
          have uv : rA b95 (n.toInt - 1) = v38.toInt := uv
          have hx43 : xI (q.2.2.2 92) (q.1 29).toInt f.toInt t.toInt (¬ ad.toInt = 0) b94 n.toInt e.toInt := xI_up hx (by first | omega | (repeat' split) <;> omega)
          refine hs (f := dm_ist 181 7) (lv' := [(7, .int n), (11, .long e), (10, .int k), (8, .long t), (0, .ref 68), (1, .long f), (3, .long s), (5, .int v), (6, .int ad)]) rfl rfl ?_
          exact j181 n b94 b95 _ hM (by omega) (by omega) (by omega) (by omega) (fun z1 z2 z3 => by first | omega | (exfalso; omega)) hx43
        · skip
          have uv : 0 < n.toInt → ¬ rA b95 (n.toInt - 1) = v38.toInt := uv
          replace hM42 := rm_to (q' := (sA (sB q 94 (vp_updL b94 n.toInt.toNat t)) 95 (upd b95 n.toInt.toNat v38))) hM42 (Eq.trans (congrArg (fun z => sA z 95 (upd b95 n.toInt.toNat v38)) (show sB (sA (sB q 94 b94) 95 b95) 94 (vp_updL b94 n.toInt.toNat t) = (sA (sB q 94 (vp_updL b94 n.toInt.toNat t)) 95 b95) from (congrArg (fun z => (sA z 95 b95)) (show sB (sB q 94 b94) 94 (vp_updL b94 n.toInt.toNat t) = (sB q 94 (vp_updL b94 n.toInt.toNat t)) from sB_sB)))) (show sA (sA (sB q 94 (vp_updL b94 n.toInt.toNat t)) 95 b95) 95 (upd b95 n.toInt.toNat v38) = (sA (sB q 94 (vp_updL b94 n.toInt.toNat t)) 95 (upd b95 n.toInt.toNat v38)) from (show sA (sA (sB q 94 (vp_updL b94 n.toInt.toNat t)) 95 b95) 95 (upd b95 n.toInt.toNat v38) = (sA (sB q 94 (vp_updL b94 n.toInt.toNat t)) 95 (upd b95 n.toInt.toNat v38)) from sA_sA)))
          have e44 : (n + 1).toInt = n.toInt + 1 := i_addc 1 rfl (by omega) (by omega)
          have ul : rA (upd b95 n.toInt.toNat v38) ((n + 1).toInt - 1) = v38.toInt := by rw [e44]; exact rA_last (by omega)
          have hx43 : xI (q.2.2.2 92) (q.1 29).toInt f.toInt t.toInt (¬ ad.toInt = 0) (vp_updL b94 n.toInt.toNat t) (n + 1).toInt e.toInt := by
            rw [e44]
            refine xI_lay hx (by omega) (by first | omega | (repeat' split) <;> omega) (by first | omega | (repeat' split) <;> omega) (by omega) ?_
            obtain ⟨wi, wi0, wi1, wi2⟩ := wka
            first
            | exact Or.inl (by omega)
            | exact Or.inr (Or.inl (by omega))
            | exact Or.inr (Or.inr ⟨wi, wi0, wi1, by omega, Or.inr (by omega)⟩)
            | exact Or.inr (Or.inr ⟨wi, wi0, wi1, by omega, Or.inl (by omega)⟩)
            | (by_cases z1 : rB (q.2.2.2 92) k.toInt = f.toInt
               · exact Or.inl (by omega)
               · exact absurd (hv (by omega) (by omega) (by omega)) (uv (by omega)))
          refine hs (f := dm_ist 181 7) (lv' := [(7, .int (n + 1)), (11, .long e), (10, .int k), (8, .long t), (0, .ref 68), (1, .long f), (3, .long s), (5, .int v), (6, .int ad)]) rfl rfl ?_
          exact j181 (n + 1) (vp_updL b94 n.toInt.toNat t) (upd b95 n.toInt.toNat v38) _ hM42 (by omega) (by omega) (by omega) (by omega) (fun z1 z2 z3 => by first | exact ul | (exfalso; omega) | omega) hx43
set_option maxHeartbeats 4000000 in
theorem sq_133s {X : dm_Mem} {q : rS} {f s : Int64} {v ad : Int32} {t : Int64} {k : Int32} {e : Int64} (hS : wS (q.2.2.2 92) (q.1 29).toInt) (hn : (q.1 29).toInt ≤ 22000) (hf : 0 ≤ f.toInt) (hs0 : 0 < s.toInt) (hfs : f.toInt + s.toInt ≤ 1152921504606846976) (hn0 : 1 ≤ (q.1 29).toInt) (h00 : rB (q.2.2.2 92) 0 = 0) (ht : t.toInt = f.toInt + s.toInt) (k0 : 0 ≤ k.toInt) (k9 : k.toInt < (q.1 29).toInt) (wkk : rB (q.2.2.2 92) k.toInt < e.toInt) (wk0 : 0 ≤ rB (q.2.2.2 92) k.toInt) (wkz : k.toInt = 0 → rB (q.2.2.2 92) k.toInt = 0) (wky : 0 < k.toInt → 0 < rB (q.2.2.2 92) k.toInt) (wka : ∃ i : Int, 0 ≤ i ∧ i < (q.1 29).toInt ∧ rB (q.2.2.2 92) k.toInt = rB (q.2.2.2 92) i) (j181 : sj_181 X q f s v ad t k e) : sj_133s X q f s v ad t k e := by
  intro n b94 b95 M hM m0 m2 m3 hv hx
  refine hs (f := dm_lld 135 11) rfl rfl ?_
  refine hs (f := dm_lld 137 8) rfl rfl ?_
  refine g_lc_le (x := e) (y := t) (m := 138) (n := 141) (tt := 181) rfl rfl (fun h1 => ?_) (fun h1 => ?_)
  · skip
    have h1 : e.toInt ≤ t.toInt := h1
    exact j181 n b94 b95 _ hM (by omega) (by omega) (by omega) (by omega) (fun z1 z2 z3 => by first | exact hv z1 (by omega) (by omega) | (exfalso; omega)) (xI_up hx (by first | omega | (repeat' split) <;> omega))
  · skip
    have h1 : e.toInt > t.toInt := h1
    refine hs (f := dm_ald 142 0) rfl rfl ?_
    refine hs (f := dm_ild 144 7) rfl rfl ?_
    refine hs (f := dm_ald 145 0) rfl rfl ?_
    refine r_geta (c := 89) rfl hM rfl ?_
    refine hs (f := dm_ild 150 10) rfl rfl ?_
    refine r_lald (L := 24000) (i := k) ((q.2.2.2 92) k.toInt.toNat) rfl hM rfl (by omega) rfl ?_
    generalize g3 : (q.2.2.2 92) k.toInt.toNat = v2
    have x4 : v2.toInt = rB (q.2.2.2 92) k.toInt := rB_of (i := k) g3 rfl
    refine hs (f := dm_lld 153 8) rfl rfl ?_
    refine g_lc_ge (x := v2) (y := t) (m := 154) (n := 157) (tt := 162) rfl rfl (fun h5 => ?_) (fun h5 => ?_)
    · skip
      have h5 : v2.toInt ≥ t.toInt := h5
      refine hs (f := dm_ald 163 0) rfl rfl ?_
      refine r_geta (c := 89) rfl hM rfl ?_
      refine hs (f := dm_ild 168 10) rfl rfl ?_
      refine r_lald (L := 24000) (i := k) ((q.2.2.2 92) k.toInt.toNat) rfl hM rfl (by omega) rfl ?_
      generalize g7 : (q.2.2.2 92) k.toInt.toNat = v6
      have x8 : v6.toInt = rB (q.2.2.2 92) k.toInt := rB_of (i := k) g7 rfl
      refine hs (f := dm_ald 170 0) rfl rfl ?_
      refine r_geta (c := 90) rfl hM rfl ?_
      refine hs (f := dm_ild 175 10) rfl rfl ?_
      refine r_iald (L := 24000) (i := k) ((q.2.2.1 93) k.toInt.toNat) rfl hM rfl (by omega) rfl ?_
      generalize g10 : (q.2.2.1 93) k.toInt.toNat = v9
      have x11 : v9.toInt = rA (q.2.2.1 93) k.toInt := rA_of (i := k) g10 rfl
      refine r_inv rfl hM rfl (as := [.ref 68, .int n, .long v6, .int v9]) rfl (Nat.le_of_ble_eq_true rfl) (hT_mono (by decide) (r_148 hM n v6 v9 (by omega) (by omega)) (fun r1 M13 w => ?_))
      rcases w with ⟨rfl, rfl, un, uv⟩ | ⟨rfl, uv, hM13⟩
      · skip
        have uv : rA b95 (n.toInt - 1) = v9.toInt := uv
        have hx14 : xI (q.2.2.2 92) (q.1 29).toInt f.toInt t.toInt (¬ ad.toInt = 0) b94 n.toInt e.toInt := xI_up hx (by first | omega | (repeat' split) <;> omega)
        refine hs (f := dm_ist 181 7) (lv' := [(7, .int n), (11, .long e), (10, .int k), (8, .long t), (0, .ref 68), (1, .long f), (3, .long s), (5, .int v), (6, .int ad)]) rfl rfl ?_
        exact j181 n b94 b95 _ hM (by omega) (by omega) (by omega) (by omega) (fun z1 z2 z3 => by first | omega | (exfalso; omega)) hx14
      · skip
        have uv : 0 < n.toInt → ¬ rA b95 (n.toInt - 1) = v9.toInt := uv
        replace hM13 := rm_to (q' := (sA (sB q 94 (vp_updL b94 n.toInt.toNat v6)) 95 (upd b95 n.toInt.toNat v9))) hM13 (Eq.trans (congrArg (fun z => sA z 95 (upd b95 n.toInt.toNat v9)) (show sB (sA (sB q 94 b94) 95 b95) 94 (vp_updL b94 n.toInt.toNat v6) = (sA (sB q 94 (vp_updL b94 n.toInt.toNat v6)) 95 b95) from (congrArg (fun z => (sA z 95 b95)) (show sB (sB q 94 b94) 94 (vp_updL b94 n.toInt.toNat v6) = (sB q 94 (vp_updL b94 n.toInt.toNat v6)) from sB_sB)))) (show sA (sA (sB q 94 (vp_updL b94 n.toInt.toNat v6)) 95 b95) 95 (upd b95 n.toInt.toNat v9) = (sA (sB q 94 (vp_updL b94 n.toInt.toNat v6)) 95 (upd b95 n.toInt.toNat v9)) from (show sA (sA (sB q 94 (vp_updL b94 n.toInt.toNat v6)) 95 b95) 95 (upd b95 n.toInt.toNat v9) = (sA (sB q 94 (vp_updL b94 n.toInt.toNat v6)) 95 (upd b95 n.toInt.toNat v9)) from sA_sA)))
        have e15 : (n + 1).toInt = n.toInt + 1 := i_addc 1 rfl (by omega) (by omega)
        have ul : rA (upd b95 n.toInt.toNat v9) ((n + 1).toInt - 1) = v9.toInt := by rw [e15]; exact rA_last (by omega)
        have hx14 : xI (q.2.2.2 92) (q.1 29).toInt f.toInt t.toInt (¬ ad.toInt = 0) (vp_updL b94 n.toInt.toNat v6) (n + 1).toInt e.toInt := by
          rw [e15]
          refine xI_lay hx (by omega) (by first | omega | (repeat' split) <;> omega) (by first | omega | (repeat' split) <;> omega) (by omega) ?_
          obtain ⟨wi, wi0, wi1, wi2⟩ := wka
          first
          | exact Or.inl (by omega)
          | exact Or.inr (Or.inl (by omega))
          | exact Or.inr (Or.inr ⟨wi, wi0, wi1, by omega, Or.inr (by omega)⟩)
          | exact Or.inr (Or.inr ⟨wi, wi0, wi1, by omega, Or.inl (by omega)⟩)
          | (by_cases z1 : rB (q.2.2.2 92) k.toInt = f.toInt
             · exact Or.inl (by omega)
             · exact absurd (hv (by omega) (by omega) (by omega)) (uv (by omega)))
        refine hs (f := dm_ist 181 7) (lv' := [(7, .int (n + 1)), (11, .long e), (10, .int k), (8, .long t), (0, .ref 68), (1, .long f), (3, .long s), (5, .int v), (6, .int ad)]) rfl rfl ?_
        exact j181 (n + 1) (vp_updL b94 n.toInt.toNat v6) (upd b95 n.toInt.toNat v9) _ hM13 (by omega) (by omega) (by omega) (by omega) (fun z1 z2 z3 => by first | exact ul | (exfalso; omega) | omega) hx14
    · skip
      have h5 : v2.toInt < t.toInt := h5
      refine hs (f := dm_lld 159 8) rfl rfl ?_
      refine hs (f := dm_goto 169) rfl rfl ?_
      refine hs (f := dm_ald 170 0) rfl rfl ?_
      refine r_geta (c := 90) rfl hM rfl ?_
      refine hs (f := dm_ild 175 10) rfl rfl ?_
      refine r_iald (L := 24000) (i := k) ((q.2.2.1 93) k.toInt.toNat) rfl hM rfl (by omega) rfl ?_
      generalize g17 : (q.2.2.1 93) k.toInt.toNat = v16
      have x18 : v16.toInt = rA (q.2.2.1 93) k.toInt := rA_of (i := k) g17 rfl
      refine r_inv rfl hM rfl (as := [.ref 68, .int n, .long t, .int v16]) rfl (Nat.le_of_ble_eq_true rfl) (hT_mono (by decide) (r_148 hM n t v16 (by omega) (by omega)) (fun r1 M20 w => ?_))
      rcases w with ⟨rfl, rfl, un, uv⟩ | ⟨rfl, uv, hM20⟩
      · skip
        have uv : rA b95 (n.toInt - 1) = v16.toInt := uv
        have hx21 : xI (q.2.2.2 92) (q.1 29).toInt f.toInt t.toInt (¬ ad.toInt = 0) b94 n.toInt e.toInt := xI_up hx (by first | omega | (repeat' split) <;> omega)
        refine hs (f := dm_ist 181 7) (lv' := [(7, .int n), (11, .long e), (10, .int k), (8, .long t), (0, .ref 68), (1, .long f), (3, .long s), (5, .int v), (6, .int ad)]) rfl rfl ?_
        exact j181 n b94 b95 _ hM (by omega) (by omega) (by omega) (by omega) (fun z1 z2 z3 => by first | omega | (exfalso; omega)) hx21
      · skip
        have uv : 0 < n.toInt → ¬ rA b95 (n.toInt - 1) = v16.toInt := uv
        replace hM20 := rm_to (q' := (sA (sB q 94 (vp_updL b94 n.toInt.toNat t)) 95 (upd b95 n.toInt.toNat v16))) hM20 (Eq.trans (congrArg (fun z => sA z 95 (upd b95 n.toInt.toNat v16)) (show sB (sA (sB q 94 b94) 95 b95) 94 (vp_updL b94 n.toInt.toNat t) = (sA (sB q 94 (vp_updL b94 n.toInt.toNat t)) 95 b95) from (congrArg (fun z => (sA z 95 b95)) (show sB (sB q 94 b94) 94 (vp_updL b94 n.toInt.toNat t) = (sB q 94 (vp_updL b94 n.toInt.toNat t)) from sB_sB)))) (show sA (sA (sB q 94 (vp_updL b94 n.toInt.toNat t)) 95 b95) 95 (upd b95 n.toInt.toNat v16) = (sA (sB q 94 (vp_updL b94 n.toInt.toNat t)) 95 (upd b95 n.toInt.toNat v16)) from (show sA (sA (sB q 94 (vp_updL b94 n.toInt.toNat t)) 95 b95) 95 (upd b95 n.toInt.toNat v16) = (sA (sB q 94 (vp_updL b94 n.toInt.toNat t)) 95 (upd b95 n.toInt.toNat v16)) from sA_sA)))
        have e22 : (n + 1).toInt = n.toInt + 1 := i_addc 1 rfl (by omega) (by omega)
        have ul : rA (upd b95 n.toInt.toNat v16) ((n + 1).toInt - 1) = v16.toInt := by rw [e22]; exact rA_last (by omega)
        have hx21 : xI (q.2.2.2 92) (q.1 29).toInt f.toInt t.toInt (¬ ad.toInt = 0) (vp_updL b94 n.toInt.toNat t) (n + 1).toInt e.toInt := by
          rw [e22]
          refine xI_lay hx (by omega) (by first | omega | (repeat' split) <;> omega) (by first | omega | (repeat' split) <;> omega) (by omega) ?_
          obtain ⟨wi, wi0, wi1, wi2⟩ := wka
          first
          | exact Or.inl (by omega)
          | exact Or.inr (Or.inl (by omega))
          | exact Or.inr (Or.inr ⟨wi, wi0, wi1, by omega, Or.inr (by omega)⟩)
          | exact Or.inr (Or.inr ⟨wi, wi0, wi1, by omega, Or.inl (by omega)⟩)
          | (by_cases z1 : rB (q.2.2.2 92) k.toInt = f.toInt
             · exact Or.inl (by omega)
             · exact absurd (hv (by omega) (by omega) (by omega)) (uv (by omega)))
        refine hs (f := dm_ist 181 7) (lv' := [(7, .int (n + 1)), (11, .long e), (10, .int k), (8, .long t), (0, .ref 68), (1, .long f), (3, .long s), (5, .int v), (6, .int ad)]) rfl rfl ?_
        exact j181 (n + 1) (vp_updL b94 n.toInt.toNat t) (upd b95 n.toInt.toNat v16) _ hM20 (by omega) (by omega) (by omega) (by omega) (fun z1 z2 z3 => by first | exact ul | (exfalso; omega) | omega) hx21
set_option maxHeartbeats 4000000 in
theorem sq_62n {X : dm_Mem} {q : rS} {f s : Int64} {v ad : Int32} {t : Int64} {k : Int32} {e : Int64} (hS : wS (q.2.2.2 92) (q.1 29).toInt) (hn : (q.1 29).toInt ≤ 22000) (hf : 0 ≤ f.toInt) (hs0 : 0 < s.toInt) (hfs : f.toInt + s.toInt ≤ 1152921504606846976) (hn0 : 1 ≤ (q.1 29).toInt) (h00 : rB (q.2.2.2 92) 0 = 0) (ht : t.toInt = f.toInt + s.toInt) (k0 : 0 ≤ k.toInt) (k9 : k.toInt < (q.1 29).toInt) (wkk : rB (q.2.2.2 92) k.toInt < e.toInt) (wk0 : 0 ≤ rB (q.2.2.2 92) k.toInt) (wkz : k.toInt = 0 → rB (q.2.2.2 92) k.toInt = 0) (wky : 0 < k.toInt → 0 < rB (q.2.2.2 92) k.toInt) (wka : ∃ i : Int, 0 ≤ i ∧ i < (q.1 29).toInt ∧ rB (q.2.2.2 92) k.toInt = rB (q.2.2.2 92) i) (j133n : sj_133n X q f s v ad t k e) (j133s : sj_133s X q f s v ad t k e) : sj_62n X q f s v ad t k e := by
  refine ⟨?_, ?_⟩
  · skip
    intro n b94 b95 M hM m0 m1 m2 m3 m4 m5 hv hx
    refine hs (f := dm_lld 64 11) rfl rfl ?_
    refine hs (f := dm_lld 65 1) rfl rfl ?_
    refine g_lc_le (x := e) (y := f) (m := 66) (n := 69) (tt := 133) rfl rfl (fun h1 => ?_) (fun h1 => ?_)
    · skip
      have h1 : e.toInt ≤ f.toInt := h1
      exact j133n.1 n b94 b95 _ hM (by omega) (by omega) (by omega) (by omega) (fun z1 z2 z3 => by first | exact hv z1 (by omega) (by omega) | (exfalso; omega)) (xI_up hx (by first | omega | (repeat' split) <;> omega))
    · skip
      have h1 : e.toInt > f.toInt := h1
      refine hs (f := dm_ald 70 0) rfl rfl ?_
      refine r_geta (c := 89) rfl hM rfl ?_
      refine hs (f := dm_ild 75 10) rfl rfl ?_
      refine r_lald (L := 24000) (i := k) ((q.2.2.2 92) k.toInt.toNat) rfl hM rfl (by omega) rfl ?_
      generalize g3 : (q.2.2.2 92) k.toInt.toNat = v2
      have x4 : v2.toInt = rB (q.2.2.2 92) k.toInt := rB_of (i := k) g3 rfl
      refine hs (f := dm_lld 78 8) rfl rfl ?_
      refine g_lc_ge (x := v2) (y := t) (m := 79) (n := 82) (tt := 133) rfl rfl (fun h5 => ?_) (fun h5 => ?_)
      · skip
        have h5 : v2.toInt ≥ t.toInt := h5
        exact j133n.1 n b94 b95 _ hM (by omega) (by omega) (by omega) (by omega) (fun z1 z2 z3 => by first | exact hv z1 (by omega) (by omega) | (exfalso; omega)) (xI_up hx (by first | omega | (repeat' split) <;> omega))
      · skip
        have h5 : v2.toInt < t.toInt := h5
        refine hs (f := dm_ald 83 0) rfl rfl ?_
        refine hs (f := dm_ild 85 7) rfl rfl ?_
        refine hs (f := dm_ald 86 0) rfl rfl ?_
        refine r_geta (c := 89) rfl hM rfl ?_
        refine hs (f := dm_ild 91 10) rfl rfl ?_
        refine r_lald (L := 24000) (i := k) ((q.2.2.2 92) k.toInt.toNat) rfl hM rfl (by omega) rfl ?_
        generalize g7 : (q.2.2.2 92) k.toInt.toNat = v6
        have x8 : v6.toInt = rB (q.2.2.2 92) k.toInt := rB_of (i := k) g7 rfl
        refine hs (f := dm_lld 93 1) rfl rfl ?_
        refine g_lc_ge (x := v6) (y := f) (m := 94) (n := 97) (tt := 101) rfl rfl (fun h9 => ?_) (fun h9 => ?_)
        · skip
          have h9 : v6.toInt ≥ f.toInt := h9
          refine hs (f := dm_ald 102 0) rfl rfl ?_
          refine r_geta (c := 89) rfl hM rfl ?_
          refine hs (f := dm_ild 107 10) rfl rfl ?_
          refine r_lald (L := 24000) (i := k) ((q.2.2.2 92) k.toInt.toNat) rfl hM rfl (by omega) rfl ?_
          generalize g11 : (q.2.2.2 92) k.toInt.toNat = v10
          have x12 : v10.toInt = rB (q.2.2.2 92) k.toInt := rB_of (i := k) g11 rfl
          refine hs (f := dm_ild 110 6) rfl rfl ?_
          refine g_if_eq (n := 113) (tt := 126) rfl (fun h13 => ?_) (fun h13 => ?_)
          · skip
            have h13 : ad.toInt = 0 := h13
            refine hs (f := dm_ild 128 5) rfl rfl ?_
            refine r_inv rfl hM rfl (as := [.ref 68, .int n, .long v10, .int v]) rfl (Nat.le_of_ble_eq_true rfl) (hT_mono (by decide) (r_148 hM n v10 v (by omega) (by omega)) (fun r1 M15 w => ?_))
            rcases w with ⟨rfl, rfl, un, uv⟩ | ⟨rfl, uv, hM15⟩
            · skip
              have uv : rA b95 (n.toInt - 1) = v.toInt := uv
              have hx16 : xI (q.2.2.2 92) (q.1 29).toInt f.toInt t.toInt (¬ ad.toInt = 0) b94 n.toInt (if e.toInt ≤ t.toInt then e.toInt else if rB (q.2.2.2 92) k.toInt < t.toInt then t.toInt else rB (q.2.2.2 92) k.toInt) := xI_up hx (by first | omega | (repeat' split) <;> omega)
              refine hs (f := dm_ist 133 7) (lv' := [(7, .int n), (11, .long e), (10, .int k), (8, .long t), (0, .ref 68), (1, .long f), (3, .long s), (5, .int v), (6, .int ad)]) rfl rfl ?_
              exact j133s n b94 b95 _ hM (by omega) (by omega) (by omega) (fun z1 z2 z3 => by first | omega | (exfalso; omega)) hx16
            · skip
              have uv : 0 < n.toInt → ¬ rA b95 (n.toInt - 1) = v.toInt := uv
              replace hM15 := rm_to (q' := (sA (sB q 94 (vp_updL b94 n.toInt.toNat v10)) 95 (upd b95 n.toInt.toNat v))) hM15 (Eq.trans (congrArg (fun z => sA z 95 (upd b95 n.toInt.toNat v)) (show sB (sA (sB q 94 b94) 95 b95) 94 (vp_updL b94 n.toInt.toNat v10) = (sA (sB q 94 (vp_updL b94 n.toInt.toNat v10)) 95 b95) from (congrArg (fun z => (sA z 95 b95)) (show sB (sB q 94 b94) 94 (vp_updL b94 n.toInt.toNat v10) = (sB q 94 (vp_updL b94 n.toInt.toNat v10)) from sB_sB)))) (show sA (sA (sB q 94 (vp_updL b94 n.toInt.toNat v10)) 95 b95) 95 (upd b95 n.toInt.toNat v) = (sA (sB q 94 (vp_updL b94 n.toInt.toNat v10)) 95 (upd b95 n.toInt.toNat v)) from (show sA (sA (sB q 94 (vp_updL b94 n.toInt.toNat v10)) 95 b95) 95 (upd b95 n.toInt.toNat v) = (sA (sB q 94 (vp_updL b94 n.toInt.toNat v10)) 95 (upd b95 n.toInt.toNat v)) from sA_sA)))
              have e17 : (n + 1).toInt = n.toInt + 1 := i_addc 1 rfl (by omega) (by omega)
              have ul : rA (upd b95 n.toInt.toNat v) ((n + 1).toInt - 1) = v.toInt := by rw [e17]; exact rA_last (by omega)
              have hx16 : xI (q.2.2.2 92) (q.1 29).toInt f.toInt t.toInt (¬ ad.toInt = 0) (vp_updL b94 n.toInt.toNat v10) (n + 1).toInt (if e.toInt ≤ t.toInt then e.toInt else if rB (q.2.2.2 92) k.toInt < t.toInt then t.toInt else rB (q.2.2.2 92) k.toInt) := by
                rw [e17]
                refine xI_lay hx (by omega) (by first | omega | (repeat' split) <;> omega) (by first | omega | (repeat' split) <;> omega) (by omega) ?_
                obtain ⟨wi, wi0, wi1, wi2⟩ := wka
                first
                | exact Or.inl (by omega)
                | exact Or.inr (Or.inl (by omega))
                | exact Or.inr (Or.inr ⟨wi, wi0, wi1, by omega, Or.inr (by omega)⟩)
                | exact Or.inr (Or.inr ⟨wi, wi0, wi1, by omega, Or.inl (by omega)⟩)
                | (by_cases z1 : rB (q.2.2.2 92) k.toInt = f.toInt
                   · exact Or.inl (by omega)
                   · exact absurd (hv (by omega) (by omega) (by omega)) (uv (by omega)))
              refine hs (f := dm_ist 133 7) (lv' := [(7, .int (n + 1)), (11, .long e), (10, .int k), (8, .long t), (0, .ref 68), (1, .long f), (3, .long s), (5, .int v), (6, .int ad)]) rfl rfl ?_
              exact j133s (n + 1) (vp_updL b94 n.toInt.toNat v10) (upd b95 n.toInt.toNat v) _ hM15 (by omega) (by omega) (by omega) (fun z1 z2 z3 => by first | exact ul | (exfalso; omega) | omega) hx16
          · skip
            have h13 : ¬ ad.toInt = 0 := h13
            refine hs (f := dm_ald 114 0) rfl rfl ?_
            refine r_geta (c := 90) rfl hM rfl ?_
            refine hs (f := dm_ild 119 10) rfl rfl ?_
            refine r_iald (L := 24000) (i := k) ((q.2.2.1 93) k.toInt.toNat) rfl hM rfl (by omega) rfl ?_
            generalize g19 : (q.2.2.1 93) k.toInt.toNat = v18
            have x20 : v18.toInt = rA (q.2.2.1 93) k.toInt := rA_of (i := k) g19 rfl
            refine hs (f := dm_ild 122 5) rfl rfl ?_
            refine hs (f := dm_ii 123 (fun x y => x + y)) (st' := [.int (v18 + v), .long v10, .int n, .ref 68]) rfl rfl ?_
            refine hs (f := dm_goto 128) rfl rfl ?_
            refine r_inv rfl hM rfl (as := [.ref 68, .int n, .long v10, .int (v18 + v)]) rfl (Nat.le_of_ble_eq_true rfl) (hT_mono (by decide) (r_148 hM n v10 (v18 + v) (by omega) (by omega)) (fun r1 M22 w => ?_))
            rcases w with ⟨rfl, rfl, un, uv⟩ | ⟨rfl, uv, hM22⟩
            · skip
              have uv : rA b95 (n.toInt - 1) = (v18 + v).toInt := uv
              have hx23 : xI (q.2.2.2 92) (q.1 29).toInt f.toInt t.toInt (¬ ad.toInt = 0) b94 n.toInt (if e.toInt ≤ t.toInt then e.toInt else if rB (q.2.2.2 92) k.toInt < t.toInt then t.toInt else rB (q.2.2.2 92) k.toInt) := xI_up hx (by first | omega | (repeat' split) <;> omega)
              refine hs (f := dm_ist 133 7) (lv' := [(7, .int n), (11, .long e), (10, .int k), (8, .long t), (0, .ref 68), (1, .long f), (3, .long s), (5, .int v), (6, .int ad)]) rfl rfl ?_
              exact j133s n b94 b95 _ hM (by omega) (by omega) (by omega) (fun z1 z2 z3 => by first | omega | (exfalso; omega)) hx23
            · skip
              have uv : 0 < n.toInt → ¬ rA b95 (n.toInt - 1) = (v18 + v).toInt := uv
              replace hM22 := rm_to (q' := (sA (sB q 94 (vp_updL b94 n.toInt.toNat v10)) 95 (upd b95 n.toInt.toNat (v18 + v)))) hM22 (Eq.trans (congrArg (fun z => sA z 95 (upd b95 n.toInt.toNat (v18 + v))) (show sB (sA (sB q 94 b94) 95 b95) 94 (vp_updL b94 n.toInt.toNat v10) = (sA (sB q 94 (vp_updL b94 n.toInt.toNat v10)) 95 b95) from (congrArg (fun z => (sA z 95 b95)) (show sB (sB q 94 b94) 94 (vp_updL b94 n.toInt.toNat v10) = (sB q 94 (vp_updL b94 n.toInt.toNat v10)) from sB_sB)))) (show sA (sA (sB q 94 (vp_updL b94 n.toInt.toNat v10)) 95 b95) 95 (upd b95 n.toInt.toNat (v18 + v)) = (sA (sB q 94 (vp_updL b94 n.toInt.toNat v10)) 95 (upd b95 n.toInt.toNat (v18 + v))) from (show sA (sA (sB q 94 (vp_updL b94 n.toInt.toNat v10)) 95 b95) 95 (upd b95 n.toInt.toNat (v18 + v)) = (sA (sB q 94 (vp_updL b94 n.toInt.toNat v10)) 95 (upd b95 n.toInt.toNat (v18 + v))) from sA_sA)))
              have e24 : (n + 1).toInt = n.toInt + 1 := i_addc 1 rfl (by omega) (by omega)
              have ul : rA (upd b95 n.toInt.toNat (v18 + v)) ((n + 1).toInt - 1) = (v18 + v).toInt := by rw [e24]; exact rA_last (by omega)
              have hx23 : xI (q.2.2.2 92) (q.1 29).toInt f.toInt t.toInt (¬ ad.toInt = 0) (vp_updL b94 n.toInt.toNat v10) (n + 1).toInt (if e.toInt ≤ t.toInt then e.toInt else if rB (q.2.2.2 92) k.toInt < t.toInt then t.toInt else rB (q.2.2.2 92) k.toInt) := by
                rw [e24]
                refine xI_lay hx (by omega) (by first | omega | (repeat' split) <;> omega) (by first | omega | (repeat' split) <;> omega) (by omega) ?_
                obtain ⟨wi, wi0, wi1, wi2⟩ := wka
                first
                | exact Or.inl (by omega)
                | exact Or.inr (Or.inl (by omega))
                | exact Or.inr (Or.inr ⟨wi, wi0, wi1, by omega, Or.inr (by omega)⟩)
                | exact Or.inr (Or.inr ⟨wi, wi0, wi1, by omega, Or.inl (by omega)⟩)
                | (by_cases z1 : rB (q.2.2.2 92) k.toInt = f.toInt
                   · exact Or.inl (by omega)
                   · exact absurd (hv (by omega) (by omega) (by omega)) (uv (by omega)))
              refine hs (f := dm_ist 133 7) (lv' := [(7, .int (n + 1)), (11, .long e), (10, .int k), (8, .long t), (0, .ref 68), (1, .long f), (3, .long s), (5, .int v), (6, .int ad)]) rfl rfl ?_
              exact j133s (n + 1) (vp_updL b94 n.toInt.toNat v10) (upd b95 n.toInt.toNat (v18 + v)) _ hM22 (by omega) (by omega) (by omega) (fun z1 z2 z3 => by first | exact ul | (exfalso; omega) | omega) hx23
        · skip
          have h9 : v6.toInt < f.toInt := h9
          refine hs (f := dm_lld 98 1) rfl rfl ?_
          refine hs (f := dm_goto 108) rfl rfl ?_
          refine hs (f := dm_ild 110 6) rfl rfl ?_
          refine g_if_eq (n := 113) (tt := 126) rfl (fun h25 => ?_) (fun h25 => ?_)
          · skip
            have h25 : ad.toInt = 0 := h25
            refine hs (f := dm_ild 128 5) rfl rfl ?_
            refine r_inv rfl hM rfl (as := [.ref 68, .int n, .long f, .int v]) rfl (Nat.le_of_ble_eq_true rfl) (hT_mono (by decide) (r_148 hM n f v (by omega) (by omega)) (fun r1 M27 w => ?_))
            rcases w with ⟨rfl, rfl, un, uv⟩ | ⟨rfl, uv, hM27⟩
            · skip
              have uv : rA b95 (n.toInt - 1) = v.toInt := uv
              have hx28 : xI (q.2.2.2 92) (q.1 29).toInt f.toInt t.toInt (¬ ad.toInt = 0) b94 n.toInt (if e.toInt ≤ t.toInt then e.toInt else if rB (q.2.2.2 92) k.toInt < t.toInt then t.toInt else rB (q.2.2.2 92) k.toInt) := xI_up hx (by first | omega | (repeat' split) <;> omega)
              refine hs (f := dm_ist 133 7) (lv' := [(7, .int n), (11, .long e), (10, .int k), (8, .long t), (0, .ref 68), (1, .long f), (3, .long s), (5, .int v), (6, .int ad)]) rfl rfl ?_
              exact j133s n b94 b95 _ hM (by omega) (by omega) (by omega) (fun z1 z2 z3 => by first | omega | (exfalso; omega)) hx28
            · skip
              have uv : 0 < n.toInt → ¬ rA b95 (n.toInt - 1) = v.toInt := uv
              replace hM27 := rm_to (q' := (sA (sB q 94 (vp_updL b94 n.toInt.toNat f)) 95 (upd b95 n.toInt.toNat v))) hM27 (Eq.trans (congrArg (fun z => sA z 95 (upd b95 n.toInt.toNat v)) (show sB (sA (sB q 94 b94) 95 b95) 94 (vp_updL b94 n.toInt.toNat f) = (sA (sB q 94 (vp_updL b94 n.toInt.toNat f)) 95 b95) from (congrArg (fun z => (sA z 95 b95)) (show sB (sB q 94 b94) 94 (vp_updL b94 n.toInt.toNat f) = (sB q 94 (vp_updL b94 n.toInt.toNat f)) from sB_sB)))) (show sA (sA (sB q 94 (vp_updL b94 n.toInt.toNat f)) 95 b95) 95 (upd b95 n.toInt.toNat v) = (sA (sB q 94 (vp_updL b94 n.toInt.toNat f)) 95 (upd b95 n.toInt.toNat v)) from (show sA (sA (sB q 94 (vp_updL b94 n.toInt.toNat f)) 95 b95) 95 (upd b95 n.toInt.toNat v) = (sA (sB q 94 (vp_updL b94 n.toInt.toNat f)) 95 (upd b95 n.toInt.toNat v)) from sA_sA)))
              have e29 : (n + 1).toInt = n.toInt + 1 := i_addc 1 rfl (by omega) (by omega)
              have ul : rA (upd b95 n.toInt.toNat v) ((n + 1).toInt - 1) = v.toInt := by rw [e29]; exact rA_last (by omega)
              have hx28 : xI (q.2.2.2 92) (q.1 29).toInt f.toInt t.toInt (¬ ad.toInt = 0) (vp_updL b94 n.toInt.toNat f) (n + 1).toInt (if e.toInt ≤ t.toInt then e.toInt else if rB (q.2.2.2 92) k.toInt < t.toInt then t.toInt else rB (q.2.2.2 92) k.toInt) := by
                rw [e29]
                refine xI_lay hx (by omega) (by first | omega | (repeat' split) <;> omega) (by first | omega | (repeat' split) <;> omega) (by omega) ?_
                obtain ⟨wi, wi0, wi1, wi2⟩ := wka
                first
                | exact Or.inl (by omega)
                | exact Or.inr (Or.inl (by omega))
                | exact Or.inr (Or.inr ⟨wi, wi0, wi1, by omega, Or.inr (by omega)⟩)
                | exact Or.inr (Or.inr ⟨wi, wi0, wi1, by omega, Or.inl (by omega)⟩)
                | (by_cases z1 : rB (q.2.2.2 92) k.toInt = f.toInt
                   · exact Or.inl (by omega)
                   · exact absurd (hv (by omega) (by omega) (by omega)) (uv (by omega)))
              refine hs (f := dm_ist 133 7) (lv' := [(7, .int (n + 1)), (11, .long e), (10, .int k), (8, .long t), (0, .ref 68), (1, .long f), (3, .long s), (5, .int v), (6, .int ad)]) rfl rfl ?_
              exact j133s (n + 1) (vp_updL b94 n.toInt.toNat f) (upd b95 n.toInt.toNat v) _ hM27 (by omega) (by omega) (by omega) (fun z1 z2 z3 => by first | exact ul | (exfalso; omega) | omega) hx28
          · skip
            have h25 : ¬ ad.toInt = 0 := h25
            refine hs (f := dm_ald 114 0) rfl rfl ?_
            refine r_geta (c := 90) rfl hM rfl ?_
            refine hs (f := dm_ild 119 10) rfl rfl ?_
            refine r_iald (L := 24000) (i := k) ((q.2.2.1 93) k.toInt.toNat) rfl hM rfl (by omega) rfl ?_
            generalize g31 : (q.2.2.1 93) k.toInt.toNat = v30
            have x32 : v30.toInt = rA (q.2.2.1 93) k.toInt := rA_of (i := k) g31 rfl
            refine hs (f := dm_ild 122 5) rfl rfl ?_
            refine hs (f := dm_ii 123 (fun x y => x + y)) (st' := [.int (v30 + v), .long f, .int n, .ref 68]) rfl rfl ?_
            refine hs (f := dm_goto 128) rfl rfl ?_
            refine r_inv rfl hM rfl (as := [.ref 68, .int n, .long f, .int (v30 + v)]) rfl (Nat.le_of_ble_eq_true rfl) (hT_mono (by decide) (r_148 hM n f (v30 + v) (by omega) (by omega)) (fun r1 M34 w => ?_))
            rcases w with ⟨rfl, rfl, un, uv⟩ | ⟨rfl, uv, hM34⟩
            · skip
              have uv : rA b95 (n.toInt - 1) = (v30 + v).toInt := uv
              have hx35 : xI (q.2.2.2 92) (q.1 29).toInt f.toInt t.toInt (¬ ad.toInt = 0) b94 n.toInt (if e.toInt ≤ t.toInt then e.toInt else if rB (q.2.2.2 92) k.toInt < t.toInt then t.toInt else rB (q.2.2.2 92) k.toInt) := xI_up hx (by first | omega | (repeat' split) <;> omega)
              refine hs (f := dm_ist 133 7) (lv' := [(7, .int n), (11, .long e), (10, .int k), (8, .long t), (0, .ref 68), (1, .long f), (3, .long s), (5, .int v), (6, .int ad)]) rfl rfl ?_
              exact j133s n b94 b95 _ hM (by omega) (by omega) (by omega) (fun z1 z2 z3 => by first | omega | (exfalso; omega)) hx35
            · skip
              have uv : 0 < n.toInt → ¬ rA b95 (n.toInt - 1) = (v30 + v).toInt := uv
              replace hM34 := rm_to (q' := (sA (sB q 94 (vp_updL b94 n.toInt.toNat f)) 95 (upd b95 n.toInt.toNat (v30 + v)))) hM34 (Eq.trans (congrArg (fun z => sA z 95 (upd b95 n.toInt.toNat (v30 + v))) (show sB (sA (sB q 94 b94) 95 b95) 94 (vp_updL b94 n.toInt.toNat f) = (sA (sB q 94 (vp_updL b94 n.toInt.toNat f)) 95 b95) from (congrArg (fun z => (sA z 95 b95)) (show sB (sB q 94 b94) 94 (vp_updL b94 n.toInt.toNat f) = (sB q 94 (vp_updL b94 n.toInt.toNat f)) from sB_sB)))) (show sA (sA (sB q 94 (vp_updL b94 n.toInt.toNat f)) 95 b95) 95 (upd b95 n.toInt.toNat (v30 + v)) = (sA (sB q 94 (vp_updL b94 n.toInt.toNat f)) 95 (upd b95 n.toInt.toNat (v30 + v))) from (show sA (sA (sB q 94 (vp_updL b94 n.toInt.toNat f)) 95 b95) 95 (upd b95 n.toInt.toNat (v30 + v)) = (sA (sB q 94 (vp_updL b94 n.toInt.toNat f)) 95 (upd b95 n.toInt.toNat (v30 + v))) from sA_sA)))
              have e36 : (n + 1).toInt = n.toInt + 1 := i_addc 1 rfl (by omega) (by omega)
              have ul : rA (upd b95 n.toInt.toNat (v30 + v)) ((n + 1).toInt - 1) = (v30 + v).toInt := by rw [e36]; exact rA_last (by omega)
              have hx35 : xI (q.2.2.2 92) (q.1 29).toInt f.toInt t.toInt (¬ ad.toInt = 0) (vp_updL b94 n.toInt.toNat f) (n + 1).toInt (if e.toInt ≤ t.toInt then e.toInt else if rB (q.2.2.2 92) k.toInt < t.toInt then t.toInt else rB (q.2.2.2 92) k.toInt) := by
                rw [e36]
                refine xI_lay hx (by omega) (by first | omega | (repeat' split) <;> omega) (by first | omega | (repeat' split) <;> omega) (by omega) ?_
                obtain ⟨wi, wi0, wi1, wi2⟩ := wka
                first
                | exact Or.inl (by omega)
                | exact Or.inr (Or.inl (by omega))
                | exact Or.inr (Or.inr ⟨wi, wi0, wi1, by omega, Or.inr (by omega)⟩)
                | exact Or.inr (Or.inr ⟨wi, wi0, wi1, by omega, Or.inl (by omega)⟩)
                | (by_cases z1 : rB (q.2.2.2 92) k.toInt = f.toInt
                   · exact Or.inl (by omega)
                   · exact absurd (hv (by omega) (by omega) (by omega)) (uv (by omega)))
              refine hs (f := dm_ist 133 7) (lv' := [(7, .int (n + 1)), (11, .long e), (10, .int k), (8, .long t), (0, .ref 68), (1, .long f), (3, .long s), (5, .int v), (6, .int ad)]) rfl rfl ?_
              exact j133s (n + 1) (vp_updL b94 n.toInt.toNat f) (upd b95 n.toInt.toNat (v30 + v)) _ hM34 (by omega) (by omega) (by omega) (fun z1 z2 z3 => by first | exact ul | (exfalso; omega) | omega) hx35
  · skip
    intro n b94 b95 M hM m0 m1 m2 m3 m4 m5 hv hx
    refine hs (f := dm_lld 64 11) rfl rfl ?_
    refine hs (f := dm_lld 65 1) rfl rfl ?_
    refine g_lc_le (x := e) (y := f) (m := 66) (n := 69) (tt := 133) rfl rfl (fun h37 => ?_) (fun h37 => ?_)
    · skip
      have h37 : e.toInt ≤ f.toInt := h37
      exact j133n.2 n b94 b95 _ hM (by omega) (by omega) (by omega) (by omega) (fun z1 z2 z3 => by first | exact hv z1 (by omega) (by omega) | (exfalso; omega)) (xI_up hx (by first | omega | (repeat' split) <;> omega))
    · skip
      have h37 : e.toInt > f.toInt := h37
      refine hs (f := dm_ald 70 0) rfl rfl ?_
      refine r_geta (c := 89) rfl hM rfl ?_
      refine hs (f := dm_ild 75 10) rfl rfl ?_
      refine r_lald (L := 24000) (i := k) ((q.2.2.2 92) k.toInt.toNat) rfl hM rfl (by omega) rfl ?_
      generalize g39 : (q.2.2.2 92) k.toInt.toNat = v38
      have x40 : v38.toInt = rB (q.2.2.2 92) k.toInt := rB_of (i := k) g39 rfl
      refine hs (f := dm_lld 78 8) rfl rfl ?_
      refine g_lc_ge (x := v38) (y := t) (m := 79) (n := 82) (tt := 133) rfl rfl (fun h41 => ?_) (fun h41 => ?_)
      · skip
        have h41 : v38.toInt ≥ t.toInt := h41
        exact j133n.2 n b94 b95 _ hM (by omega) (by omega) (by omega) (by omega) (fun z1 z2 z3 => by first | exact hv z1 (by omega) (by omega) | (exfalso; omega)) (xI_up hx (by first | omega | (repeat' split) <;> omega))
      · skip
        have h41 : v38.toInt < t.toInt := h41
        refine hs (f := dm_ald 83 0) rfl rfl ?_
        refine hs (f := dm_ild 85 7) rfl rfl ?_
        refine hs (f := dm_ald 86 0) rfl rfl ?_
        refine r_geta (c := 89) rfl hM rfl ?_
        refine hs (f := dm_ild 91 10) rfl rfl ?_
        refine r_lald (L := 24000) (i := k) ((q.2.2.2 92) k.toInt.toNat) rfl hM rfl (by omega) rfl ?_
        generalize g43 : (q.2.2.2 92) k.toInt.toNat = v42
        have x44 : v42.toInt = rB (q.2.2.2 92) k.toInt := rB_of (i := k) g43 rfl
        refine hs (f := dm_lld 93 1) rfl rfl ?_
        refine g_lc_ge (x := v42) (y := f) (m := 94) (n := 97) (tt := 101) rfl rfl (fun h45 => ?_) (fun h45 => ?_)
        · skip
          have h45 : v42.toInt ≥ f.toInt := h45
          refine hs (f := dm_ald 102 0) rfl rfl ?_
          refine r_geta (c := 89) rfl hM rfl ?_
          refine hs (f := dm_ild 107 10) rfl rfl ?_
          refine r_lald (L := 24000) (i := k) ((q.2.2.2 92) k.toInt.toNat) rfl hM rfl (by omega) rfl ?_
          generalize g47 : (q.2.2.2 92) k.toInt.toNat = v46
          have x48 : v46.toInt = rB (q.2.2.2 92) k.toInt := rB_of (i := k) g47 rfl
          refine hs (f := dm_ild 110 6) rfl rfl ?_
          refine g_if_eq (n := 113) (tt := 126) rfl (fun h49 => ?_) (fun h49 => ?_)
          · skip
            have h49 : ad.toInt = 0 := h49
            refine hs (f := dm_ild 128 5) rfl rfl ?_
            refine r_inv rfl hM rfl (as := [.ref 68, .int n, .long v46, .int v]) rfl (Nat.le_of_ble_eq_true rfl) (hT_mono (by decide) (r_148 hM n v46 v (by omega) (by omega)) (fun r1 M51 w => ?_))
            rcases w with ⟨rfl, rfl, un, uv⟩ | ⟨rfl, uv, hM51⟩
            · skip
              have uv : rA b95 (n.toInt - 1) = v.toInt := uv
              have hx52 : xI (q.2.2.2 92) (q.1 29).toInt f.toInt t.toInt (¬ ad.toInt = 0) b94 n.toInt (if e.toInt ≤ t.toInt then e.toInt else if rB (q.2.2.2 92) k.toInt < t.toInt then t.toInt else rB (q.2.2.2 92) k.toInt) := xI_up hx (by first | omega | (repeat' split) <;> omega)
              refine hs (f := dm_ist 133 7) (lv' := [(7, .int n), (11, .long e), (10, .int k), (8, .long t), (0, .ref 68), (1, .long f), (3, .long s), (5, .int v), (6, .int ad)]) rfl rfl ?_
              exact j133s n b94 b95 _ hM (by omega) (by omega) (by omega) (fun z1 z2 z3 => by first | omega | (exfalso; omega)) hx52
            · skip
              have uv : 0 < n.toInt → ¬ rA b95 (n.toInt - 1) = v.toInt := uv
              replace hM51 := rm_to (q' := (sA (sB q 94 (vp_updL b94 n.toInt.toNat v46)) 95 (upd b95 n.toInt.toNat v))) hM51 (Eq.trans (congrArg (fun z => sA z 95 (upd b95 n.toInt.toNat v)) (show sB (sA (sB q 94 b94) 95 b95) 94 (vp_updL b94 n.toInt.toNat v46) = (sA (sB q 94 (vp_updL b94 n.toInt.toNat v46)) 95 b95) from (congrArg (fun z => (sA z 95 b95)) (show sB (sB q 94 b94) 94 (vp_updL b94 n.toInt.toNat v46) = (sB q 94 (vp_updL b94 n.toInt.toNat v46)) from sB_sB)))) (show sA (sA (sB q 94 (vp_updL b94 n.toInt.toNat v46)) 95 b95) 95 (upd b95 n.toInt.toNat v) = (sA (sB q 94 (vp_updL b94 n.toInt.toNat v46)) 95 (upd b95 n.toInt.toNat v)) from (show sA (sA (sB q 94 (vp_updL b94 n.toInt.toNat v46)) 95 b95) 95 (upd b95 n.toInt.toNat v) = (sA (sB q 94 (vp_updL b94 n.toInt.toNat v46)) 95 (upd b95 n.toInt.toNat v)) from sA_sA)))
              have e53 : (n + 1).toInt = n.toInt + 1 := i_addc 1 rfl (by omega) (by omega)
              have ul : rA (upd b95 n.toInt.toNat v) ((n + 1).toInt - 1) = v.toInt := by rw [e53]; exact rA_last (by omega)
              have hx52 : xI (q.2.2.2 92) (q.1 29).toInt f.toInt t.toInt (¬ ad.toInt = 0) (vp_updL b94 n.toInt.toNat v46) (n + 1).toInt (if e.toInt ≤ t.toInt then e.toInt else if rB (q.2.2.2 92) k.toInt < t.toInt then t.toInt else rB (q.2.2.2 92) k.toInt) := by
                rw [e53]
                refine xI_lay hx (by omega) (by first | omega | (repeat' split) <;> omega) (by first | omega | (repeat' split) <;> omega) (by omega) ?_
                obtain ⟨wi, wi0, wi1, wi2⟩ := wka
                first
                | exact Or.inl (by omega)
                | exact Or.inr (Or.inl (by omega))
                | exact Or.inr (Or.inr ⟨wi, wi0, wi1, by omega, Or.inr (by omega)⟩)
                | exact Or.inr (Or.inr ⟨wi, wi0, wi1, by omega, Or.inl (by omega)⟩)
                | (by_cases z1 : rB (q.2.2.2 92) k.toInt = f.toInt
                   · exact Or.inl (by omega)
                   · exact absurd (hv (by omega) (by omega) (by omega)) (uv (by omega)))
              refine hs (f := dm_ist 133 7) (lv' := [(7, .int (n + 1)), (11, .long e), (10, .int k), (8, .long t), (0, .ref 68), (1, .long f), (3, .long s), (5, .int v), (6, .int ad)]) rfl rfl ?_
              exact j133s (n + 1) (vp_updL b94 n.toInt.toNat v46) (upd b95 n.toInt.toNat v) _ hM51 (by omega) (by omega) (by omega) (fun z1 z2 z3 => by first | exact ul | (exfalso; omega) | omega) hx52
          · skip
            have h49 : ¬ ad.toInt = 0 := h49
            refine hs (f := dm_ald 114 0) rfl rfl ?_
            refine r_geta (c := 90) rfl hM rfl ?_
            refine hs (f := dm_ild 119 10) rfl rfl ?_
            refine r_iald (L := 24000) (i := k) ((q.2.2.1 93) k.toInt.toNat) rfl hM rfl (by omega) rfl ?_
            generalize g55 : (q.2.2.1 93) k.toInt.toNat = v54
            have x56 : v54.toInt = rA (q.2.2.1 93) k.toInt := rA_of (i := k) g55 rfl
            refine hs (f := dm_ild 122 5) rfl rfl ?_
            refine hs (f := dm_ii 123 (fun x y => x + y)) (st' := [.int (v54 + v), .long v46, .int n, .ref 68]) rfl rfl ?_
            refine hs (f := dm_goto 128) rfl rfl ?_
            refine r_inv rfl hM rfl (as := [.ref 68, .int n, .long v46, .int (v54 + v)]) rfl (Nat.le_of_ble_eq_true rfl) (hT_mono (by decide) (r_148 hM n v46 (v54 + v) (by omega) (by omega)) (fun r1 M58 w => ?_))
            rcases w with ⟨rfl, rfl, un, uv⟩ | ⟨rfl, uv, hM58⟩
            · skip
              have uv : rA b95 (n.toInt - 1) = (v54 + v).toInt := uv
              have hx59 : xI (q.2.2.2 92) (q.1 29).toInt f.toInt t.toInt (¬ ad.toInt = 0) b94 n.toInt (if e.toInt ≤ t.toInt then e.toInt else if rB (q.2.2.2 92) k.toInt < t.toInt then t.toInt else rB (q.2.2.2 92) k.toInt) := xI_up hx (by first | omega | (repeat' split) <;> omega)
              refine hs (f := dm_ist 133 7) (lv' := [(7, .int n), (11, .long e), (10, .int k), (8, .long t), (0, .ref 68), (1, .long f), (3, .long s), (5, .int v), (6, .int ad)]) rfl rfl ?_
              exact j133s n b94 b95 _ hM (by omega) (by omega) (by omega) (fun z1 z2 z3 => by first | omega | (exfalso; omega)) hx59
            · skip
              have uv : 0 < n.toInt → ¬ rA b95 (n.toInt - 1) = (v54 + v).toInt := uv
              replace hM58 := rm_to (q' := (sA (sB q 94 (vp_updL b94 n.toInt.toNat v46)) 95 (upd b95 n.toInt.toNat (v54 + v)))) hM58 (Eq.trans (congrArg (fun z => sA z 95 (upd b95 n.toInt.toNat (v54 + v))) (show sB (sA (sB q 94 b94) 95 b95) 94 (vp_updL b94 n.toInt.toNat v46) = (sA (sB q 94 (vp_updL b94 n.toInt.toNat v46)) 95 b95) from (congrArg (fun z => (sA z 95 b95)) (show sB (sB q 94 b94) 94 (vp_updL b94 n.toInt.toNat v46) = (sB q 94 (vp_updL b94 n.toInt.toNat v46)) from sB_sB)))) (show sA (sA (sB q 94 (vp_updL b94 n.toInt.toNat v46)) 95 b95) 95 (upd b95 n.toInt.toNat (v54 + v)) = (sA (sB q 94 (vp_updL b94 n.toInt.toNat v46)) 95 (upd b95 n.toInt.toNat (v54 + v))) from (show sA (sA (sB q 94 (vp_updL b94 n.toInt.toNat v46)) 95 b95) 95 (upd b95 n.toInt.toNat (v54 + v)) = (sA (sB q 94 (vp_updL b94 n.toInt.toNat v46)) 95 (upd b95 n.toInt.toNat (v54 + v))) from sA_sA)))
              have e60 : (n + 1).toInt = n.toInt + 1 := i_addc 1 rfl (by omega) (by omega)
              have ul : rA (upd b95 n.toInt.toNat (v54 + v)) ((n + 1).toInt - 1) = (v54 + v).toInt := by rw [e60]; exact rA_last (by omega)
              have hx59 : xI (q.2.2.2 92) (q.1 29).toInt f.toInt t.toInt (¬ ad.toInt = 0) (vp_updL b94 n.toInt.toNat v46) (n + 1).toInt (if e.toInt ≤ t.toInt then e.toInt else if rB (q.2.2.2 92) k.toInt < t.toInt then t.toInt else rB (q.2.2.2 92) k.toInt) := by
                rw [e60]
                refine xI_lay hx (by omega) (by first | omega | (repeat' split) <;> omega) (by first | omega | (repeat' split) <;> omega) (by omega) ?_
                obtain ⟨wi, wi0, wi1, wi2⟩ := wka
                first
                | exact Or.inl (by omega)
                | exact Or.inr (Or.inl (by omega))
                | exact Or.inr (Or.inr ⟨wi, wi0, wi1, by omega, Or.inr (by omega)⟩)
                | exact Or.inr (Or.inr ⟨wi, wi0, wi1, by omega, Or.inl (by omega)⟩)
                | (by_cases z1 : rB (q.2.2.2 92) k.toInt = f.toInt
                   · exact Or.inl (by omega)
                   · exact absurd (hv (by omega) (by omega) (by omega)) (uv (by omega)))
              refine hs (f := dm_ist 133 7) (lv' := [(7, .int (n + 1)), (11, .long e), (10, .int k), (8, .long t), (0, .ref 68), (1, .long f), (3, .long s), (5, .int v), (6, .int ad)]) rfl rfl ?_
              exact j133s (n + 1) (vp_updL b94 n.toInt.toNat v46) (upd b95 n.toInt.toNat (v54 + v)) _ hM58 (by omega) (by omega) (by omega) (fun z1 z2 z3 => by first | exact ul | (exfalso; omega) | omega) hx59
        · skip
          have h45 : v42.toInt < f.toInt := h45
          refine hs (f := dm_lld 98 1) rfl rfl ?_
          refine hs (f := dm_goto 108) rfl rfl ?_
          refine hs (f := dm_ild 110 6) rfl rfl ?_
          refine g_if_eq (n := 113) (tt := 126) rfl (fun h61 => ?_) (fun h61 => ?_)
          · skip
            have h61 : ad.toInt = 0 := h61
            refine hs (f := dm_ild 128 5) rfl rfl ?_
            refine r_inv rfl hM rfl (as := [.ref 68, .int n, .long f, .int v]) rfl (Nat.le_of_ble_eq_true rfl) (hT_mono (by decide) (r_148 hM n f v (by omega) (by omega)) (fun r1 M63 w => ?_))
            rcases w with ⟨rfl, rfl, un, uv⟩ | ⟨rfl, uv, hM63⟩
            · skip
              have uv : rA b95 (n.toInt - 1) = v.toInt := uv
              have hx64 : xI (q.2.2.2 92) (q.1 29).toInt f.toInt t.toInt (¬ ad.toInt = 0) b94 n.toInt (if e.toInt ≤ t.toInt then e.toInt else if rB (q.2.2.2 92) k.toInt < t.toInt then t.toInt else rB (q.2.2.2 92) k.toInt) := xI_up hx (by first | omega | (repeat' split) <;> omega)
              refine hs (f := dm_ist 133 7) (lv' := [(7, .int n), (11, .long e), (10, .int k), (8, .long t), (0, .ref 68), (1, .long f), (3, .long s), (5, .int v), (6, .int ad)]) rfl rfl ?_
              exact j133s n b94 b95 _ hM (by omega) (by omega) (by omega) (fun z1 z2 z3 => by first | omega | (exfalso; omega)) hx64
            · skip
              have uv : 0 < n.toInt → ¬ rA b95 (n.toInt - 1) = v.toInt := uv
              replace hM63 := rm_to (q' := (sA (sB q 94 (vp_updL b94 n.toInt.toNat f)) 95 (upd b95 n.toInt.toNat v))) hM63 (Eq.trans (congrArg (fun z => sA z 95 (upd b95 n.toInt.toNat v)) (show sB (sA (sB q 94 b94) 95 b95) 94 (vp_updL b94 n.toInt.toNat f) = (sA (sB q 94 (vp_updL b94 n.toInt.toNat f)) 95 b95) from (congrArg (fun z => (sA z 95 b95)) (show sB (sB q 94 b94) 94 (vp_updL b94 n.toInt.toNat f) = (sB q 94 (vp_updL b94 n.toInt.toNat f)) from sB_sB)))) (show sA (sA (sB q 94 (vp_updL b94 n.toInt.toNat f)) 95 b95) 95 (upd b95 n.toInt.toNat v) = (sA (sB q 94 (vp_updL b94 n.toInt.toNat f)) 95 (upd b95 n.toInt.toNat v)) from (show sA (sA (sB q 94 (vp_updL b94 n.toInt.toNat f)) 95 b95) 95 (upd b95 n.toInt.toNat v) = (sA (sB q 94 (vp_updL b94 n.toInt.toNat f)) 95 (upd b95 n.toInt.toNat v)) from sA_sA)))
              have e65 : (n + 1).toInt = n.toInt + 1 := i_addc 1 rfl (by omega) (by omega)
              have ul : rA (upd b95 n.toInt.toNat v) ((n + 1).toInt - 1) = v.toInt := by rw [e65]; exact rA_last (by omega)
              have hx64 : xI (q.2.2.2 92) (q.1 29).toInt f.toInt t.toInt (¬ ad.toInt = 0) (vp_updL b94 n.toInt.toNat f) (n + 1).toInt (if e.toInt ≤ t.toInt then e.toInt else if rB (q.2.2.2 92) k.toInt < t.toInt then t.toInt else rB (q.2.2.2 92) k.toInt) := by
                rw [e65]
                refine xI_lay hx (by omega) (by first | omega | (repeat' split) <;> omega) (by first | omega | (repeat' split) <;> omega) (by omega) ?_
                obtain ⟨wi, wi0, wi1, wi2⟩ := wka
                first
                | exact Or.inl (by omega)
                | exact Or.inr (Or.inl (by omega))
                | exact Or.inr (Or.inr ⟨wi, wi0, wi1, by omega, Or.inr (by omega)⟩)
                | exact Or.inr (Or.inr ⟨wi, wi0, wi1, by omega, Or.inl (by omega)⟩)
                | (by_cases z1 : rB (q.2.2.2 92) k.toInt = f.toInt
                   · exact Or.inl (by omega)
                   · exact absurd (hv (by omega) (by omega) (by omega)) (uv (by omega)))
              refine hs (f := dm_ist 133 7) (lv' := [(7, .int (n + 1)), (11, .long e), (10, .int k), (8, .long t), (0, .ref 68), (1, .long f), (3, .long s), (5, .int v), (6, .int ad)]) rfl rfl ?_
              exact j133s (n + 1) (vp_updL b94 n.toInt.toNat f) (upd b95 n.toInt.toNat v) _ hM63 (by omega) (by omega) (by omega) (fun z1 z2 z3 => by first | exact ul | (exfalso; omega) | omega) hx64
          · skip
            have h61 : ¬ ad.toInt = 0 := h61
            refine hs (f := dm_ald 114 0) rfl rfl ?_
            refine r_geta (c := 90) rfl hM rfl ?_
            refine hs (f := dm_ild 119 10) rfl rfl ?_
            refine r_iald (L := 24000) (i := k) ((q.2.2.1 93) k.toInt.toNat) rfl hM rfl (by omega) rfl ?_
            generalize g67 : (q.2.2.1 93) k.toInt.toNat = v66
            have x68 : v66.toInt = rA (q.2.2.1 93) k.toInt := rA_of (i := k) g67 rfl
            refine hs (f := dm_ild 122 5) rfl rfl ?_
            refine hs (f := dm_ii 123 (fun x y => x + y)) (st' := [.int (v66 + v), .long f, .int n, .ref 68]) rfl rfl ?_
            refine hs (f := dm_goto 128) rfl rfl ?_
            refine r_inv rfl hM rfl (as := [.ref 68, .int n, .long f, .int (v66 + v)]) rfl (Nat.le_of_ble_eq_true rfl) (hT_mono (by decide) (r_148 hM n f (v66 + v) (by omega) (by omega)) (fun r1 M70 w => ?_))
            rcases w with ⟨rfl, rfl, un, uv⟩ | ⟨rfl, uv, hM70⟩
            · skip
              have uv : rA b95 (n.toInt - 1) = (v66 + v).toInt := uv
              have hx71 : xI (q.2.2.2 92) (q.1 29).toInt f.toInt t.toInt (¬ ad.toInt = 0) b94 n.toInt (if e.toInt ≤ t.toInt then e.toInt else if rB (q.2.2.2 92) k.toInt < t.toInt then t.toInt else rB (q.2.2.2 92) k.toInt) := xI_up hx (by first | omega | (repeat' split) <;> omega)
              refine hs (f := dm_ist 133 7) (lv' := [(7, .int n), (11, .long e), (10, .int k), (8, .long t), (0, .ref 68), (1, .long f), (3, .long s), (5, .int v), (6, .int ad)]) rfl rfl ?_
              exact j133s n b94 b95 _ hM (by omega) (by omega) (by omega) (fun z1 z2 z3 => by first | omega | (exfalso; omega)) hx71
            · skip
              have uv : 0 < n.toInt → ¬ rA b95 (n.toInt - 1) = (v66 + v).toInt := uv
              replace hM70 := rm_to (q' := (sA (sB q 94 (vp_updL b94 n.toInt.toNat f)) 95 (upd b95 n.toInt.toNat (v66 + v)))) hM70 (Eq.trans (congrArg (fun z => sA z 95 (upd b95 n.toInt.toNat (v66 + v))) (show sB (sA (sB q 94 b94) 95 b95) 94 (vp_updL b94 n.toInt.toNat f) = (sA (sB q 94 (vp_updL b94 n.toInt.toNat f)) 95 b95) from (congrArg (fun z => (sA z 95 b95)) (show sB (sB q 94 b94) 94 (vp_updL b94 n.toInt.toNat f) = (sB q 94 (vp_updL b94 n.toInt.toNat f)) from sB_sB)))) (show sA (sA (sB q 94 (vp_updL b94 n.toInt.toNat f)) 95 b95) 95 (upd b95 n.toInt.toNat (v66 + v)) = (sA (sB q 94 (vp_updL b94 n.toInt.toNat f)) 95 (upd b95 n.toInt.toNat (v66 + v))) from (show sA (sA (sB q 94 (vp_updL b94 n.toInt.toNat f)) 95 b95) 95 (upd b95 n.toInt.toNat (v66 + v)) = (sA (sB q 94 (vp_updL b94 n.toInt.toNat f)) 95 (upd b95 n.toInt.toNat (v66 + v))) from sA_sA)))
              have e72 : (n + 1).toInt = n.toInt + 1 := i_addc 1 rfl (by omega) (by omega)
              have ul : rA (upd b95 n.toInt.toNat (v66 + v)) ((n + 1).toInt - 1) = (v66 + v).toInt := by rw [e72]; exact rA_last (by omega)
              have hx71 : xI (q.2.2.2 92) (q.1 29).toInt f.toInt t.toInt (¬ ad.toInt = 0) (vp_updL b94 n.toInt.toNat f) (n + 1).toInt (if e.toInt ≤ t.toInt then e.toInt else if rB (q.2.2.2 92) k.toInt < t.toInt then t.toInt else rB (q.2.2.2 92) k.toInt) := by
                rw [e72]
                refine xI_lay hx (by omega) (by first | omega | (repeat' split) <;> omega) (by first | omega | (repeat' split) <;> omega) (by omega) ?_
                obtain ⟨wi, wi0, wi1, wi2⟩ := wka
                first
                | exact Or.inl (by omega)
                | exact Or.inr (Or.inl (by omega))
                | exact Or.inr (Or.inr ⟨wi, wi0, wi1, by omega, Or.inr (by omega)⟩)
                | exact Or.inr (Or.inr ⟨wi, wi0, wi1, by omega, Or.inl (by omega)⟩)
                | (by_cases z1 : rB (q.2.2.2 92) k.toInt = f.toInt
                   · exact Or.inl (by omega)
                   · exact absurd (hv (by omega) (by omega) (by omega)) (uv (by omega)))
              refine hs (f := dm_ist 133 7) (lv' := [(7, .int (n + 1)), (11, .long e), (10, .int k), (8, .long t), (0, .ref 68), (1, .long f), (3, .long s), (5, .int v), (6, .int ad)]) rfl rfl ?_
              exact j133s (n + 1) (vp_updL b94 n.toInt.toNat f) (upd b95 n.toInt.toNat (v66 + v)) _ hM70 (by omega) (by omega) (by omega) (fun z1 z2 z3 => by first | exact ul | (exfalso; omega) | omega) hx71
set_option maxHeartbeats 4000000 in
theorem sq_62s {X : dm_Mem} {q : rS} {f s : Int64} {v ad : Int32} {t : Int64} {k : Int32} {e : Int64} (hS : wS (q.2.2.2 92) (q.1 29).toInt) (hn : (q.1 29).toInt ≤ 22000) (hf : 0 ≤ f.toInt) (hs0 : 0 < s.toInt) (hfs : f.toInt + s.toInt ≤ 1152921504606846976) (hn0 : 1 ≤ (q.1 29).toInt) (h00 : rB (q.2.2.2 92) 0 = 0) (ht : t.toInt = f.toInt + s.toInt) (k0 : 0 ≤ k.toInt) (k9 : k.toInt < (q.1 29).toInt) (wkk : rB (q.2.2.2 92) k.toInt < e.toInt) (wk0 : 0 ≤ rB (q.2.2.2 92) k.toInt) (wkz : k.toInt = 0 → rB (q.2.2.2 92) k.toInt = 0) (wky : 0 < k.toInt → 0 < rB (q.2.2.2 92) k.toInt) (wka : ∃ i : Int, 0 ≤ i ∧ i < (q.1 29).toInt ∧ rB (q.2.2.2 92) k.toInt = rB (q.2.2.2 92) i) (j133n : sj_133n X q f s v ad t k e) (j133s : sj_133s X q f s v ad t k e) : sj_62s X q f s v ad t k e := by
  intro n b94 b95 M hM m0 m1 m2 m3 m4 m5 hv hx
  refine hs (f := dm_lld 64 11) rfl rfl ?_
  refine hs (f := dm_lld 65 1) rfl rfl ?_
  refine g_lc_le (x := e) (y := f) (m := 66) (n := 69) (tt := 133) rfl rfl (fun h1 => ?_) (fun h1 => ?_)
  · skip
    have h1 : e.toInt ≤ f.toInt := h1
    exact j133s n b94 b95 _ hM (by omega) (by omega) (by omega) (fun z1 z2 z3 => by first | exact hv z1 (by omega) (by omega) | (exfalso; omega)) (xI_up hx (by first | omega | (repeat' split) <;> omega))
  · skip
    have h1 : e.toInt > f.toInt := h1
    refine hs (f := dm_ald 70 0) rfl rfl ?_
    refine r_geta (c := 89) rfl hM rfl ?_
    refine hs (f := dm_ild 75 10) rfl rfl ?_
    refine r_lald (L := 24000) (i := k) ((q.2.2.2 92) k.toInt.toNat) rfl hM rfl (by omega) rfl ?_
    generalize g3 : (q.2.2.2 92) k.toInt.toNat = v2
    have x4 : v2.toInt = rB (q.2.2.2 92) k.toInt := rB_of (i := k) g3 rfl
    refine hs (f := dm_lld 78 8) rfl rfl ?_
    refine g_lc_ge (x := v2) (y := t) (m := 79) (n := 82) (tt := 133) rfl rfl (fun h5 => ?_) (fun h5 => ?_)
    · skip
      have h5 : v2.toInt ≥ t.toInt := h5
      exact j133s n b94 b95 _ hM (by omega) (by omega) (by omega) (fun z1 z2 z3 => by first | exact hv z1 (by omega) (by omega) | (exfalso; omega)) (xI_up hx (by first | omega | (repeat' split) <;> omega))
    · skip
      have h5 : v2.toInt < t.toInt := h5
      refine hs (f := dm_ald 83 0) rfl rfl ?_
      refine hs (f := dm_ild 85 7) rfl rfl ?_
      refine hs (f := dm_ald 86 0) rfl rfl ?_
      refine r_geta (c := 89) rfl hM rfl ?_
      refine hs (f := dm_ild 91 10) rfl rfl ?_
      refine r_lald (L := 24000) (i := k) ((q.2.2.2 92) k.toInt.toNat) rfl hM rfl (by omega) rfl ?_
      generalize g7 : (q.2.2.2 92) k.toInt.toNat = v6
      have x8 : v6.toInt = rB (q.2.2.2 92) k.toInt := rB_of (i := k) g7 rfl
      refine hs (f := dm_lld 93 1) rfl rfl ?_
      refine g_lc_ge (x := v6) (y := f) (m := 94) (n := 97) (tt := 101) rfl rfl (fun h9 => ?_) (fun h9 => ?_)
      · skip
        have h9 : v6.toInt ≥ f.toInt := h9
        refine hs (f := dm_ald 102 0) rfl rfl ?_
        refine r_geta (c := 89) rfl hM rfl ?_
        refine hs (f := dm_ild 107 10) rfl rfl ?_
        refine r_lald (L := 24000) (i := k) ((q.2.2.2 92) k.toInt.toNat) rfl hM rfl (by omega) rfl ?_
        generalize g11 : (q.2.2.2 92) k.toInt.toNat = v10
        have x12 : v10.toInt = rB (q.2.2.2 92) k.toInt := rB_of (i := k) g11 rfl
        refine hs (f := dm_ild 110 6) rfl rfl ?_
        refine g_if_eq (n := 113) (tt := 126) rfl (fun h13 => ?_) (fun h13 => ?_)
        · skip
          have h13 : ad.toInt = 0 := h13
          refine hs (f := dm_ild 128 5) rfl rfl ?_
          refine r_inv rfl hM rfl (as := [.ref 68, .int n, .long v10, .int v]) rfl (Nat.le_of_ble_eq_true rfl) (hT_mono (by decide) (r_148 hM n v10 v (by omega) (by omega)) (fun r1 M15 w => ?_))
          rcases w with ⟨rfl, rfl, un, uv⟩ | ⟨rfl, uv, hM15⟩
          · skip
            have uv : rA b95 (n.toInt - 1) = v.toInt := uv
            have hx16 : xI (q.2.2.2 92) (q.1 29).toInt f.toInt t.toInt (¬ ad.toInt = 0) b94 n.toInt (if e.toInt ≤ t.toInt then e.toInt else if rB (q.2.2.2 92) k.toInt < t.toInt then t.toInt else rB (q.2.2.2 92) k.toInt) := xI_up hx (by first | omega | (repeat' split) <;> omega)
            refine hs (f := dm_ist 133 7) (lv' := [(7, .int n), (11, .long e), (10, .int k), (8, .long t), (0, .ref 68), (1, .long f), (3, .long s), (5, .int v), (6, .int ad)]) rfl rfl ?_
            exact j133s n b94 b95 _ hM (by omega) (by omega) (by omega) (fun z1 z2 z3 => by first | omega | (exfalso; omega)) hx16
          · skip
            have uv : 0 < n.toInt → ¬ rA b95 (n.toInt - 1) = v.toInt := uv
            replace hM15 := rm_to (q' := (sA (sB q 94 (vp_updL b94 n.toInt.toNat v10)) 95 (upd b95 n.toInt.toNat v))) hM15 (Eq.trans (congrArg (fun z => sA z 95 (upd b95 n.toInt.toNat v)) (show sB (sA (sB q 94 b94) 95 b95) 94 (vp_updL b94 n.toInt.toNat v10) = (sA (sB q 94 (vp_updL b94 n.toInt.toNat v10)) 95 b95) from (congrArg (fun z => (sA z 95 b95)) (show sB (sB q 94 b94) 94 (vp_updL b94 n.toInt.toNat v10) = (sB q 94 (vp_updL b94 n.toInt.toNat v10)) from sB_sB)))) (show sA (sA (sB q 94 (vp_updL b94 n.toInt.toNat v10)) 95 b95) 95 (upd b95 n.toInt.toNat v) = (sA (sB q 94 (vp_updL b94 n.toInt.toNat v10)) 95 (upd b95 n.toInt.toNat v)) from (show sA (sA (sB q 94 (vp_updL b94 n.toInt.toNat v10)) 95 b95) 95 (upd b95 n.toInt.toNat v) = (sA (sB q 94 (vp_updL b94 n.toInt.toNat v10)) 95 (upd b95 n.toInt.toNat v)) from sA_sA)))
            have e17 : (n + 1).toInt = n.toInt + 1 := i_addc 1 rfl (by omega) (by omega)
            have ul : rA (upd b95 n.toInt.toNat v) ((n + 1).toInt - 1) = v.toInt := by rw [e17]; exact rA_last (by omega)
            have hx16 : xI (q.2.2.2 92) (q.1 29).toInt f.toInt t.toInt (¬ ad.toInt = 0) (vp_updL b94 n.toInt.toNat v10) (n + 1).toInt (if e.toInt ≤ t.toInt then e.toInt else if rB (q.2.2.2 92) k.toInt < t.toInt then t.toInt else rB (q.2.2.2 92) k.toInt) := by
              rw [e17]
              refine xI_lay hx (by omega) (by first | omega | (repeat' split) <;> omega) (by first | omega | (repeat' split) <;> omega) (by omega) ?_
              obtain ⟨wi, wi0, wi1, wi2⟩ := wka
              first
              | exact Or.inl (by omega)
              | exact Or.inr (Or.inl (by omega))
              | exact Or.inr (Or.inr ⟨wi, wi0, wi1, by omega, Or.inr (by omega)⟩)
              | exact Or.inr (Or.inr ⟨wi, wi0, wi1, by omega, Or.inl (by omega)⟩)
              | (by_cases z1 : rB (q.2.2.2 92) k.toInt = f.toInt
                 · exact Or.inl (by omega)
                 · exact absurd (hv (by omega) (by omega) (by omega)) (uv (by omega)))
            refine hs (f := dm_ist 133 7) (lv' := [(7, .int (n + 1)), (11, .long e), (10, .int k), (8, .long t), (0, .ref 68), (1, .long f), (3, .long s), (5, .int v), (6, .int ad)]) rfl rfl ?_
            exact j133s (n + 1) (vp_updL b94 n.toInt.toNat v10) (upd b95 n.toInt.toNat v) _ hM15 (by omega) (by omega) (by omega) (fun z1 z2 z3 => by first | exact ul | (exfalso; omega) | omega) hx16
        · skip
          have h13 : ¬ ad.toInt = 0 := h13
          refine hs (f := dm_ald 114 0) rfl rfl ?_
          refine r_geta (c := 90) rfl hM rfl ?_
          refine hs (f := dm_ild 119 10) rfl rfl ?_
          refine r_iald (L := 24000) (i := k) ((q.2.2.1 93) k.toInt.toNat) rfl hM rfl (by omega) rfl ?_
          generalize g19 : (q.2.2.1 93) k.toInt.toNat = v18
          have x20 : v18.toInt = rA (q.2.2.1 93) k.toInt := rA_of (i := k) g19 rfl
          refine hs (f := dm_ild 122 5) rfl rfl ?_
          refine hs (f := dm_ii 123 (fun x y => x + y)) (st' := [.int (v18 + v), .long v10, .int n, .ref 68]) rfl rfl ?_
          refine hs (f := dm_goto 128) rfl rfl ?_
          refine r_inv rfl hM rfl (as := [.ref 68, .int n, .long v10, .int (v18 + v)]) rfl (Nat.le_of_ble_eq_true rfl) (hT_mono (by decide) (r_148 hM n v10 (v18 + v) (by omega) (by omega)) (fun r1 M22 w => ?_))
          rcases w with ⟨rfl, rfl, un, uv⟩ | ⟨rfl, uv, hM22⟩
          · skip
            have uv : rA b95 (n.toInt - 1) = (v18 + v).toInt := uv
            have hx23 : xI (q.2.2.2 92) (q.1 29).toInt f.toInt t.toInt (¬ ad.toInt = 0) b94 n.toInt (if e.toInt ≤ t.toInt then e.toInt else if rB (q.2.2.2 92) k.toInt < t.toInt then t.toInt else rB (q.2.2.2 92) k.toInt) := xI_up hx (by first | omega | (repeat' split) <;> omega)
            refine hs (f := dm_ist 133 7) (lv' := [(7, .int n), (11, .long e), (10, .int k), (8, .long t), (0, .ref 68), (1, .long f), (3, .long s), (5, .int v), (6, .int ad)]) rfl rfl ?_
            exact j133s n b94 b95 _ hM (by omega) (by omega) (by omega) (fun z1 z2 z3 => by first | omega | (exfalso; omega)) hx23
          · skip
            have uv : 0 < n.toInt → ¬ rA b95 (n.toInt - 1) = (v18 + v).toInt := uv
            replace hM22 := rm_to (q' := (sA (sB q 94 (vp_updL b94 n.toInt.toNat v10)) 95 (upd b95 n.toInt.toNat (v18 + v)))) hM22 (Eq.trans (congrArg (fun z => sA z 95 (upd b95 n.toInt.toNat (v18 + v))) (show sB (sA (sB q 94 b94) 95 b95) 94 (vp_updL b94 n.toInt.toNat v10) = (sA (sB q 94 (vp_updL b94 n.toInt.toNat v10)) 95 b95) from (congrArg (fun z => (sA z 95 b95)) (show sB (sB q 94 b94) 94 (vp_updL b94 n.toInt.toNat v10) = (sB q 94 (vp_updL b94 n.toInt.toNat v10)) from sB_sB)))) (show sA (sA (sB q 94 (vp_updL b94 n.toInt.toNat v10)) 95 b95) 95 (upd b95 n.toInt.toNat (v18 + v)) = (sA (sB q 94 (vp_updL b94 n.toInt.toNat v10)) 95 (upd b95 n.toInt.toNat (v18 + v))) from (show sA (sA (sB q 94 (vp_updL b94 n.toInt.toNat v10)) 95 b95) 95 (upd b95 n.toInt.toNat (v18 + v)) = (sA (sB q 94 (vp_updL b94 n.toInt.toNat v10)) 95 (upd b95 n.toInt.toNat (v18 + v))) from sA_sA)))
            have e24 : (n + 1).toInt = n.toInt + 1 := i_addc 1 rfl (by omega) (by omega)
            have ul : rA (upd b95 n.toInt.toNat (v18 + v)) ((n + 1).toInt - 1) = (v18 + v).toInt := by rw [e24]; exact rA_last (by omega)
            have hx23 : xI (q.2.2.2 92) (q.1 29).toInt f.toInt t.toInt (¬ ad.toInt = 0) (vp_updL b94 n.toInt.toNat v10) (n + 1).toInt (if e.toInt ≤ t.toInt then e.toInt else if rB (q.2.2.2 92) k.toInt < t.toInt then t.toInt else rB (q.2.2.2 92) k.toInt) := by
              rw [e24]
              refine xI_lay hx (by omega) (by first | omega | (repeat' split) <;> omega) (by first | omega | (repeat' split) <;> omega) (by omega) ?_
              obtain ⟨wi, wi0, wi1, wi2⟩ := wka
              first
              | exact Or.inl (by omega)
              | exact Or.inr (Or.inl (by omega))
              | exact Or.inr (Or.inr ⟨wi, wi0, wi1, by omega, Or.inr (by omega)⟩)
              | exact Or.inr (Or.inr ⟨wi, wi0, wi1, by omega, Or.inl (by omega)⟩)
              | (by_cases z1 : rB (q.2.2.2 92) k.toInt = f.toInt
                 · exact Or.inl (by omega)
                 · exact absurd (hv (by omega) (by omega) (by omega)) (uv (by omega)))
            refine hs (f := dm_ist 133 7) (lv' := [(7, .int (n + 1)), (11, .long e), (10, .int k), (8, .long t), (0, .ref 68), (1, .long f), (3, .long s), (5, .int v), (6, .int ad)]) rfl rfl ?_
            exact j133s (n + 1) (vp_updL b94 n.toInt.toNat v10) (upd b95 n.toInt.toNat (v18 + v)) _ hM22 (by omega) (by omega) (by omega) (fun z1 z2 z3 => by first | exact ul | (exfalso; omega) | omega) hx23
      · skip
        have h9 : v6.toInt < f.toInt := h9
        refine hs (f := dm_lld 98 1) rfl rfl ?_
        refine hs (f := dm_goto 108) rfl rfl ?_
        refine hs (f := dm_ild 110 6) rfl rfl ?_
        refine g_if_eq (n := 113) (tt := 126) rfl (fun h25 => ?_) (fun h25 => ?_)
        · skip
          have h25 : ad.toInt = 0 := h25
          refine hs (f := dm_ild 128 5) rfl rfl ?_
          refine r_inv rfl hM rfl (as := [.ref 68, .int n, .long f, .int v]) rfl (Nat.le_of_ble_eq_true rfl) (hT_mono (by decide) (r_148 hM n f v (by omega) (by omega)) (fun r1 M27 w => ?_))
          rcases w with ⟨rfl, rfl, un, uv⟩ | ⟨rfl, uv, hM27⟩
          · skip
            have uv : rA b95 (n.toInt - 1) = v.toInt := uv
            have hx28 : xI (q.2.2.2 92) (q.1 29).toInt f.toInt t.toInt (¬ ad.toInt = 0) b94 n.toInt (if e.toInt ≤ t.toInt then e.toInt else if rB (q.2.2.2 92) k.toInt < t.toInt then t.toInt else rB (q.2.2.2 92) k.toInt) := xI_up hx (by first | omega | (repeat' split) <;> omega)
            refine hs (f := dm_ist 133 7) (lv' := [(7, .int n), (11, .long e), (10, .int k), (8, .long t), (0, .ref 68), (1, .long f), (3, .long s), (5, .int v), (6, .int ad)]) rfl rfl ?_
            exact j133s n b94 b95 _ hM (by omega) (by omega) (by omega) (fun z1 z2 z3 => by first | omega | (exfalso; omega)) hx28
          · skip
            have uv : 0 < n.toInt → ¬ rA b95 (n.toInt - 1) = v.toInt := uv
            replace hM27 := rm_to (q' := (sA (sB q 94 (vp_updL b94 n.toInt.toNat f)) 95 (upd b95 n.toInt.toNat v))) hM27 (Eq.trans (congrArg (fun z => sA z 95 (upd b95 n.toInt.toNat v)) (show sB (sA (sB q 94 b94) 95 b95) 94 (vp_updL b94 n.toInt.toNat f) = (sA (sB q 94 (vp_updL b94 n.toInt.toNat f)) 95 b95) from (congrArg (fun z => (sA z 95 b95)) (show sB (sB q 94 b94) 94 (vp_updL b94 n.toInt.toNat f) = (sB q 94 (vp_updL b94 n.toInt.toNat f)) from sB_sB)))) (show sA (sA (sB q 94 (vp_updL b94 n.toInt.toNat f)) 95 b95) 95 (upd b95 n.toInt.toNat v) = (sA (sB q 94 (vp_updL b94 n.toInt.toNat f)) 95 (upd b95 n.toInt.toNat v)) from (show sA (sA (sB q 94 (vp_updL b94 n.toInt.toNat f)) 95 b95) 95 (upd b95 n.toInt.toNat v) = (sA (sB q 94 (vp_updL b94 n.toInt.toNat f)) 95 (upd b95 n.toInt.toNat v)) from sA_sA)))
            have e29 : (n + 1).toInt = n.toInt + 1 := i_addc 1 rfl (by omega) (by omega)
            have ul : rA (upd b95 n.toInt.toNat v) ((n + 1).toInt - 1) = v.toInt := by rw [e29]; exact rA_last (by omega)
            have hx28 : xI (q.2.2.2 92) (q.1 29).toInt f.toInt t.toInt (¬ ad.toInt = 0) (vp_updL b94 n.toInt.toNat f) (n + 1).toInt (if e.toInt ≤ t.toInt then e.toInt else if rB (q.2.2.2 92) k.toInt < t.toInt then t.toInt else rB (q.2.2.2 92) k.toInt) := by
              rw [e29]
              refine xI_lay hx (by omega) (by first | omega | (repeat' split) <;> omega) (by first | omega | (repeat' split) <;> omega) (by omega) ?_
              obtain ⟨wi, wi0, wi1, wi2⟩ := wka
              first
              | exact Or.inl (by omega)
              | exact Or.inr (Or.inl (by omega))
              | exact Or.inr (Or.inr ⟨wi, wi0, wi1, by omega, Or.inr (by omega)⟩)
              | exact Or.inr (Or.inr ⟨wi, wi0, wi1, by omega, Or.inl (by omega)⟩)
              | (by_cases z1 : rB (q.2.2.2 92) k.toInt = f.toInt
                 · exact Or.inl (by omega)
                 · exact absurd (hv (by omega) (by omega) (by omega)) (uv (by omega)))
            refine hs (f := dm_ist 133 7) (lv' := [(7, .int (n + 1)), (11, .long e), (10, .int k), (8, .long t), (0, .ref 68), (1, .long f), (3, .long s), (5, .int v), (6, .int ad)]) rfl rfl ?_
            exact j133s (n + 1) (vp_updL b94 n.toInt.toNat f) (upd b95 n.toInt.toNat v) _ hM27 (by omega) (by omega) (by omega) (fun z1 z2 z3 => by first | exact ul | (exfalso; omega) | omega) hx28
        · skip
          have h25 : ¬ ad.toInt = 0 := h25
          refine hs (f := dm_ald 114 0) rfl rfl ?_
          refine r_geta (c := 90) rfl hM rfl ?_
          refine hs (f := dm_ild 119 10) rfl rfl ?_
          refine r_iald (L := 24000) (i := k) ((q.2.2.1 93) k.toInt.toNat) rfl hM rfl (by omega) rfl ?_
          generalize g31 : (q.2.2.1 93) k.toInt.toNat = v30
          have x32 : v30.toInt = rA (q.2.2.1 93) k.toInt := rA_of (i := k) g31 rfl
          refine hs (f := dm_ild 122 5) rfl rfl ?_
          refine hs (f := dm_ii 123 (fun x y => x + y)) (st' := [.int (v30 + v), .long f, .int n, .ref 68]) rfl rfl ?_
          refine hs (f := dm_goto 128) rfl rfl ?_
          refine r_inv rfl hM rfl (as := [.ref 68, .int n, .long f, .int (v30 + v)]) rfl (Nat.le_of_ble_eq_true rfl) (hT_mono (by decide) (r_148 hM n f (v30 + v) (by omega) (by omega)) (fun r1 M34 w => ?_))
          rcases w with ⟨rfl, rfl, un, uv⟩ | ⟨rfl, uv, hM34⟩
          · skip
            have uv : rA b95 (n.toInt - 1) = (v30 + v).toInt := uv
            have hx35 : xI (q.2.2.2 92) (q.1 29).toInt f.toInt t.toInt (¬ ad.toInt = 0) b94 n.toInt (if e.toInt ≤ t.toInt then e.toInt else if rB (q.2.2.2 92) k.toInt < t.toInt then t.toInt else rB (q.2.2.2 92) k.toInt) := xI_up hx (by first | omega | (repeat' split) <;> omega)
            refine hs (f := dm_ist 133 7) (lv' := [(7, .int n), (11, .long e), (10, .int k), (8, .long t), (0, .ref 68), (1, .long f), (3, .long s), (5, .int v), (6, .int ad)]) rfl rfl ?_
            exact j133s n b94 b95 _ hM (by omega) (by omega) (by omega) (fun z1 z2 z3 => by first | omega | (exfalso; omega)) hx35
          · skip
            have uv : 0 < n.toInt → ¬ rA b95 (n.toInt - 1) = (v30 + v).toInt := uv
            replace hM34 := rm_to (q' := (sA (sB q 94 (vp_updL b94 n.toInt.toNat f)) 95 (upd b95 n.toInt.toNat (v30 + v)))) hM34 (Eq.trans (congrArg (fun z => sA z 95 (upd b95 n.toInt.toNat (v30 + v))) (show sB (sA (sB q 94 b94) 95 b95) 94 (vp_updL b94 n.toInt.toNat f) = (sA (sB q 94 (vp_updL b94 n.toInt.toNat f)) 95 b95) from (congrArg (fun z => (sA z 95 b95)) (show sB (sB q 94 b94) 94 (vp_updL b94 n.toInt.toNat f) = (sB q 94 (vp_updL b94 n.toInt.toNat f)) from sB_sB)))) (show sA (sA (sB q 94 (vp_updL b94 n.toInt.toNat f)) 95 b95) 95 (upd b95 n.toInt.toNat (v30 + v)) = (sA (sB q 94 (vp_updL b94 n.toInt.toNat f)) 95 (upd b95 n.toInt.toNat (v30 + v))) from (show sA (sA (sB q 94 (vp_updL b94 n.toInt.toNat f)) 95 b95) 95 (upd b95 n.toInt.toNat (v30 + v)) = (sA (sB q 94 (vp_updL b94 n.toInt.toNat f)) 95 (upd b95 n.toInt.toNat (v30 + v))) from sA_sA)))
            have e36 : (n + 1).toInt = n.toInt + 1 := i_addc 1 rfl (by omega) (by omega)
            have ul : rA (upd b95 n.toInt.toNat (v30 + v)) ((n + 1).toInt - 1) = (v30 + v).toInt := by rw [e36]; exact rA_last (by omega)
            have hx35 : xI (q.2.2.2 92) (q.1 29).toInt f.toInt t.toInt (¬ ad.toInt = 0) (vp_updL b94 n.toInt.toNat f) (n + 1).toInt (if e.toInt ≤ t.toInt then e.toInt else if rB (q.2.2.2 92) k.toInt < t.toInt then t.toInt else rB (q.2.2.2 92) k.toInt) := by
              rw [e36]
              refine xI_lay hx (by omega) (by first | omega | (repeat' split) <;> omega) (by first | omega | (repeat' split) <;> omega) (by omega) ?_
              obtain ⟨wi, wi0, wi1, wi2⟩ := wka
              first
              | exact Or.inl (by omega)
              | exact Or.inr (Or.inl (by omega))
              | exact Or.inr (Or.inr ⟨wi, wi0, wi1, by omega, Or.inr (by omega)⟩)
              | exact Or.inr (Or.inr ⟨wi, wi0, wi1, by omega, Or.inl (by omega)⟩)
              | (by_cases z1 : rB (q.2.2.2 92) k.toInt = f.toInt
                 · exact Or.inl (by omega)
                 · exact absurd (hv (by omega) (by omega) (by omega)) (uv (by omega)))
            refine hs (f := dm_ist 133 7) (lv' := [(7, .int (n + 1)), (11, .long e), (10, .int k), (8, .long t), (0, .ref 68), (1, .long f), (3, .long s), (5, .int v), (6, .int ad)]) rfl rfl ?_
            exact j133s (n + 1) (vp_updL b94 n.toInt.toNat f) (upd b95 n.toInt.toNat (v30 + v)) _ hM34 (by omega) (by omega) (by omega) (fun z1 z2 z3 => by first | exact ul | (exfalso; omega) | omega) hx35
set_option maxHeartbeats 8000000 in
theorem r_150 {X : dm_Mem} {q : rS} {M : dm_Mem} (hM : Rm X q M) (f s : Int64) (v ad : Int32) (hS : wS (q.2.2.2 92) (q.1 29).toInt) (hn : (q.1 29).toInt ≤ 22000) (hf : 0 ≤ f.toInt) (hs0 : 0 < s.toInt) (hfs : f.toInt + s.toInt ≤ 1152921504606846976) : hT 2 150 [.ref 68, .long f, .long s, .int v, .int ad] M (fun r M' => r = none ∧ ∃ (n : Int32) (b92 b94 : Nat → Int64) (b93 b95 : Nat → Int32), wS b92 n.toInt ∧ n.toInt ≤ (q.1 29).toInt + 2 ∧ (∀ i : Int, 0 ≤ i → i < n.toInt → rB b92 i = f.toInt ∨ rB b92 i = f.toInt + s.toInt ∨ ∃ k : Int, 0 ≤ k ∧ k < (q.1 29).toInt ∧ rB b92 i = rB (q.2.2.2 92) k ∧ (¬ ad.toInt = 0 ∨ ¬ (f.toInt < rB (q.2.2.2 92) k ∧ rB (q.2.2.2 92) k < f.toInt + s.toInt))) ∧ Rm X (sA (sA (sB (sB (sF q 29 n) 92 b92) 94 b94) 93 b93) 95 b95) M') := by
  have hn0 := hS.1
  have h00 := hS.2.1
  refine hx (t := cd_150) rfl (Nat.le_of_ble_eq_true rfl) (lv := [(0, .ref 68), (1, .long f), (3, .long s), (5, .int v), (6, .int ad)]) rfl ?_
  refine hs (f := dm_push 1 (.int 0)) rfl rfl ?_
  refine hs (f := dm_ist 3 7) (lv' := [(7, .int 0), (0, .ref 68), (1, .long f), (3, .long s), (5, .int v), (6, .int ad)]) rfl rfl ?_
  refine hs (f := dm_lld 4 1) rfl rfl ?_
  refine hs (f := dm_lld 5 3) rfl rfl ?_
  have e1 : (f + s).toInt = f.toInt + s.toInt := by have w := j_add (x := f) (y := s) (by omega) (by omega); omega
  refine hs (f := dm_ll 6 (fun x y => x + y)) (st' := [.long (f + s)]) rfl rfl ?_
  refine hs (f := dm_lst 8 8) (lv' := [(8, .long (f + s)), (7, .int 0), (0, .ref 68), (1, .long f), (3, .long s), (5, .int v), (6, .int ad)]) rfl rfl ?_
  generalize g2 : f + s = t at e1 ⊢
  have ht : t.toInt = f.toInt + s.toInt := by omega
  have j11 : ∀ (nn : Nat), (∀ (k n : Int32) (e : Int64) (b94 : Nat → Int64) (b95 : Nat → Int32) (M : dm_Mem), Rm X (sA (sB q 94 b94) 95 b95) M → (0 ≤ k.toInt) → (k.toInt ≤ (q.1 29).toInt) → (0 ≤ n.toInt) → (n.toInt ≤ k.toInt + 2) → ((if k.toInt < (q.1 29).toInt then rB (q.2.2.2 92) k.toInt else 1152921504606846976) ≤ t.toInt → n.toInt ≤ k.toInt + 1) → ((if k.toInt < (q.1 29).toInt then rB (q.2.2.2 92) k.toInt else 1152921504606846976) ≤ f.toInt → n.toInt ≤ k.toInt) → (0 < k.toInt → 1 ≤ n.toInt) → (ad.toInt = 0 → f.toInt < (if k.toInt < (q.1 29).toInt then rB (q.2.2.2 92) k.toInt else 1152921504606846976) → (if k.toInt < (q.1 29).toInt then rB (q.2.2.2 92) k.toInt else 1152921504606846976) < t.toInt → rA b95 (n.toInt - 1) = v.toInt) → (xI (q.2.2.2 92) (q.1 29).toInt f.toInt t.toInt (¬ ad.toInt = 0) b94 n.toInt (if k.toInt < (q.1 29).toInt then rB (q.2.2.2 92) k.toInt else 1152921504606846976)) → ((q.1 29).toInt - k.toInt).toNat = nn → hG 1 cd_150 11 [(10, .int k), (8, .long t), (7, .int n), (0, .ref 68), (1, .long f), (3, .long s), (5, .int v), (6, .int ad)] [] M (fun r M' => r = none ∧ ∃ (n : Int32) (b92 b94 : Nat → Int64) (b93 b95 : Nat → Int32), wS b92 n.toInt ∧ n.toInt ≤ (q.1 29).toInt + 2 ∧ (∀ i : Int, 0 ≤ i → i < n.toInt → rB b92 i = f.toInt ∨ rB b92 i = f.toInt + s.toInt ∨ ∃ k : Int, 0 ≤ k ∧ k < (q.1 29).toInt ∧ rB b92 i = rB (q.2.2.2 92) k ∧ (¬ ad.toInt = 0 ∨ ¬ (f.toInt < rB (q.2.2.2 92) k ∧ rB (q.2.2.2 92) k < f.toInt + s.toInt))) ∧ Rm X (sA (sA (sB (sB (sF q 29 n) 92 b92) 94 b94) 93 b93) 95 b95) M')) ∧ (∀ (k n : Int32) (e : Int64) (b94 : Nat → Int64) (b95 : Nat → Int32) (M : dm_Mem), Rm X (sA (sB q 94 b94) 95 b95) M → (0 ≤ k.toInt) → (k.toInt ≤ (q.1 29).toInt) → (0 ≤ n.toInt) → (n.toInt ≤ k.toInt + 2) → ((if k.toInt < (q.1 29).toInt then rB (q.2.2.2 92) k.toInt else 1152921504606846976) ≤ t.toInt → n.toInt ≤ k.toInt + 1) → ((if k.toInt < (q.1 29).toInt then rB (q.2.2.2 92) k.toInt else 1152921504606846976) ≤ f.toInt → n.toInt ≤ k.toInt) → (0 < k.toInt → 1 ≤ n.toInt) → (ad.toInt = 0 → f.toInt < (if k.toInt < (q.1 29).toInt then rB (q.2.2.2 92) k.toInt else 1152921504606846976) → (if k.toInt < (q.1 29).toInt then rB (q.2.2.2 92) k.toInt else 1152921504606846976) < t.toInt → rA b95 (n.toInt - 1) = v.toInt) → (xI (q.2.2.2 92) (q.1 29).toInt f.toInt t.toInt (¬ ad.toInt = 0) b94 n.toInt (if k.toInt < (q.1 29).toInt then rB (q.2.2.2 92) k.toInt else 1152921504606846976)) → ((q.1 29).toInt - k.toInt).toNat = nn → hG 1 cd_150 11 [(10, .int k), (7, .int n), (11, .long e), (8, .long t), (0, .ref 68), (1, .long f), (3, .long s), (5, .int v), (6, .int ad)] [] M (fun r M' => r = none ∧ ∃ (n : Int32) (b92 b94 : Nat → Int64) (b93 b95 : Nat → Int32), wS b92 n.toInt ∧ n.toInt ≤ (q.1 29).toInt + 2 ∧ (∀ i : Int, 0 ≤ i → i < n.toInt → rB b92 i = f.toInt ∨ rB b92 i = f.toInt + s.toInt ∨ ∃ k : Int, 0 ≤ k ∧ k < (q.1 29).toInt ∧ rB b92 i = rB (q.2.2.2 92) k ∧ (¬ ad.toInt = 0 ∨ ¬ (f.toInt < rB (q.2.2.2 92) k ∧ rB (q.2.2.2 92) k < f.toInt + s.toInt))) ∧ Rm X (sA (sA (sB (sB (sF q 29 n) 92 b92) 94 b94) 93 b93) 95 b95) M')) := by
    intro nn
    induction nn using Nat.strongRecOn with
    | ind nn IH =>
      refine ⟨?_, ?_⟩
      · skip
        intro k n e b94 b95 M hM k0 k1 m0 m2 m3 m4 m1 hv hx hms
        refine hs (f := dm_ild 13 10) rfl rfl ?_
        refine hs (f := dm_ald 14 0) rfl rfl ?_
        refine r_geti (q.1 29) rfl hM rfl rfl ?_
        refine g_ic_ge (n := 20) (tt := 187) rfl (fun h3 => ?_) (fun h3 => ?_)
        · skip
          have h3 : k.toInt ≥ (q.1 29).toInt := h3
          refine hs (f := dm_ald 188 0) rfl rfl ?_
          refine hs (f := dm_ild 190 7) rfl rfl ?_
          rw [if_neg (show ¬ k.toInt < (q.1 29).toInt by omega)] at hx
          refine r_inv rfl hM rfl (as := [.ref 68, .int n]) rfl (Nat.le_of_ble_eq_true rfl) (hT_mono (by decide) (r_149 hM n (by omega) (by omega)) (fun r1 M4 w => ?_))
          obtain ⟨rfl, b1, b2, hb, hM4⟩ := w
          replace hM4 := rm_to (q' := (sA (sA (sB (sB (sF q 29 n) 92 b1) 94 b94) 93 b2) 95 b95)) hM4 (Eq.trans (congrArg (fun z => sA z 93 b2) (Eq.trans (congrArg (fun z => sB z 92 b1) (show sF (sA (sB q 94 b94) 95 b95) 29 n = (sA (sB (sF q 29 n) 94 b94) 95 b95) from (congrArg (fun z => (sA (sB z 94 b94) 95 b95)) (show sF q 29 n = (sF q 29 n) from rfl)))) (show sB (sA (sB (sF q 29 n) 94 b94) 95 b95) 92 b1 = (sA (sB (sB (sF q 29 n) 92 b1) 94 b94) 95 b95) from (congrArg (fun z => (sA z 95 b95)) (show sB (sB (sF q 29 n) 94 b94) 92 b1 = (sB (sB (sF q 29 n) 92 b1) 94 b94) from Eq.trans (show sB (sB (sF q 29 n) 94 b94) 92 b1 = sB (sB (sF q 29 n) 92 b1) 94 b94 from sB_cm (by decide)) (congrArg (fun z => sB z 94 b94) (show sB (sF q 29 n) 92 b1 = (sB (sF q 29 n) 92 b1) from rfl))))))) (show sA (sA (sB (sB (sF q 29 n) 92 b1) 94 b94) 95 b95) 93 b2 = (sA (sA (sB (sB (sF q 29 n) 92 b1) 94 b94) 93 b2) 95 b95) from (show sA (sA (sB (sB (sF q 29 n) 92 b1) 94 b94) 95 b95) 93 b2 = (sA (sA (sB (sB (sF q 29 n) 92 b1) 94 b94) 93 b2) 95 b95) from Eq.trans (show sA (sA (sB (sB (sF q 29 n) 92 b1) 94 b94) 95 b95) 93 b2 = sA (sA (sB (sB (sF q 29 n) 92 b1) 94 b94) 93 b2) 95 b95 from sA_cm (by decide)) (congrArg (fun z => sA z 95 b95) (show sA (sB (sB (sF q 29 n) 92 b1) 94 b94) 93 b2 = (sA (sB (sB (sF q 29 n) 92 b1) 94 b94) 93 b2) from rfl)))))
          exact hr (f := dm_vret) rfl rfl (⟨rfl, n, b1, b94, b2, b95, xI_wS hx (by omega) (fun i i0 i1 => (hb i i0 i1).1), by omega, fun i i0 i1 => by
                  have z := (hx.2.2 i i0 i1).2
                  have z2 : rB b1 i = rB b94 i := by unfold rB; rw [(hb i i0 i1).1]; rfl
                  rw [z2, ← ht]; exact z, hM4⟩)
        · skip
          have h3 : k.toInt < (q.1 29).toInt := h3
          refine hs (f := dm_ald 21 0) rfl rfl ?_
          refine hs (f := dm_ild 23 10) rfl rfl ?_
          refine r_inv rfl hM rfl (as := [.ref 68, .int k]) rfl (Nat.le_of_ble_eq_true rfl) (hT_mono (by decide) (r_144 hM k (show 1 ≤ (q.1 29).toInt ∧ (q.1 29).toInt ≤ 24000 from ⟨hn0, by omega⟩) (by omega) (show k.toInt < (q.1 29).toInt by omega)) (fun r1 M6 w => ?_))
          obtain ⟨u5, rfl, rfl, u50, u51⟩ := w
          have u50 : k.toInt + 1 < (q.1 29).toInt → u5.toInt = rB (q.2.2.2 92) (k.toInt + 1) := u50
          have u51 : ¬ k.toInt + 1 < (q.1 29).toInt → u5.toInt = 1152921504606846976 := u51
          rw [if_pos (show k.toInt < (q.1 29).toInt by omega)] at m3 m4 hv hx
          have wkk : rB (q.2.2.2 92) k.toInt < u5.toInt := by
            by_cases q1 : k.toInt + 1 < (q.1 29).toInt
            · rw [u50 q1]; exact hS.2.2.1 k.toInt k0 q1
            · rw [u51 q1]; exact hS.2.2.2 k.toInt k0 (by omega)
          have wk0 := wS_nn hS k0 (show k.toInt < (q.1 29).toInt by omega)
          have wkz : k.toInt = 0 → rB (q.2.2.2 92) k.toInt = 0 := fun q1 => by rw [q1]; exact h00
          have wky : 0 < k.toInt → 0 < rB (q.2.2.2 92) k.toInt := fun q1 => by have := wS_lt2 hS (show (0 : Int) ≤ 0 by omega) q1 (by omega); omega
          have hE1 : (if k.toInt + 1 < (q.1 29).toInt then rB (q.2.2.2 92) (k.toInt + 1) else 1152921504606846976) = u5.toInt := by
            split
            · rename_i q1; exact (u50 q1).symm
            · rename_i q1; exact (u51 q1).symm
          have wka : ∃ i : Int, 0 ≤ i ∧ i < (q.1 29).toInt ∧ rB (q.2.2.2 92) k.toInt = rB (q.2.2.2 92) i := ⟨k.toInt, k0, by omega, rfl⟩
          refine hs (f := dm_lst 28 11) (lv' := [(11, .long u5), (10, .int k), (8, .long t), (7, .int n), (0, .ref 68), (1, .long f), (3, .long s), (5, .int v), (6, .int ad)]) rfl rfl ?_
          have j181 : ∀ (n : Int32) (b94 : Nat → Int64) (b95 : Nat → Int32) (M : dm_Mem), Rm X (sA (sB q 94 b94) 95 b95) M → (1 ≤ n.toInt) → (n.toInt ≤ k.toInt + 3) → (u5.toInt ≤ t.toInt → n.toInt ≤ k.toInt + 2) → (u5.toInt ≤ f.toInt → n.toInt ≤ k.toInt + 1) → (ad.toInt = 0 → f.toInt < u5.toInt → u5.toInt < t.toInt → rA b95 (n.toInt - 1) = v.toInt) → (xI (q.2.2.2 92) (q.1 29).toInt f.toInt t.toInt (¬ ad.toInt = 0) b94 n.toInt u5.toInt) → hG 1 cd_150 181 [(7, .int n), (11, .long u5), (10, .int k), (8, .long t), (0, .ref 68), (1, .long f), (3, .long s), (5, .int v), (6, .int ad)] [] M (fun r M' => r = none ∧ ∃ (n : Int32) (b92 b94 : Nat → Int64) (b93 b95 : Nat → Int32), wS b92 n.toInt ∧ n.toInt ≤ (q.1 29).toInt + 2 ∧ (∀ i : Int, 0 ≤ i → i < n.toInt → rB b92 i = f.toInt ∨ rB b92 i = f.toInt + s.toInt ∨ ∃ k : Int, 0 ≤ k ∧ k < (q.1 29).toInt ∧ rB b92 i = rB (q.2.2.2 92) k ∧ (¬ ad.toInt = 0 ∨ ¬ (f.toInt < rB (q.2.2.2 92) k ∧ rB (q.2.2.2 92) k < f.toInt + s.toInt))) ∧ Rm X (sA (sA (sB (sB (sF q 29 n) 92 b92) 94 b94) 93 b93) 95 b95) M') := by
            intro n b94 b95 M hM m0 m2 m3 m4 hv hx
            have e7 : (k + 1).toInt = k.toInt + 1 := by have w := i_addc (x := k) (y := 1) 1 rfl (by omega) (by omega); omega
            refine hs (f := dm_iinc 184 10 1) (lv' := [(10, .int (k + 1)), (7, .int n), (11, .long u5), (8, .long t), (0, .ref 68), (1, .long f), (3, .long s), (5, .int v), (6, .int ad)]) rfl rfl ?_
            refine hs (f := dm_goto 11) rfl rfl ?_
            exact (IH _ (by omega)).2 (k + 1) n u5 b94 b95 _ hM (by omega) (by omega) (by omega) (by omega) (by rw [e7, hE1]; omega) (by rw [e7, hE1]; omega) (by omega) (by rw [e7, hE1]; exact hv) (by rw [e7, hE1]; exact xI_up hx (by omega)) rfl
          have j133n := sq_133n (X := X) (v := v) (ad := ad) hS hn hf hs0 hfs hn0 h00 ht k0 (by omega) wkk wk0 wkz wky wka j181
          have j133s := sq_133s (X := X) (v := v) (ad := ad) hS hn hf hs0 hfs hn0 h00 ht k0 (by omega) wkk wk0 wkz wky wka j181
          have j62n := sq_62n (X := X) (v := v) (ad := ad) hS hn hf hs0 hfs hn0 h00 ht k0 (by omega) wkk wk0 wkz wky wka j133n j133s
          have j62s := sq_62s (X := X) (v := v) (ad := ad) hS hn hf hs0 hfs hn0 h00 ht k0 (by omega) wkk wk0 wkz wky wka j133n j133s
          refine hs (f := dm_ald 29 0) rfl rfl ?_
          refine r_geta (c := 89) rfl hM rfl ?_
          refine hs (f := dm_ild 34 10) rfl rfl ?_
          refine r_lald (L := 24000) (i := k) ((q.2.2.2 92) k.toInt.toNat) rfl hM rfl (by omega) rfl ?_
          generalize g9 : (q.2.2.2 92) k.toInt.toNat = v8
          have x10 : v8.toInt = rB (q.2.2.2 92) k.toInt := rB_of (i := k) g9 rfl
          refine hs (f := dm_lld 36 1) rfl rfl ?_
          refine g_lc_ge (x := v8) (y := f) (m := 37) (n := 40) (tt := 62) rfl rfl (fun h11 => ?_) (fun h11 => ?_)
          · skip
            have h11 : v8.toInt ≥ f.toInt := h11
            exact j62n.1 n b94 b95 _ hM (by omega) (by omega) (by omega) (by omega) (by omega) (by omega) (fun z1 z2 z3 => by first | exact hv z1 (by omega) (by omega) | (exfalso; omega)) (xI_up hx (by first | omega | (repeat' split) <;> omega))
          · skip
            have h11 : v8.toInt < f.toInt := h11
            refine hs (f := dm_ald 41 0) rfl rfl ?_
            refine hs (f := dm_ild 43 7) rfl rfl ?_
            refine hs (f := dm_ald 44 0) rfl rfl ?_
            refine r_geta (c := 89) rfl hM rfl ?_
            refine hs (f := dm_ild 49 10) rfl rfl ?_
            refine r_lald (L := 24000) (i := k) ((q.2.2.2 92) k.toInt.toNat) rfl hM rfl (by omega) rfl ?_
            generalize g13 : (q.2.2.2 92) k.toInt.toNat = v12
            have x14 : v12.toInt = rB (q.2.2.2 92) k.toInt := rB_of (i := k) g13 rfl
            refine hs (f := dm_ald 51 0) rfl rfl ?_
            refine r_geta (c := 90) rfl hM rfl ?_
            refine hs (f := dm_ild 56 10) rfl rfl ?_
            refine r_iald (L := 24000) (i := k) ((q.2.2.1 93) k.toInt.toNat) rfl hM rfl (by omega) rfl ?_
            generalize g16 : (q.2.2.1 93) k.toInt.toNat = v15
            have x17 : v15.toInt = rA (q.2.2.1 93) k.toInt := rA_of (i := k) g16 rfl
            refine r_inv rfl hM rfl (as := [.ref 68, .int n, .long v12, .int v15]) rfl (Nat.le_of_ble_eq_true rfl) (hT_mono (by decide) (r_148 hM n v12 v15 (by omega) (by omega)) (fun r1 M19 w => ?_))
            rcases w with ⟨rfl, rfl, un, uv⟩ | ⟨rfl, uv, hM19⟩
            · skip
              have uv : rA b95 (n.toInt - 1) = v15.toInt := uv
              have hx20 : xI (q.2.2.2 92) (q.1 29).toInt f.toInt t.toInt (¬ ad.toInt = 0) b94 n.toInt (if rB (q.2.2.2 92) k.toInt < f.toInt then rB (q.2.2.2 92) k.toInt + 1 else rB (q.2.2.2 92) k.toInt) := xI_up hx (by first | omega | (repeat' split) <;> omega)
              refine hs (f := dm_ist 62 7) (lv' := [(7, .int n), (11, .long u5), (10, .int k), (8, .long t), (0, .ref 68), (1, .long f), (3, .long s), (5, .int v), (6, .int ad)]) rfl rfl ?_
              exact j62s n b94 b95 _ hM (by omega) (by omega) (by omega) (by omega) (by omega) (by omega) (fun z1 z2 z3 => by first | omega | (exfalso; omega)) hx20
            · skip
              have uv : 0 < n.toInt → ¬ rA b95 (n.toInt - 1) = v15.toInt := uv
              replace hM19 := rm_to (q' := (sA (sB q 94 (vp_updL b94 n.toInt.toNat v12)) 95 (upd b95 n.toInt.toNat v15))) hM19 (Eq.trans (congrArg (fun z => sA z 95 (upd b95 n.toInt.toNat v15)) (show sB (sA (sB q 94 b94) 95 b95) 94 (vp_updL b94 n.toInt.toNat v12) = (sA (sB q 94 (vp_updL b94 n.toInt.toNat v12)) 95 b95) from (congrArg (fun z => (sA z 95 b95)) (show sB (sB q 94 b94) 94 (vp_updL b94 n.toInt.toNat v12) = (sB q 94 (vp_updL b94 n.toInt.toNat v12)) from sB_sB)))) (show sA (sA (sB q 94 (vp_updL b94 n.toInt.toNat v12)) 95 b95) 95 (upd b95 n.toInt.toNat v15) = (sA (sB q 94 (vp_updL b94 n.toInt.toNat v12)) 95 (upd b95 n.toInt.toNat v15)) from (show sA (sA (sB q 94 (vp_updL b94 n.toInt.toNat v12)) 95 b95) 95 (upd b95 n.toInt.toNat v15) = (sA (sB q 94 (vp_updL b94 n.toInt.toNat v12)) 95 (upd b95 n.toInt.toNat v15)) from sA_sA)))
              have e21 : (n + 1).toInt = n.toInt + 1 := i_addc 1 rfl (by omega) (by omega)
              have ul : rA (upd b95 n.toInt.toNat v15) ((n + 1).toInt - 1) = v15.toInt := by rw [e21]; exact rA_last (by omega)
              have hx20 : xI (q.2.2.2 92) (q.1 29).toInt f.toInt t.toInt (¬ ad.toInt = 0) (vp_updL b94 n.toInt.toNat v12) (n + 1).toInt (if rB (q.2.2.2 92) k.toInt < f.toInt then rB (q.2.2.2 92) k.toInt + 1 else rB (q.2.2.2 92) k.toInt) := by
                rw [e21]
                refine xI_lay hx (by omega) (by first | omega | (repeat' split) <;> omega) (by first | omega | (repeat' split) <;> omega) (by omega) ?_
                obtain ⟨wi, wi0, wi1, wi2⟩ := wka
                first
                | exact Or.inl (by omega)
                | exact Or.inr (Or.inl (by omega))
                | exact Or.inr (Or.inr ⟨wi, wi0, wi1, by omega, Or.inr (by omega)⟩)
                | exact Or.inr (Or.inr ⟨wi, wi0, wi1, by omega, Or.inl (by omega)⟩)
                | (by_cases z1 : rB (q.2.2.2 92) k.toInt = f.toInt
                   · exact Or.inl (by omega)
                   · exact absurd (hv (by omega) (by omega) (by omega)) (uv (by omega)))
              refine hs (f := dm_ist 62 7) (lv' := [(7, .int (n + 1)), (11, .long u5), (10, .int k), (8, .long t), (0, .ref 68), (1, .long f), (3, .long s), (5, .int v), (6, .int ad)]) rfl rfl ?_
              exact j62s (n + 1) (vp_updL b94 n.toInt.toNat v12) (upd b95 n.toInt.toNat v15) _ hM19 (by omega) (by omega) (by omega) (by omega) (by omega) (by omega) (fun z1 z2 z3 => by first | exact ul | (exfalso; omega) | omega) hx20
      · skip
        intro k n e b94 b95 M hM k0 k1 m0 m2 m3 m4 m1 hv hx hms
        refine hs (f := dm_ild 13 10) rfl rfl ?_
        refine hs (f := dm_ald 14 0) rfl rfl ?_
        refine r_geti (q.1 29) rfl hM rfl rfl ?_
        refine g_ic_ge (n := 20) (tt := 187) rfl (fun h22 => ?_) (fun h22 => ?_)
        · skip
          have h22 : k.toInt ≥ (q.1 29).toInt := h22
          refine hs (f := dm_ald 188 0) rfl rfl ?_
          refine hs (f := dm_ild 190 7) rfl rfl ?_
          rw [if_neg (show ¬ k.toInt < (q.1 29).toInt by omega)] at hx
          refine r_inv rfl hM rfl (as := [.ref 68, .int n]) rfl (Nat.le_of_ble_eq_true rfl) (hT_mono (by decide) (r_149 hM n (by omega) (by omega)) (fun r1 M23 w => ?_))
          obtain ⟨rfl, b1, b2, hb, hM23⟩ := w
          replace hM23 := rm_to (q' := (sA (sA (sB (sB (sF q 29 n) 92 b1) 94 b94) 93 b2) 95 b95)) hM23 (Eq.trans (congrArg (fun z => sA z 93 b2) (Eq.trans (congrArg (fun z => sB z 92 b1) (show sF (sA (sB q 94 b94) 95 b95) 29 n = (sA (sB (sF q 29 n) 94 b94) 95 b95) from (congrArg (fun z => (sA (sB z 94 b94) 95 b95)) (show sF q 29 n = (sF q 29 n) from rfl)))) (show sB (sA (sB (sF q 29 n) 94 b94) 95 b95) 92 b1 = (sA (sB (sB (sF q 29 n) 92 b1) 94 b94) 95 b95) from (congrArg (fun z => (sA z 95 b95)) (show sB (sB (sF q 29 n) 94 b94) 92 b1 = (sB (sB (sF q 29 n) 92 b1) 94 b94) from Eq.trans (show sB (sB (sF q 29 n) 94 b94) 92 b1 = sB (sB (sF q 29 n) 92 b1) 94 b94 from sB_cm (by decide)) (congrArg (fun z => sB z 94 b94) (show sB (sF q 29 n) 92 b1 = (sB (sF q 29 n) 92 b1) from rfl))))))) (show sA (sA (sB (sB (sF q 29 n) 92 b1) 94 b94) 95 b95) 93 b2 = (sA (sA (sB (sB (sF q 29 n) 92 b1) 94 b94) 93 b2) 95 b95) from (show sA (sA (sB (sB (sF q 29 n) 92 b1) 94 b94) 95 b95) 93 b2 = (sA (sA (sB (sB (sF q 29 n) 92 b1) 94 b94) 93 b2) 95 b95) from Eq.trans (show sA (sA (sB (sB (sF q 29 n) 92 b1) 94 b94) 95 b95) 93 b2 = sA (sA (sB (sB (sF q 29 n) 92 b1) 94 b94) 93 b2) 95 b95 from sA_cm (by decide)) (congrArg (fun z => sA z 95 b95) (show sA (sB (sB (sF q 29 n) 92 b1) 94 b94) 93 b2 = (sA (sB (sB (sF q 29 n) 92 b1) 94 b94) 93 b2) from rfl)))))
          exact hr (f := dm_vret) rfl rfl (⟨rfl, n, b1, b94, b2, b95, xI_wS hx (by omega) (fun i i0 i1 => (hb i i0 i1).1), by omega, fun i i0 i1 => by
                  have z := (hx.2.2 i i0 i1).2
                  have z2 : rB b1 i = rB b94 i := by unfold rB; rw [(hb i i0 i1).1]; rfl
                  rw [z2, ← ht]; exact z, hM23⟩)
        · skip
          have h22 : k.toInt < (q.1 29).toInt := h22
          refine hs (f := dm_ald 21 0) rfl rfl ?_
          refine hs (f := dm_ild 23 10) rfl rfl ?_
          refine r_inv rfl hM rfl (as := [.ref 68, .int k]) rfl (Nat.le_of_ble_eq_true rfl) (hT_mono (by decide) (r_144 hM k (show 1 ≤ (q.1 29).toInt ∧ (q.1 29).toInt ≤ 24000 from ⟨hn0, by omega⟩) (by omega) (show k.toInt < (q.1 29).toInt by omega)) (fun r1 M25 w => ?_))
          obtain ⟨u24, rfl, rfl, u240, u241⟩ := w
          have u240 : k.toInt + 1 < (q.1 29).toInt → u24.toInt = rB (q.2.2.2 92) (k.toInt + 1) := u240
          have u241 : ¬ k.toInt + 1 < (q.1 29).toInt → u24.toInt = 1152921504606846976 := u241
          rw [if_pos (show k.toInt < (q.1 29).toInt by omega)] at m3 m4 hv hx
          have wkk : rB (q.2.2.2 92) k.toInt < u24.toInt := by
            by_cases q1 : k.toInt + 1 < (q.1 29).toInt
            · rw [u240 q1]; exact hS.2.2.1 k.toInt k0 q1
            · rw [u241 q1]; exact hS.2.2.2 k.toInt k0 (by omega)
          have wk0 := wS_nn hS k0 (show k.toInt < (q.1 29).toInt by omega)
          have wkz : k.toInt = 0 → rB (q.2.2.2 92) k.toInt = 0 := fun q1 => by rw [q1]; exact h00
          have wky : 0 < k.toInt → 0 < rB (q.2.2.2 92) k.toInt := fun q1 => by have := wS_lt2 hS (show (0 : Int) ≤ 0 by omega) q1 (by omega); omega
          have hE1 : (if k.toInt + 1 < (q.1 29).toInt then rB (q.2.2.2 92) (k.toInt + 1) else 1152921504606846976) = u24.toInt := by
            split
            · rename_i q1; exact (u240 q1).symm
            · rename_i q1; exact (u241 q1).symm
          have wka : ∃ i : Int, 0 ≤ i ∧ i < (q.1 29).toInt ∧ rB (q.2.2.2 92) k.toInt = rB (q.2.2.2 92) i := ⟨k.toInt, k0, by omega, rfl⟩
          refine hs (f := dm_lst 28 11) (lv' := [(11, .long u24), (10, .int k), (7, .int n), (8, .long t), (0, .ref 68), (1, .long f), (3, .long s), (5, .int v), (6, .int ad)]) rfl rfl ?_
          have j181 : ∀ (n : Int32) (b94 : Nat → Int64) (b95 : Nat → Int32) (M : dm_Mem), Rm X (sA (sB q 94 b94) 95 b95) M → (1 ≤ n.toInt) → (n.toInt ≤ k.toInt + 3) → (u24.toInt ≤ t.toInt → n.toInt ≤ k.toInt + 2) → (u24.toInt ≤ f.toInt → n.toInt ≤ k.toInt + 1) → (ad.toInt = 0 → f.toInt < u24.toInt → u24.toInt < t.toInt → rA b95 (n.toInt - 1) = v.toInt) → (xI (q.2.2.2 92) (q.1 29).toInt f.toInt t.toInt (¬ ad.toInt = 0) b94 n.toInt u24.toInt) → hG 1 cd_150 181 [(7, .int n), (11, .long u24), (10, .int k), (8, .long t), (0, .ref 68), (1, .long f), (3, .long s), (5, .int v), (6, .int ad)] [] M (fun r M' => r = none ∧ ∃ (n : Int32) (b92 b94 : Nat → Int64) (b93 b95 : Nat → Int32), wS b92 n.toInt ∧ n.toInt ≤ (q.1 29).toInt + 2 ∧ (∀ i : Int, 0 ≤ i → i < n.toInt → rB b92 i = f.toInt ∨ rB b92 i = f.toInt + s.toInt ∨ ∃ k : Int, 0 ≤ k ∧ k < (q.1 29).toInt ∧ rB b92 i = rB (q.2.2.2 92) k ∧ (¬ ad.toInt = 0 ∨ ¬ (f.toInt < rB (q.2.2.2 92) k ∧ rB (q.2.2.2 92) k < f.toInt + s.toInt))) ∧ Rm X (sA (sA (sB (sB (sF q 29 n) 92 b92) 94 b94) 93 b93) 95 b95) M') := by
            intro n b94 b95 M hM m0 m2 m3 m4 hv hx
            have e26 : (k + 1).toInt = k.toInt + 1 := by have w := i_addc (x := k) (y := 1) 1 rfl (by omega) (by omega); omega
            refine hs (f := dm_iinc 184 10 1) (lv' := [(10, .int (k + 1)), (7, .int n), (11, .long u24), (8, .long t), (0, .ref 68), (1, .long f), (3, .long s), (5, .int v), (6, .int ad)]) rfl rfl ?_
            refine hs (f := dm_goto 11) rfl rfl ?_
            exact (IH _ (by omega)).2 (k + 1) n u24 b94 b95 _ hM (by omega) (by omega) (by omega) (by omega) (by rw [e26, hE1]; omega) (by rw [e26, hE1]; omega) (by omega) (by rw [e26, hE1]; exact hv) (by rw [e26, hE1]; exact xI_up hx (by omega)) rfl
          have j133n := sq_133n (X := X) (v := v) (ad := ad) hS hn hf hs0 hfs hn0 h00 ht k0 (by omega) wkk wk0 wkz wky wka j181
          have j133s := sq_133s (X := X) (v := v) (ad := ad) hS hn hf hs0 hfs hn0 h00 ht k0 (by omega) wkk wk0 wkz wky wka j181
          have j62n := sq_62n (X := X) (v := v) (ad := ad) hS hn hf hs0 hfs hn0 h00 ht k0 (by omega) wkk wk0 wkz wky wka j133n j133s
          have j62s := sq_62s (X := X) (v := v) (ad := ad) hS hn hf hs0 hfs hn0 h00 ht k0 (by omega) wkk wk0 wkz wky wka j133n j133s
          refine hs (f := dm_ald 29 0) rfl rfl ?_
          refine r_geta (c := 89) rfl hM rfl ?_
          refine hs (f := dm_ild 34 10) rfl rfl ?_
          refine r_lald (L := 24000) (i := k) ((q.2.2.2 92) k.toInt.toNat) rfl hM rfl (by omega) rfl ?_
          generalize g28 : (q.2.2.2 92) k.toInt.toNat = v27
          have x29 : v27.toInt = rB (q.2.2.2 92) k.toInt := rB_of (i := k) g28 rfl
          refine hs (f := dm_lld 36 1) rfl rfl ?_
          refine g_lc_ge (x := v27) (y := f) (m := 37) (n := 40) (tt := 62) rfl rfl (fun h30 => ?_) (fun h30 => ?_)
          · skip
            have h30 : v27.toInt ≥ f.toInt := h30
            exact j62n.2 n b94 b95 _ hM (by omega) (by omega) (by omega) (by omega) (by omega) (by omega) (fun z1 z2 z3 => by first | exact hv z1 (by omega) (by omega) | (exfalso; omega)) (xI_up hx (by first | omega | (repeat' split) <;> omega))
          · skip
            have h30 : v27.toInt < f.toInt := h30
            refine hs (f := dm_ald 41 0) rfl rfl ?_
            refine hs (f := dm_ild 43 7) rfl rfl ?_
            refine hs (f := dm_ald 44 0) rfl rfl ?_
            refine r_geta (c := 89) rfl hM rfl ?_
            refine hs (f := dm_ild 49 10) rfl rfl ?_
            refine r_lald (L := 24000) (i := k) ((q.2.2.2 92) k.toInt.toNat) rfl hM rfl (by omega) rfl ?_
            generalize g32 : (q.2.2.2 92) k.toInt.toNat = v31
            have x33 : v31.toInt = rB (q.2.2.2 92) k.toInt := rB_of (i := k) g32 rfl
            refine hs (f := dm_ald 51 0) rfl rfl ?_
            refine r_geta (c := 90) rfl hM rfl ?_
            refine hs (f := dm_ild 56 10) rfl rfl ?_
            refine r_iald (L := 24000) (i := k) ((q.2.2.1 93) k.toInt.toNat) rfl hM rfl (by omega) rfl ?_
            generalize g35 : (q.2.2.1 93) k.toInt.toNat = v34
            have x36 : v34.toInt = rA (q.2.2.1 93) k.toInt := rA_of (i := k) g35 rfl
            refine r_inv rfl hM rfl (as := [.ref 68, .int n, .long v31, .int v34]) rfl (Nat.le_of_ble_eq_true rfl) (hT_mono (by decide) (r_148 hM n v31 v34 (by omega) (by omega)) (fun r1 M38 w => ?_))
            rcases w with ⟨rfl, rfl, un, uv⟩ | ⟨rfl, uv, hM38⟩
            · skip
              have uv : rA b95 (n.toInt - 1) = v34.toInt := uv
              have hx39 : xI (q.2.2.2 92) (q.1 29).toInt f.toInt t.toInt (¬ ad.toInt = 0) b94 n.toInt (if rB (q.2.2.2 92) k.toInt < f.toInt then rB (q.2.2.2 92) k.toInt + 1 else rB (q.2.2.2 92) k.toInt) := xI_up hx (by first | omega | (repeat' split) <;> omega)
              refine hs (f := dm_ist 62 7) (lv' := [(7, .int n), (11, .long u24), (10, .int k), (8, .long t), (0, .ref 68), (1, .long f), (3, .long s), (5, .int v), (6, .int ad)]) rfl rfl ?_
              exact j62s n b94 b95 _ hM (by omega) (by omega) (by omega) (by omega) (by omega) (by omega) (fun z1 z2 z3 => by first | omega | (exfalso; omega)) hx39
            · skip
              have uv : 0 < n.toInt → ¬ rA b95 (n.toInt - 1) = v34.toInt := uv
              replace hM38 := rm_to (q' := (sA (sB q 94 (vp_updL b94 n.toInt.toNat v31)) 95 (upd b95 n.toInt.toNat v34))) hM38 (Eq.trans (congrArg (fun z => sA z 95 (upd b95 n.toInt.toNat v34)) (show sB (sA (sB q 94 b94) 95 b95) 94 (vp_updL b94 n.toInt.toNat v31) = (sA (sB q 94 (vp_updL b94 n.toInt.toNat v31)) 95 b95) from (congrArg (fun z => (sA z 95 b95)) (show sB (sB q 94 b94) 94 (vp_updL b94 n.toInt.toNat v31) = (sB q 94 (vp_updL b94 n.toInt.toNat v31)) from sB_sB)))) (show sA (sA (sB q 94 (vp_updL b94 n.toInt.toNat v31)) 95 b95) 95 (upd b95 n.toInt.toNat v34) = (sA (sB q 94 (vp_updL b94 n.toInt.toNat v31)) 95 (upd b95 n.toInt.toNat v34)) from (show sA (sA (sB q 94 (vp_updL b94 n.toInt.toNat v31)) 95 b95) 95 (upd b95 n.toInt.toNat v34) = (sA (sB q 94 (vp_updL b94 n.toInt.toNat v31)) 95 (upd b95 n.toInt.toNat v34)) from sA_sA)))
              have e40 : (n + 1).toInt = n.toInt + 1 := i_addc 1 rfl (by omega) (by omega)
              have ul : rA (upd b95 n.toInt.toNat v34) ((n + 1).toInt - 1) = v34.toInt := by rw [e40]; exact rA_last (by omega)
              have hx39 : xI (q.2.2.2 92) (q.1 29).toInt f.toInt t.toInt (¬ ad.toInt = 0) (vp_updL b94 n.toInt.toNat v31) (n + 1).toInt (if rB (q.2.2.2 92) k.toInt < f.toInt then rB (q.2.2.2 92) k.toInt + 1 else rB (q.2.2.2 92) k.toInt) := by
                rw [e40]
                refine xI_lay hx (by omega) (by first | omega | (repeat' split) <;> omega) (by first | omega | (repeat' split) <;> omega) (by omega) ?_
                obtain ⟨wi, wi0, wi1, wi2⟩ := wka
                first
                | exact Or.inl (by omega)
                | exact Or.inr (Or.inl (by omega))
                | exact Or.inr (Or.inr ⟨wi, wi0, wi1, by omega, Or.inr (by omega)⟩)
                | exact Or.inr (Or.inr ⟨wi, wi0, wi1, by omega, Or.inl (by omega)⟩)
                | (by_cases z1 : rB (q.2.2.2 92) k.toInt = f.toInt
                   · exact Or.inl (by omega)
                   · exact absurd (hv (by omega) (by omega) (by omega)) (uv (by omega)))
              refine hs (f := dm_ist 62 7) (lv' := [(7, .int (n + 1)), (11, .long u24), (10, .int k), (8, .long t), (0, .ref 68), (1, .long f), (3, .long s), (5, .int v), (6, .int ad)]) rfl rfl ?_
              exact j62s (n + 1) (vp_updL b94 n.toInt.toNat v31) (upd b95 n.toInt.toNat v34) _ hM38 (by omega) (by omega) (by omega) (by omega) (by omega) (by omega) (fun z1 z2 z3 => by first | exact ul | (exfalso; omega) | omega) hx39
  refine hs (f := dm_push 9 (.int 0)) rfl rfl ?_
  refine hs (f := dm_ist 11 10) (lv' := [(10, .int 0), (8, .long t), (7, .int 0), (0, .ref 68), (1, .long f), (3, .long s), (5, .int v), (6, .int ad)]) rfl rfl ?_
  replace hM := rm_to (q' := (sB q 94 (q.2.2.2 94))) hM (Eq.trans (sB_id (q := q) (k := 94) (v := (q.2.2.2 94)) rfl) (show sB q 94 (q.2.2.2 94) = (sB q 94 (q.2.2.2 94)) from (show sB q 94 (q.2.2.2 94) = (sB q 94 (q.2.2.2 94)) from rfl)))
  replace hM := rm_to (q' := (sA (sB q 94 (q.2.2.2 94)) 95 (q.2.2.1 95))) hM (Eq.trans (sA_id (q := (sB q 94 (q.2.2.2 94))) (k := 95) (v := (q.2.2.1 95)) rfl) (show sA (sB q 94 (q.2.2.2 94)) 95 (q.2.2.1 95) = (sA (sB q 94 (q.2.2.2 94)) 95 (q.2.2.1 95)) from (show sA (sB q 94 (q.2.2.2 94)) 95 (q.2.2.1 95) = (sA (sB q 94 (q.2.2.2 94)) 95 (q.2.2.1 95)) from rfl)))
  exact (j11 _).1 (0 : Int32) (0 : Int32) 0 (q.2.2.2 94) (q.2.2.1 95) _ hM (by decide) (by show (0 : Int) ≤ _; omega) (by decide) (by show (0 : Int) ≤ 0 + 2; omega) (fun _ => by show (0 : Int) ≤ _; decide) (fun _ => by show (0 : Int) ≤ _; decide) (fun z => absurd z (by decide)) (fun _ z => absurd z (by show ¬ f.toInt < if (0 : Int) < (q.1 29).toInt then rB (q.2.2.2 92) 0 else _; rw [if_pos (by omega), h00]; omega)) xI_nil rfl
