/-! the reference's small methods -/
theorem r_136 {X : dm_Mem} {q : rS} {M : dm_Mem} (hM : Rm X q M) (s : Int32) : hT 1 136 [.ref 68, .int s] M (fun r M' => M' = M ∧ ((r = some (.int 1) ∧ 0 ≤ s.toInt ∧ s.toInt < (q.1 15).toInt) ∨ (r = some (.int 0) ∧ ¬ (0 ≤ s.toInt ∧ s.toInt < (q.1 15).toInt)))) := by
  refine hx (t := cd_136) rfl (Nat.le_of_ble_eq_true rfl) (lv := [(0, .ref 68), (1, .int s)]) rfl ?_
  refine hs (f := dm_ild 1 1) rfl rfl ?_
  refine g_if_lt (n := 4) (tt := 16) rfl (fun h1 => ?_) (fun h1 => ?_)
  · skip
    have h1 : s.toInt < 0 := h1
    refine hs (f := dm_push 17 (.int 0)) rfl rfl ?_
    exact h_retB rfl isB_0 (⟨rfl, by first | exact Or.inl ⟨rfl, by omega, by omega⟩ | exact Or.inr ⟨rfl, by omega⟩⟩)
  · skip
    have h1 : s.toInt ≥ 0 := h1
    refine hs (f := dm_ild 5 1) rfl rfl ?_
    refine hs (f := dm_ald 6 0) rfl rfl ?_
    refine r_geti (q.1 15) rfl hM rfl rfl ?_
    refine g_ic_ge (n := 12) (tt := 16) rfl (fun h2 => ?_) (fun h2 => ?_)
    · skip
      have h2 : s.toInt ≥ (q.1 15).toInt := h2
      refine hs (f := dm_push 17 (.int 0)) rfl rfl ?_
      exact h_retB rfl isB_0 (⟨rfl, by first | exact Or.inl ⟨rfl, by omega, by omega⟩ | exact Or.inr ⟨rfl, by omega⟩⟩)
    · skip
      have h2 : s.toInt < (q.1 15).toInt := h2
      refine hs (f := dm_push 13 (.int 1)) rfl rfl ?_
      refine hs (f := dm_goto 17) rfl rfl ?_
      exact h_retB rfl isB_1 (⟨rfl, by first | exact Or.inl ⟨rfl, by omega, by omega⟩ | exact Or.inr ⟨rfl, by omega⟩⟩)
theorem r_137 {X : dm_Mem} {q : rS} {M : dm_Mem} (hM : Rm X q M) (hm : (q.1 15).toInt ≤ 1000) (s : Int32) : hT 2 137 [.ref 68, .int s] M (fun r M' => M' = M ∧ ((r = some (.int 1) ∧ 0 ≤ s.toInt ∧ s.toInt < (q.1 15).toInt) ∨ (r = some (.int 0) ∧ True))) := by
  refine hx (t := cd_137) rfl (Nat.le_of_ble_eq_true rfl) (lv := [(0, .ref 68), (1, .int s)]) rfl ?_
  refine hs (f := dm_ald 1 0) rfl rfl ?_
  refine hs (f := dm_ild 2 1) rfl rfl ?_
  refine r_inv rfl hM rfl (as := [.ref 68, .int s]) rfl (Nat.le_of_ble_eq_true rfl) (hT_mono (by decide) (r_136 hM s ) (fun r1 M2 w => ?_))
  obtain ⟨rfl, ⟨rfl, u1a, u1b⟩ | ⟨rfl, u1a⟩⟩ := w
  · skip
    refine hs (f := dm_if_eq 8 21) (pc' := 8) rfl rfl ?_
    refine hs (f := dm_ald 9 0) rfl rfl ?_
    refine r_geta (c := 72) rfl hM rfl ?_
    refine hs (f := dm_ild 13 1) rfl rfl ?_
    refine r_zald (L := 1000) (i := s) ((q.2.2.1 75) s.toInt.toNat) rfl hM rfl (by omega) rfl ?_
    refine g_if_eq (n := 17) (tt := 21) rfl (fun h3 => ?_) (fun h3 => ?_)
    · skip
      have h3 : ((q.2.2.1 75) s.toInt.toNat).toInt = 0 := h3
      refine hs (f := dm_push 22 (.int 0)) rfl rfl ?_
      exact h_retB rfl isB_0 (⟨rfl, by first | exact Or.inl ⟨rfl, by omega, by omega⟩ | exact Or.inr ⟨rfl, trivial⟩⟩)
    · skip
      have h3 : ¬ ((q.2.2.1 75) s.toInt.toNat).toInt = 0 := h3
      refine hs (f := dm_push 18 (.int 1)) rfl rfl ?_
      refine hs (f := dm_goto 22) rfl rfl ?_
      exact h_retB rfl isB_1 (⟨rfl, by first | exact Or.inl ⟨rfl, by omega, by omega⟩ | exact Or.inr ⟨rfl, trivial⟩⟩)
  · skip
    refine hs (f := dm_if_eq 8 21) (pc' := 21) rfl rfl ?_
    refine hs (f := dm_push 22 (.int 0)) rfl rfl ?_
    exact h_retB rfl isB_0 (⟨rfl, by first | exact Or.inl ⟨rfl, by omega, by omega⟩ | exact Or.inr ⟨rfl, trivial⟩⟩)
theorem r_138 {X : dm_Mem} {q : rS} {M : dm_Mem} (hM : Rm X q M) (s : Int32) (h0 : 0 ≤ s.toInt) (h1 : s.toInt < 1000) : hT 1 138 [.ref 68, .int s] M (fun r M' => M' = M ∧ ((r = some (.int 1) ∧ rA (q.2.2.1 74) s.toInt < rA (q.2.2.1 74) (s.toInt + 1)) ∨ (r = some (.int 0) ∧ rA (q.2.2.1 74) (s.toInt + 1) ≤ rA (q.2.2.1 74) s.toInt))) := by
  refine hx (t := cd_138) rfl (Nat.le_of_ble_eq_true rfl) (lv := [(0, .ref 68), (1, .int s)]) rfl ?_
  refine hs (f := dm_ald 1 0) rfl rfl ?_
  refine r_geta (c := 71) rfl hM rfl ?_
  refine hs (f := dm_ild 5 1) rfl rfl ?_
  refine hs (f := dm_push 6 (.int 1)) rfl rfl ?_
  have e1 : (s + (1 : Int32)).toInt = s.toInt + 1 := by have w := i_addc (x := s) (y := (1 : Int32)) 1 rfl (by omega) (by omega); omega
  refine hs (f := dm_ii 7 (fun x y => x + y)) (st' := [.int (s + (1 : Int32)), .ref 74]) rfl rfl ?_
  refine r_iald (L := 1001) (i := (s + (1 : Int32))) ((q.2.2.1 74) (s + (1 : Int32)).toInt.toNat) rfl hM rfl (by omega) rfl ?_
  generalize g3 : (q.2.2.1 74) (s + (1 : Int32)).toInt.toNat = v2
  have x4 : v2.toInt = rA (q.2.2.1 74) (s.toInt + 1) := rA_of (i := (s + (1 : Int32))) g3 e1
  refine hs (f := dm_ald 9 0) rfl rfl ?_
  refine r_geta (c := 71) rfl hM rfl ?_
  refine hs (f := dm_ild 13 1) rfl rfl ?_
  refine r_iald (L := 1001) (i := s) ((q.2.2.1 74) s.toInt.toNat) rfl hM rfl (by omega) rfl ?_
  generalize g6 : (q.2.2.1 74) s.toInt.toNat = v5
  have x7 : v5.toInt = rA (q.2.2.1 74) s.toInt := rA_of (i := s) g6 rfl
  refine g_ic_le (n := 17) (tt := 21) rfl (fun h8 => ?_) (fun h8 => ?_)
  · skip
    have h8 : v2.toInt ≤ v5.toInt := h8
    refine hs (f := dm_push 22 (.int 0)) rfl rfl ?_
    exact h_retB rfl isB_0 (⟨rfl, by first | exact Or.inl ⟨rfl, by omega⟩ | exact Or.inr ⟨rfl, by omega⟩⟩)
  · skip
    have h8 : v2.toInt > v5.toInt := h8
    refine hs (f := dm_push 18 (.int 1)) rfl rfl ?_
    refine hs (f := dm_goto 22) rfl rfl ?_
    exact h_retB rfl isB_1 (⟨rfl, by first | exact Or.inl ⟨rfl, by omega⟩ | exact Or.inr ⟨rfl, by omega⟩⟩)
theorem r_139 {X : dm_Mem} {q : rS} {M : dm_Mem} (hM : Rm X q M) (hm : 0 ≤ (q.1 15).toInt ∧ (q.1 15).toInt ≤ 1000) (hn : 0 ≤ (q.1 17).toInt ∧ (q.1 17).toInt ≤ 100000) (a b : Int32) (ha : 0 ≤ a.toInt ∧ a.toInt ≤ 2) (hb : 0 ≤ b.toInt ∧ b.toInt ≤ 100000000) : hT 1 139 [.ref 68, .int a, .int b] M (fun r M' => M' = M ∧ ((r = some (.int 1) ∧ (q.1 15).toInt + a.toInt ≤ 1000 ∧ (q.1 17).toInt + b.toInt ≤ 20000) ∨ (r = some (.int 0) ∧ True))) := by
  refine hx (t := cd_139) rfl (Nat.le_of_ble_eq_true rfl) (lv := [(0, .ref 68), (1, .int a), (2, .int b)]) rfl ?_
  refine hs (f := dm_ald 1 0) rfl rfl ?_
  refine r_geti (q.1 15) rfl hM rfl rfl ?_
  refine hs (f := dm_ild 5 1) rfl rfl ?_
  have e1 : ((q.1 15) + a).toInt = (q.1 15).toInt + a.toInt := by have w := i_add (x := (q.1 15)) (y := a) (by omega) (by omega); omega
  refine hs (f := dm_ii 6 (fun x y => x + y)) (st' := [.int ((q.1 15) + a)]) rfl rfl ?_
  refine hs (f := dm_push 9 (.int 1000)) rfl rfl ?_
  refine g_ic_gt (n := 12) (tt := 28) rfl (fun h2 => ?_) (fun h2 => ?_)
  · skip
    have h2 : ((q.1 15) + a).toInt > 1000 := h2
    refine hs (f := dm_push 29 (.int 0)) rfl rfl ?_
    exact h_retB rfl isB_0 (⟨rfl, by first | exact Or.inl ⟨rfl, by omega, by omega⟩ | exact Or.inr ⟨rfl, trivial⟩⟩)
  · skip
    have h2 : ((q.1 15) + a).toInt ≤ 1000 := h2
    refine hs (f := dm_ald 13 0) rfl rfl ?_
    refine r_geti (q.1 17) rfl hM rfl rfl ?_
    refine hs (f := dm_ild 17 2) rfl rfl ?_
    have e3 : ((q.1 17) + b).toInt = (q.1 17).toInt + b.toInt := by have w := i_add (x := (q.1 17)) (y := b) (by omega) (by omega); omega
    refine hs (f := dm_ii 18 (fun x y => x + y)) (st' := [.int ((q.1 17) + b)]) rfl rfl ?_
    refine hs (f := dm_push 21 (.int 20000)) rfl rfl ?_
    refine g_ic_gt (n := 24) (tt := 28) rfl (fun h4 => ?_) (fun h4 => ?_)
    · skip
      have h4 : ((q.1 17) + b).toInt > 20000 := h4
      refine hs (f := dm_push 29 (.int 0)) rfl rfl ?_
      exact h_retB rfl isB_0 (⟨rfl, by first | exact Or.inl ⟨rfl, by omega, by omega⟩ | exact Or.inr ⟨rfl, trivial⟩⟩)
    · skip
      have h4 : ((q.1 17) + b).toInt ≤ 20000 := h4
      refine hs (f := dm_push 25 (.int 1)) rfl rfl ?_
      refine hs (f := dm_goto 29) rfl rfl ?_
      exact h_retB rfl isB_1 (⟨rfl, by first | exact Or.inl ⟨rfl, by omega, by omega⟩ | exact Or.inr ⟨rfl, trivial⟩⟩)
theorem r_141 {X : dm_Mem} {q : rS} {M : dm_Mem} (hM : Rm X q M) (s : Int32) (h0 : 0 ≤ s.toInt) (h1 : s.toInt < 1000) (h2 : 0 ≤ rA (q.2.2.1 73) s.toInt) (h3 : rA (q.2.2.1 73) s.toInt ≤ rA (q.2.2.1 73) (s.toInt + 1)) (h4 : rA (q.2.2.1 73) (s.toInt + 1) ≤ 24000) : hT 1 141 [.ref 68, .int s] M (fun r M' => r = none ∧ ∃ (n : Int32) (b1 : Nat → Int64) (b2 : Nat → Int32), n.toInt = rA (q.2.2.1 73) (s.toInt + 1) - rA (q.2.2.1 73) s.toInt ∧ (∀ i : Int, 0 ≤ i → i < n.toInt → b1 i.toNat = (q.2.2.2 69 (rA (q.2.2.1 73) s.toInt + i).toNat) ∧ b2 i.toNat = (q.2.2.1 70 (rA (q.2.2.1 73) s.toInt + i).toNat)) ∧ Rm X (sA (sB (sF q 29 n) 92 b1) 93 b2) M') := by
  have j21 : ∀ (nn : Nat), ∀ (n k : Int32) (b1 : Nat → Int64) (b2 : Nat → Int32) (M : dm_Mem), Rm X (sA (sB (sF q 29 n) 92 b1) 93 b2) M → (n.toInt = rA (q.2.2.1 73) (s.toInt + 1) - rA (q.2.2.1 73) s.toInt) → (0 ≤ k.toInt) → (k.toInt ≤ n.toInt) → (∀ i : Int, 0 ≤ i → i < k.toInt → b1 i.toNat = (q.2.2.2 69 (rA (q.2.2.1 73) s.toInt + i).toNat) ∧ b2 i.toNat = (q.2.2.1 70 (rA (q.2.2.1 73) s.toInt + i).toNat)) → (n.toInt - k.toInt).toNat = nn → hG 0 cd_141 21 [(2, .int k), (0, .ref 68), (1, .int s)] [] M (fun r M' => r = none ∧ ∃ (n : Int32) (b1 : Nat → Int64) (b2 : Nat → Int32), n.toInt = rA (q.2.2.1 73) (s.toInt + 1) - rA (q.2.2.1 73) s.toInt ∧ (∀ i : Int, 0 ≤ i → i < n.toInt → b1 i.toNat = (q.2.2.2 69 (rA (q.2.2.1 73) s.toInt + i).toNat) ∧ b2 i.toNat = (q.2.2.1 70 (rA (q.2.2.1 73) s.toInt + i).toNat)) ∧ Rm X (sA (sB (sF q 29 n) 92 b1) 93 b2) M') := by
    intro nn
    induction nn using Nat.strongRecOn with
    | ind nn IH =>
      intro n k b1 b2 M hM hn k0 k1 hc hms
      refine hs (f := dm_ild 22 2) rfl rfl ?_
      refine hs (f := dm_ald 23 0) rfl rfl ?_
      refine r_geti n rfl hM rfl rfl ?_
      refine g_ic_ge (n := 29) (tt := 73) rfl (fun h1 => ?_) (fun h1 => ?_)
      · skip
        have h1 : k.toInt ≥ n.toInt := h1
        exact hr (f := dm_vret) rfl rfl (⟨rfl, n, b1, b2, hn, fun i i0 i1 => hc i i0 (by omega), hM⟩)
      · skip
        have h1 : k.toInt < n.toInt := h1
        refine hs (f := dm_ald 30 0) rfl rfl ?_
        refine r_geta (c := 89) rfl hM rfl ?_
        refine hs (f := dm_ild 34 2) rfl rfl ?_
        refine hs (f := dm_ald 35 0) rfl rfl ?_
        refine r_geta (c := 66) rfl hM rfl ?_
        refine hs (f := dm_ald 39 0) rfl rfl ?_
        refine r_geta (c := 70) rfl hM rfl ?_
        refine hs (f := dm_ild 43 1) rfl rfl ?_
        refine r_iald (L := 1001) (i := s) ((q.2.2.1 73) s.toInt.toNat) rfl hM rfl (by omega) rfl ?_
        generalize g3 : (q.2.2.1 73) s.toInt.toNat = v2
        have x4 : v2.toInt = rA (q.2.2.1 73) s.toInt := rA_of (i := s) g3 rfl
        refine hs (f := dm_ild 45 2) rfl rfl ?_
        have e5 : (v2 + k).toInt = rA (q.2.2.1 73) s.toInt + k.toInt := by have w := i_add (x := v2) (y := k) (by omega) (by omega); omega
        refine hs (f := dm_ii 46 (fun x y => x + y)) (st' := [.int (v2 + k), .ref 69, .int k, .ref 92]) rfl rfl ?_
        refine r_lald (L := 24000) (i := (v2 + k)) ((q.2.2.2 69) (v2 + k).toInt.toNat) rfl hM rfl (by omega) rfl ?_
        generalize g7 : (q.2.2.2 69) (v2 + k).toInt.toNat = v6
        have x8 : v6.toInt = rB (q.2.2.2 69) (rA (q.2.2.1 73) s.toInt + k.toInt) := rB_of (i := (v2 + k)) g7 e5
        refine r_last (L := 24000) (i := k) (x := v6) b1 rfl hM rfl (by omega) rfl (fun M9 hM9 => ?_)
        replace hM9 := rm_to (q' := (sA (sB (sF q 29 n) 92 (vp_updL b1 k.toInt.toNat v6)) 93 b2)) hM9 (show sB (sA (sB (sF q 29 n) 92 b1) 93 b2) 92 (vp_updL b1 k.toInt.toNat v6) = (sA (sB (sF q 29 n) 92 (vp_updL b1 k.toInt.toNat v6)) 93 b2) from (congrArg (fun z => (sA z 93 b2)) (show sB (sB (sF q 29 n) 92 b1) 92 (vp_updL b1 k.toInt.toNat v6) = (sB (sF q 29 n) 92 (vp_updL b1 k.toInt.toNat v6)) from sB_sB)))
        refine hs (f := dm_ald 49 0) rfl rfl ?_
        refine r_geta (c := 90) rfl hM9 rfl ?_
        refine hs (f := dm_ild 53 2) rfl rfl ?_
        refine hs (f := dm_ald 54 0) rfl rfl ?_
        refine r_geta (c := 67) rfl hM9 rfl ?_
        refine hs (f := dm_ald 58 0) rfl rfl ?_
        refine r_geta (c := 70) rfl hM9 rfl ?_
        refine hs (f := dm_ild 62 1) rfl rfl ?_
        refine r_iald (L := 1001) (i := s) ((q.2.2.1 73) s.toInt.toNat) rfl hM9 rfl (by omega) rfl ?_
        generalize g11 : (q.2.2.1 73) s.toInt.toNat = v10
        have x12 : v10.toInt = rA (q.2.2.1 73) s.toInt := rA_of (i := s) g11 rfl
        refine hs (f := dm_ild 64 2) rfl rfl ?_
        have e13 : (v10 + k).toInt = rA (q.2.2.1 73) s.toInt + k.toInt := by have w := i_add (x := v10) (y := k) (by omega) (by omega); omega
        refine hs (f := dm_ii 65 (fun x y => x + y)) (st' := [.int (v10 + k), .ref 70, .int k, .ref 93]) rfl rfl ?_
        refine r_iald (L := 24000) (i := (v10 + k)) ((q.2.2.1 70) (v10 + k).toInt.toNat) rfl hM9 rfl (by omega) rfl ?_
        generalize g15 : (q.2.2.1 70) (v10 + k).toInt.toNat = v14
        have x16 : v14.toInt = rA (q.2.2.1 70) (rA (q.2.2.1 73) s.toInt + k.toInt) := rA_of (i := (v10 + k)) g15 e13
        refine r_iast (L := 24000) (i := k) (x := v14) b2 rfl hM9 rfl (by omega) rfl (fun M17 hM17 => ?_)
        replace hM17 := rm_to (q' := (sA (sB (sF q 29 n) 92 (vp_updL b1 k.toInt.toNat v6)) 93 (upd b2 k.toInt.toNat v14))) hM17 (show sA (sA (sB (sF q 29 n) 92 (vp_updL b1 k.toInt.toNat v6)) 93 b2) 93 (upd b2 k.toInt.toNat v14) = (sA (sB (sF q 29 n) 92 (vp_updL b1 k.toInt.toNat v6)) 93 (upd b2 k.toInt.toNat v14)) from (show sA (sA (sB (sF q 29 n) 92 (vp_updL b1 k.toInt.toNat v6)) 93 b2) 93 (upd b2 k.toInt.toNat v14) = (sA (sB (sF q 29 n) 92 (vp_updL b1 k.toInt.toNat v6)) 93 (upd b2 k.toInt.toNat v14)) from sA_sA))
        have e18 : (k + 1).toInt = k.toInt + 1 := by have w := i_addc (x := k) (y := 1) 1 rfl (by omega) (by omega); omega
        refine hs (f := dm_iinc 70 2 1) (lv' := [(2, .int (k + 1)), (0, .ref 68), (1, .int s)]) rfl rfl ?_
        refine hs (f := dm_goto 21) rfl rfl ?_
        refine (IH _ (by omega)) n (k + 1) (vp_updL b1 k.toInt.toNat v6) (upd b2 k.toInt.toNat v14) _ hM17 hn (by omega) (by omega) ?_ rfl
        intro i i0 i1
        by_cases ik : i = k.toInt
        · subst ik
          refine ⟨?_, ?_⟩
          · unfold vp_updL
            rw [if_pos rfl, ← g7, e5]
          · unfold upd
            rw [if_pos rfl, ← g15, e13]
        · have hz := hc i i0 (by omega)
          refine ⟨?_, ?_⟩
          · unfold vp_updL
            rw [if_neg (by omega)]
            exact hz.1
          · unfold upd
            rw [if_neg (by omega)]
            exact hz.2
  refine hx (t := cd_141) rfl (Nat.le_of_ble_eq_true rfl) (lv := [(0, .ref 68), (1, .int s)]) rfl ?_
  refine hs (f := dm_ald 1 0) rfl rfl ?_
  refine hs (f := dm_ald 2 0) rfl rfl ?_
  refine r_geta (c := 70) rfl hM rfl ?_
  refine hs (f := dm_ild 6 1) rfl rfl ?_
  refine hs (f := dm_push 7 (.int 1)) rfl rfl ?_
  have e19 : (s + (1 : Int32)).toInt = s.toInt + 1 := by have w := i_addc (x := s) (y := (1 : Int32)) 1 rfl (by omega) (by omega); omega
  refine hs (f := dm_ii 8 (fun x y => x + y)) (st' := [.int (s + (1 : Int32)), .ref 73, .ref 68]) rfl rfl ?_
  refine r_iald (L := 1001) (i := (s + (1 : Int32))) ((q.2.2.1 73) (s + (1 : Int32)).toInt.toNat) rfl hM rfl (by omega) rfl ?_
  generalize g21 : (q.2.2.1 73) (s + (1 : Int32)).toInt.toNat = v20
  have x22 : v20.toInt = rA (q.2.2.1 73) (s.toInt + 1) := rA_of (i := (s + (1 : Int32))) g21 e19
  refine hs (f := dm_ald 10 0) rfl rfl ?_
  refine r_geta (c := 70) rfl hM rfl ?_
  refine hs (f := dm_ild 14 1) rfl rfl ?_
  refine r_iald (L := 1001) (i := s) ((q.2.2.1 73) s.toInt.toNat) rfl hM rfl (by omega) rfl ?_
  generalize g24 : (q.2.2.1 73) s.toInt.toNat = v23
  have x25 : v23.toInt = rA (q.2.2.1 73) s.toInt := rA_of (i := s) g24 rfl
  have e26 : (v20 - v23).toInt = rA (q.2.2.1 73) (s.toInt + 1) - (rA (q.2.2.1 73) s.toInt) := by have w := i_sub (x := v20) (y := v23) (by omega) (by omega); omega
  refine hs (f := dm_ii 16 (fun x y => x - y)) (st' := [.int (v20 - v23), .ref 68]) rfl rfl ?_
  refine r_puti rfl hM rfl (fun M27 hM27 => ?_)
  replace hM27 := rm_to (q' := (sF q 29 (v20 - v23))) hM27 (show sF q 29 (v20 - v23) = (sF q 29 (v20 - v23)) from (show sF q 29 (v20 - v23) = (sF q 29 (v20 - v23)) from rfl))
  refine hs (f := dm_push 20 (.int 0)) rfl rfl ?_
  refine hs (f := dm_ist 21 2) (lv' := [(2, .int 0), (0, .ref 68), (1, .int s)]) rfl rfl ?_
  replace hM27 := rm_to (q' := (sB (sF q 29 (v20 - v23)) 92 (q.2.2.2 92))) hM27 (Eq.trans (sB_id (q := (sF q 29 (v20 - v23))) (k := 92) (v := (q.2.2.2 92)) rfl) (show sB (sF q 29 (v20 - v23)) 92 (q.2.2.2 92) = (sB (sF q 29 (v20 - v23)) 92 (q.2.2.2 92)) from (show sB (sF q 29 (v20 - v23)) 92 (q.2.2.2 92) = (sB (sF q 29 (v20 - v23)) 92 (q.2.2.2 92)) from rfl)))
  replace hM27 := rm_to (q' := (sA (sB (sF q 29 (v20 - v23)) 92 (q.2.2.2 92)) 93 (q.2.2.1 93))) hM27 (Eq.trans (sA_id (q := (sB (sF q 29 (v20 - v23)) 92 (q.2.2.2 92))) (k := 93) (v := (q.2.2.1 93)) rfl) (show sA (sB (sF q 29 (v20 - v23)) 92 (q.2.2.2 92)) 93 (q.2.2.1 93) = (sA (sB (sF q 29 (v20 - v23)) 92 (q.2.2.2 92)) 93 (q.2.2.1 93)) from (show sA (sB (sF q 29 (v20 - v23)) 92 (q.2.2.2 92)) 93 (q.2.2.1 93) = (sA (sB (sF q 29 (v20 - v23)) 92 (q.2.2.2 92)) 93 (q.2.2.1 93)) from rfl)))
  exact (j21 _) _ 0 (q.2.2.2 92) (q.2.2.1 93) _ hM27 (by omega) (by decide) (by show (0 : Int) ≤ _; omega) (fun i i0 i1 => absurd i1 (by show ¬ i < (0 : Int); omega)) rfl
theorem r_142 {X : dm_Mem} {q : rS} {M : dm_Mem} (hM : Rm X q M) (s : Int32) (h0 : 0 ≤ s.toInt) (h1 : s.toInt < 1000) (h2 : 0 ≤ rA (q.2.2.1 74) s.toInt) (h3 : rA (q.2.2.1 74) s.toInt ≤ rA (q.2.2.1 74) (s.toInt + 1)) (h4 : rA (q.2.2.1 74) (s.toInt + 1) ≤ 24000) : hT 1 142 [.ref 68, .int s] M (fun r M' => r = none ∧ ∃ (n : Int32) (b1 : Nat → Int64) (b2 : Nat → Int64), n.toInt = rA (q.2.2.1 74) (s.toInt + 1) - rA (q.2.2.1 74) s.toInt ∧ (∀ i : Int, 0 ≤ i → i < n.toInt → b1 i.toNat = (q.2.2.2 71 (rA (q.2.2.1 74) s.toInt + i).toNat) ∧ b2 i.toNat = (q.2.2.2 72 (rA (q.2.2.1 74) s.toInt + i).toNat)) ∧ Rm X (sB (sB (sF q 34 n) 96 b1) 97 b2) M') := by
  have j21 : ∀ (nn : Nat), ∀ (n k : Int32) (b1 : Nat → Int64) (b2 : Nat → Int64) (M : dm_Mem), Rm X (sB (sB (sF q 34 n) 96 b1) 97 b2) M → (n.toInt = rA (q.2.2.1 74) (s.toInt + 1) - rA (q.2.2.1 74) s.toInt) → (0 ≤ k.toInt) → (k.toInt ≤ n.toInt) → (∀ i : Int, 0 ≤ i → i < k.toInt → b1 i.toNat = (q.2.2.2 71 (rA (q.2.2.1 74) s.toInt + i).toNat) ∧ b2 i.toNat = (q.2.2.2 72 (rA (q.2.2.1 74) s.toInt + i).toNat)) → (n.toInt - k.toInt).toNat = nn → hG 0 cd_142 21 [(2, .int k), (0, .ref 68), (1, .int s)] [] M (fun r M' => r = none ∧ ∃ (n : Int32) (b1 : Nat → Int64) (b2 : Nat → Int64), n.toInt = rA (q.2.2.1 74) (s.toInt + 1) - rA (q.2.2.1 74) s.toInt ∧ (∀ i : Int, 0 ≤ i → i < n.toInt → b1 i.toNat = (q.2.2.2 71 (rA (q.2.2.1 74) s.toInt + i).toNat) ∧ b2 i.toNat = (q.2.2.2 72 (rA (q.2.2.1 74) s.toInt + i).toNat)) ∧ Rm X (sB (sB (sF q 34 n) 96 b1) 97 b2) M') := by
    intro nn
    induction nn using Nat.strongRecOn with
    | ind nn IH =>
      intro n k b1 b2 M hM hn k0 k1 hc hms
      refine hs (f := dm_ild 22 2) rfl rfl ?_
      refine hs (f := dm_ald 23 0) rfl rfl ?_
      refine r_geti n rfl hM rfl rfl ?_
      refine g_ic_ge (n := 29) (tt := 73) rfl (fun h1 => ?_) (fun h1 => ?_)
      · skip
        have h1 : k.toInt ≥ n.toInt := h1
        exact hr (f := dm_vret) rfl rfl (⟨rfl, n, b1, b2, hn, fun i i0 i1 => hc i i0 (by omega), hM⟩)
      · skip
        have h1 : k.toInt < n.toInt := h1
        refine hs (f := dm_ald 30 0) rfl rfl ?_
        refine r_geta (c := 93) rfl hM rfl ?_
        refine hs (f := dm_ild 34 2) rfl rfl ?_
        refine hs (f := dm_ald 35 0) rfl rfl ?_
        refine r_geta (c := 68) rfl hM rfl ?_
        refine hs (f := dm_ald 39 0) rfl rfl ?_
        refine r_geta (c := 71) rfl hM rfl ?_
        refine hs (f := dm_ild 43 1) rfl rfl ?_
        refine r_iald (L := 1001) (i := s) ((q.2.2.1 74) s.toInt.toNat) rfl hM rfl (by omega) rfl ?_
        generalize g3 : (q.2.2.1 74) s.toInt.toNat = v2
        have x4 : v2.toInt = rA (q.2.2.1 74) s.toInt := rA_of (i := s) g3 rfl
        refine hs (f := dm_ild 45 2) rfl rfl ?_
        have e5 : (v2 + k).toInt = rA (q.2.2.1 74) s.toInt + k.toInt := by have w := i_add (x := v2) (y := k) (by omega) (by omega); omega
        refine hs (f := dm_ii 46 (fun x y => x + y)) (st' := [.int (v2 + k), .ref 71, .int k, .ref 96]) rfl rfl ?_
        refine r_lald (L := 24000) (i := (v2 + k)) ((q.2.2.2 71) (v2 + k).toInt.toNat) rfl hM rfl (by omega) rfl ?_
        generalize g7 : (q.2.2.2 71) (v2 + k).toInt.toNat = v6
        have x8 : v6.toInt = rB (q.2.2.2 71) (rA (q.2.2.1 74) s.toInt + k.toInt) := rB_of (i := (v2 + k)) g7 e5
        refine r_last (L := 24000) (i := k) (x := v6) b1 rfl hM rfl (by omega) rfl (fun M9 hM9 => ?_)
        replace hM9 := rm_to (q' := (sB (sB (sF q 34 n) 96 (vp_updL b1 k.toInt.toNat v6)) 97 b2)) hM9 (show sB (sB (sB (sF q 34 n) 96 b1) 97 b2) 96 (vp_updL b1 k.toInt.toNat v6) = (sB (sB (sF q 34 n) 96 (vp_updL b1 k.toInt.toNat v6)) 97 b2) from (show sB (sB (sB (sF q 34 n) 96 b1) 97 b2) 96 (vp_updL b1 k.toInt.toNat v6) = (sB (sB (sF q 34 n) 96 (vp_updL b1 k.toInt.toNat v6)) 97 b2) from Eq.trans (show sB (sB (sB (sF q 34 n) 96 b1) 97 b2) 96 (vp_updL b1 k.toInt.toNat v6) = sB (sB (sB (sF q 34 n) 96 b1) 96 (vp_updL b1 k.toInt.toNat v6)) 97 b2 from sB_cm (by decide)) (congrArg (fun z => sB z 97 b2) (show sB (sB (sF q 34 n) 96 b1) 96 (vp_updL b1 k.toInt.toNat v6) = (sB (sF q 34 n) 96 (vp_updL b1 k.toInt.toNat v6)) from sB_sB))))
        refine hs (f := dm_ald 49 0) rfl rfl ?_
        refine r_geta (c := 94) rfl hM9 rfl ?_
        refine hs (f := dm_ild 53 2) rfl rfl ?_
        refine hs (f := dm_ald 54 0) rfl rfl ?_
        refine r_geta (c := 69) rfl hM9 rfl ?_
        refine hs (f := dm_ald 58 0) rfl rfl ?_
        refine r_geta (c := 71) rfl hM9 rfl ?_
        refine hs (f := dm_ild 62 1) rfl rfl ?_
        refine r_iald (L := 1001) (i := s) ((q.2.2.1 74) s.toInt.toNat) rfl hM9 rfl (by omega) rfl ?_
        generalize g11 : (q.2.2.1 74) s.toInt.toNat = v10
        have x12 : v10.toInt = rA (q.2.2.1 74) s.toInt := rA_of (i := s) g11 rfl
        refine hs (f := dm_ild 64 2) rfl rfl ?_
        have e13 : (v10 + k).toInt = rA (q.2.2.1 74) s.toInt + k.toInt := by have w := i_add (x := v10) (y := k) (by omega) (by omega); omega
        refine hs (f := dm_ii 65 (fun x y => x + y)) (st' := [.int (v10 + k), .ref 72, .int k, .ref 97]) rfl rfl ?_
        refine r_lald (L := 24000) (i := (v10 + k)) ((q.2.2.2 72) (v10 + k).toInt.toNat) rfl hM9 rfl (by omega) rfl ?_
        generalize g15 : (q.2.2.2 72) (v10 + k).toInt.toNat = v14
        have x16 : v14.toInt = rB (q.2.2.2 72) (rA (q.2.2.1 74) s.toInt + k.toInt) := rB_of (i := (v10 + k)) g15 e13
        refine r_last (L := 24000) (i := k) (x := v14) b2 rfl hM9 rfl (by omega) rfl (fun M17 hM17 => ?_)
        replace hM17 := rm_to (q' := (sB (sB (sF q 34 n) 96 (vp_updL b1 k.toInt.toNat v6)) 97 (vp_updL b2 k.toInt.toNat v14))) hM17 (show sB (sB (sB (sF q 34 n) 96 (vp_updL b1 k.toInt.toNat v6)) 97 b2) 97 (vp_updL b2 k.toInt.toNat v14) = (sB (sB (sF q 34 n) 96 (vp_updL b1 k.toInt.toNat v6)) 97 (vp_updL b2 k.toInt.toNat v14)) from (show sB (sB (sB (sF q 34 n) 96 (vp_updL b1 k.toInt.toNat v6)) 97 b2) 97 (vp_updL b2 k.toInt.toNat v14) = (sB (sB (sF q 34 n) 96 (vp_updL b1 k.toInt.toNat v6)) 97 (vp_updL b2 k.toInt.toNat v14)) from sB_sB))
        have e18 : (k + 1).toInt = k.toInt + 1 := by have w := i_addc (x := k) (y := 1) 1 rfl (by omega) (by omega); omega
        refine hs (f := dm_iinc 70 2 1) (lv' := [(2, .int (k + 1)), (0, .ref 68), (1, .int s)]) rfl rfl ?_
        refine hs (f := dm_goto 21) rfl rfl ?_
        refine (IH _ (by omega)) n (k + 1) (vp_updL b1 k.toInt.toNat v6) (vp_updL b2 k.toInt.toNat v14) _ hM17 hn (by omega) (by omega) ?_ rfl
        intro i i0 i1
        by_cases ik : i = k.toInt
        · subst ik
          refine ⟨?_, ?_⟩
          · unfold vp_updL
            rw [if_pos rfl, ← g7, e5]
          · unfold vp_updL
            rw [if_pos rfl, ← g15, e13]
        · have hz := hc i i0 (by omega)
          refine ⟨?_, ?_⟩
          · unfold vp_updL
            rw [if_neg (by omega)]
            exact hz.1
          · unfold vp_updL
            rw [if_neg (by omega)]
            exact hz.2
  refine hx (t := cd_142) rfl (Nat.le_of_ble_eq_true rfl) (lv := [(0, .ref 68), (1, .int s)]) rfl ?_
  refine hs (f := dm_ald 1 0) rfl rfl ?_
  refine hs (f := dm_ald 2 0) rfl rfl ?_
  refine r_geta (c := 71) rfl hM rfl ?_
  refine hs (f := dm_ild 6 1) rfl rfl ?_
  refine hs (f := dm_push 7 (.int 1)) rfl rfl ?_
  have e19 : (s + (1 : Int32)).toInt = s.toInt + 1 := by have w := i_addc (x := s) (y := (1 : Int32)) 1 rfl (by omega) (by omega); omega
  refine hs (f := dm_ii 8 (fun x y => x + y)) (st' := [.int (s + (1 : Int32)), .ref 74, .ref 68]) rfl rfl ?_
  refine r_iald (L := 1001) (i := (s + (1 : Int32))) ((q.2.2.1 74) (s + (1 : Int32)).toInt.toNat) rfl hM rfl (by omega) rfl ?_
  generalize g21 : (q.2.2.1 74) (s + (1 : Int32)).toInt.toNat = v20
  have x22 : v20.toInt = rA (q.2.2.1 74) (s.toInt + 1) := rA_of (i := (s + (1 : Int32))) g21 e19
  refine hs (f := dm_ald 10 0) rfl rfl ?_
  refine r_geta (c := 71) rfl hM rfl ?_
  refine hs (f := dm_ild 14 1) rfl rfl ?_
  refine r_iald (L := 1001) (i := s) ((q.2.2.1 74) s.toInt.toNat) rfl hM rfl (by omega) rfl ?_
  generalize g24 : (q.2.2.1 74) s.toInt.toNat = v23
  have x25 : v23.toInt = rA (q.2.2.1 74) s.toInt := rA_of (i := s) g24 rfl
  have e26 : (v20 - v23).toInt = rA (q.2.2.1 74) (s.toInt + 1) - (rA (q.2.2.1 74) s.toInt) := by have w := i_sub (x := v20) (y := v23) (by omega) (by omega); omega
  refine hs (f := dm_ii 16 (fun x y => x - y)) (st' := [.int (v20 - v23), .ref 68]) rfl rfl ?_
  refine r_puti rfl hM rfl (fun M27 hM27 => ?_)
  replace hM27 := rm_to (q' := (sF q 34 (v20 - v23))) hM27 (show sF q 34 (v20 - v23) = (sF q 34 (v20 - v23)) from (show sF q 34 (v20 - v23) = (sF q 34 (v20 - v23)) from rfl))
  refine hs (f := dm_push 20 (.int 0)) rfl rfl ?_
  refine hs (f := dm_ist 21 2) (lv' := [(2, .int 0), (0, .ref 68), (1, .int s)]) rfl rfl ?_
  replace hM27 := rm_to (q' := (sB (sF q 34 (v20 - v23)) 96 (q.2.2.2 96))) hM27 (Eq.trans (sB_id (q := (sF q 34 (v20 - v23))) (k := 96) (v := (q.2.2.2 96)) rfl) (show sB (sF q 34 (v20 - v23)) 96 (q.2.2.2 96) = (sB (sF q 34 (v20 - v23)) 96 (q.2.2.2 96)) from (show sB (sF q 34 (v20 - v23)) 96 (q.2.2.2 96) = (sB (sF q 34 (v20 - v23)) 96 (q.2.2.2 96)) from rfl)))
  replace hM27 := rm_to (q' := (sB (sB (sF q 34 (v20 - v23)) 96 (q.2.2.2 96)) 97 (q.2.2.2 97))) hM27 (Eq.trans (sB_id (q := (sB (sF q 34 (v20 - v23)) 96 (q.2.2.2 96))) (k := 97) (v := (q.2.2.2 97)) rfl) (show sB (sB (sF q 34 (v20 - v23)) 96 (q.2.2.2 96)) 97 (q.2.2.2 97) = (sB (sB (sF q 34 (v20 - v23)) 96 (q.2.2.2 96)) 97 (q.2.2.2 97)) from (show sB (sB (sF q 34 (v20 - v23)) 96 (q.2.2.2 96)) 97 (q.2.2.2 97) = (sB (sB (sF q 34 (v20 - v23)) 96 (q.2.2.2 96)) 97 (q.2.2.2 97)) from rfl)))
  exact (j21 _) _ 0 (q.2.2.2 96) (q.2.2.2 97) _ hM27 (by omega) (by decide) (by show (0 : Int) ≤ _; omega) (fun i i0 i1 => absurd i1 (by show ¬ i < (0 : Int); omega)) rfl
