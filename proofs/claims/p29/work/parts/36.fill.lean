/-! what happens to a row: filled, grown -/
theorem dy_no0 {i : Nat} {g : Int} (h : dy i g) : ¬ (g < 0 ∧ 0 < g + 2 ^ i) := by
  obtain ⟨m, rfl⟩ := h
  intro ⟨h1, h2⟩
  have hD := p2_pos i
  have h3 : m * 2 ^ i < 0 * 2 ^ i := by rw [Int.zero_mul]; exact h1
  have h4 := mul_lt_of (by omega) h3
  rw [Int.add_mul, Int.one_mul, Int.zero_mul] at h4
  omega
theorem fle_root {w w' : Nat → Int64} {n n' : Int} (hS : wS w' n') (hw : ∀ i : Int, 0 ≤ i → i < n' → rB w' i = 0 ∨ rB w' i = 0 + 1152921504606846976 ∨ ∃ k : Int, 0 ≤ k ∧ k < n ∧ rB w' i = rB w k) : fle w n w' n' := by
  intro i g hg hfl k k0 k1 hk
  rcases hw k k0 k1 with e | e | ⟨m, m0, m1, e⟩
  · rw [e] at hk
    exact dy_no0 hg hk
  · have := hS.2.2.2 k k0 k1
    omega
  · rw [e] at hk
    exact hfl m m0 m1 hk
/-- two more places make at most so many more nodes -/
theorem HN_two {w w' : Nat → Int64} {n n' p u : Int} (hw : ∀ i : Int, 0 ≤ i → i < n' → rB w' i = p ∨ rB w' i = u ∨ ∃ k : Int, 0 ≤ k ∧ k < n ∧ rB w' i = rB w k) : ∀ (j : Nat) (f : Int) (d : Nat), ((f < p ∧ p < f + 2 ^ j → 1 ≤ d) ∧ (f < u ∧ u < f + 2 ^ j → 1 ≤ d) ∧ (f < p ∧ p < f + 2 ^ j → f < u ∧ u < f + 2 ^ j → 2 ≤ d)) → HN w' n' j f ≤ HN w n j f + 2 * j * d := by
  intro j
  induction j with
  | zero => intro f d _; exact Nat.le_add_right _ _
  | succ j ih =>
    intro f d hd
    have hp := p2_succ j
    have hpp := p2_pos j
    by_cases q : flat w' n' f (2 ^ (j + 1))
    · rw [HN_flat q]
      have := HN_pos w n (j + 1) f
      omega
    · rw [HN_not q]
      -- what each half has of the two
      have key : ∃ d1 d2 : Nat, d1 + d2 ≤ d ∧ ((f < p ∧ p < f + 2 ^ j → 1 ≤ d1) ∧ (f < u ∧ u < f + 2 ^ j → 1 ≤ d1) ∧ (f < p ∧ p < f + 2 ^ j → f < u ∧ u < f + 2 ^ j → 2 ≤ d1)) ∧ ((f + 2 ^ j < p ∧ p < f + 2 ^ j + 2 ^ j → 1 ≤ d2) ∧ (f + 2 ^ j < u ∧ u < f + 2 ^ j + 2 ^ j → 1 ≤ d2) ∧ (f + 2 ^ j < p ∧ p < f + 2 ^ j + 2 ^ j → f + 2 ^ j < u ∧ u < f + 2 ^ j + 2 ^ j → 2 ≤ d2)) := by
        by_cases a1 : f < p ∧ p < f + 2 ^ j
        · by_cases a2 : f < u ∧ u < f + 2 ^ j
          · exact ⟨2, 0, by omega, by omega, by omega⟩
          · by_cases a3 : f + 2 ^ j < u ∧ u < f + 2 ^ j + 2 ^ j
            · exact ⟨1, 1, by omega, by omega, by omega⟩
            · exact ⟨1, 0, by omega, by omega, by omega⟩
        · by_cases a2 : f < u ∧ u < f + 2 ^ j
          · by_cases a3 : f + 2 ^ j < p ∧ p < f + 2 ^ j + 2 ^ j
            · exact ⟨1, 1, by omega, by omega, by omega⟩
            · exact ⟨1, 0, by omega, by omega, by omega⟩
          · by_cases a3 : f + 2 ^ j < p ∧ p < f + 2 ^ j + 2 ^ j
            · by_cases a4 : f + 2 ^ j < u ∧ u < f + 2 ^ j + 2 ^ j
              · exact ⟨0, 2, by omega, by omega, by omega⟩
              · exact ⟨0, 1, by omega, by omega, by omega⟩
            · by_cases a4 : f + 2 ^ j < u ∧ u < f + 2 ^ j + 2 ^ j
              · exact ⟨0, 1, by omega, by omega, by omega⟩
              · exact ⟨0, 0, by omega, by omega, by omega⟩
      obtain ⟨d1, d2, hdd, k1, k2⟩ := key
      have h1 := ih f d1 k1
      have h2 := ih (f + 2 ^ j) d2 k2
      have e1 : 2 * j * d1 + 2 * j * d2 ≤ 2 * j * d := by
        rw [← Nat.mul_add]
        exact Nat.mul_le_mul_left _ hdd
      have e2 : 2 * (j + 1) * d = 2 * j * d + 2 * d := by
        rw [show 2 * (j + 1) = 2 * j + 2 by omega, Nat.add_mul]
      by_cases qw : flat w n f (2 ^ (j + 1))
      · -- then one of the two lies inside
        have hd1 : 1 ≤ d := by
          apply Classical.byContradiction
          intro hd0
          apply q
          intro i i0 i1 hi
          rcases hw i i0 i1 with e | e | ⟨m, m0, m1, e⟩
          · have := hd.1 (by omega)
            omega
          · have := hd.2.1 (by omega)
            omega
          · rw [e] at hi
            exact qw m m0 m1 hi
        have e3 : HN w n j f = 1 := HN_flat (fun i i0 i1 z => qw i i0 i1 (by omega))
        have e4 : HN w n j (f + 2 ^ j) = 1 := HN_flat (fun i i0 i1 z => qw i i0 i1 (by omega))
        rw [HN_flat qw]
        omega
      · rw [HN_not qw]
        omega
set_option maxHeartbeats 4000000 in
theorem r_158 {X : dm_Mem} {q : rS} (ho : 0 ≤ (q.1 34).toInt ∧ (q.1 34).toInt ≤ 24000) (j : Nat) : ∀ (f s : Int64) (n : Int32) (b92 b94 : Nat → Int64) (b93 b95 : Nat → Int32) (M : dm_Mem), Rm X (sA (sA (sB (sB (sF q 29 n) 92 b92) 94 b94) 93 b93) 95 b95) M → wS b92 n.toInt → HN b92 n.toInt 60 0 ≤ 42000 → s.toInt = 2 ^ j → 0 ≤ f.toInt → f.toInt + s.toInt ≤ 1152921504606846976 → dy j f.toInt → (Part (q.2.2.2 96) (q.2.2.2 97) (q.1 34).toInt f.toInt s.toInt = 1 → (f.toInt = 0 ∧ s.toInt = 1152921504606846976) ∨ ∃ F : Int, dy (j + 1) F ∧ ¬ flat b92 n.toInt F (2 ^ (j + 1)) ∧ (f.toInt = F ∨ f.toInt = F + 2 ^ j)) → hT (2 + 1 + j) 158 [.ref 68, .long f, .long s] M (fun r M' => r = none ∧ ∃ (n' : Int32) (c92 c94 : Nat → Int64) (c93 c95 : Nat → Int32), wS c92 n'.toInt ∧ fle b92 n.toInt c92 n'.toInt ∧ Rm X (sA (sA (sB (sB (sF q 29 n') 92 c92) 94 c94) 93 c93) 95 c95) M') := by
  induction j using Nat.strongRecOn with
  | ind j IH =>
    intro f s n b92 b94 b93 b95 M hM hS hH hs0 hf hfs hd hp1
    rw [show 2 + 1 + j = (2 + j) + 1 by omega]
    have hp := p2_pos j
    have hn0 := HN_len hS
    refine hx (t := cd_158) rfl (Nat.le_of_ble_eq_true rfl) (lv := [(0, .ref 68), (1, .long f), (3, .long s)]) rfl ?_
    refine hs (f := dm_ald 1 0) rfl rfl ?_
    refine hs (f := dm_lld 2 1) rfl rfl ?_
    refine hs (f := dm_lld 3 3) rfl rfl ?_
    refine r_inv rfl hM rfl (as := [.ref 68, .long f, .long s]) rfl (Nat.le_of_ble_eq_true rfl) (hT_mono (by omega) (show hT 1 152 [.ref 68, .long f, .long s] _ (fun r M' => r = some (.int (Int32.ofNat (Part (q.2.2.2 96) (q.2.2.2 97) (q.1 34).toInt f.toInt s.toInt))) ∧ M' = _) from r_152 hM f s ho (by omega) (by omega) (by omega)) (fun r1 M1 w => ?_))
    obtain ⟨rfl, rfl⟩ := w
    have lP2 := Part_le (a := (q.2.2.2 96)) (b := (q.2.2.2 97)) (n := (q.1 34).toInt) (f := f.toInt) (s := s.toInt)
    generalize hP2 : Part (q.2.2.2 96) (q.2.2.2 97) (q.1 34).toInt f.toInt s.toInt = P2 at lP2 ⊢
    have eP2 : (Int32.ofNat P2).toInt = P2 := i_ofNat (by omega)
    refine hs (f := dm_ist 8 5) (lv' := [(5, .int (Int32.ofNat P2)), (0, .ref 68), (1, .long f), (3, .long s)]) rfl rfl ?_
    refine hs (f := dm_ild 10 5) rfl rfl ?_
    refine g_if_eq (n := 13) (tt := 28) rfl (fun h3 => ?_) (fun h3 => ?_)
    · skip
      have h3 : (Int32.ofNat P2).toInt = 0 := h3
      exact hr (f := dm_vret) rfl rfl (⟨rfl, n, b92, b94, b93, b95, hS, fle_rf _ _, hM⟩)
    · skip
      have h3 : ¬ (Int32.ofNat P2).toInt = 0 := h3
      refine hs (f := dm_ild 15 5) rfl rfl ?_
      refine hs (f := dm_push 16 (.int 2)) rfl rfl ?_
      refine g_ic_ne (n := 19) (tt := 29) rfl (fun h4 => ?_) (fun h4 => ?_)
      · skip
        have h4 : ¬ (Int32.ofNat P2).toInt = 2 := h4
        refine hs (f := dm_ild 31 5) rfl rfl ?_
        refine hs (f := dm_push 32 (.int 1)) rfl rfl ?_
        refine g_ic_ne (n := 35) (tt := 49) rfl (fun h5 => ?_) (fun h5 => ?_)
        · skip
          have h5 : ¬ (Int32.ofNat P2).toInt = 1 := h5
          exfalso
          omega
        · skip
          have h5 : (Int32.ofNat P2).toInt = 1 := h5
          refine hs (f := dm_ald 36 0) rfl rfl ?_
          refine hs (f := dm_lld 37 1) rfl rfl ?_
          refine hs (f := dm_lld 38 3) rfl rfl ?_
          refine hs (f := dm_ald 39 0) rfl rfl ?_
          refine hs (f := dm_lld 40 1) rfl rfl ?_
          refine hs (f := dm_lld 41 3) rfl rfl ?_
          refine r_inv rfl hM rfl (as := [.ref 68, .long f, .long s]) rfl (Nat.le_of_ble_eq_true rfl) (hT_mono (by omega) (show hT 2 146 [.ref 68, .long f, .long s] _ (fun r M' => ∃ v : Int32, r = some (.int v) ∧ M' = _) from r_146 hM f s hS (show n.toInt ≤ 24000 by omega) (by omega) (by omega) (by omega)) (fun r1 M6 w => ?_))
          obtain ⟨u7, rfl, rfl⟩ := w
          refine hs (f := dm_push 45 (.int 0)) rfl rfl ?_
          refine r_inv rfl hM rfl (as := [.ref 68, .long f, .long s, .int u7, .int 0]) rfl (Nat.le_of_ble_eq_true rfl) (hT_mono (by omega) (show hT 2 150 [.ref 68, .long f, .long s, .int u7, .int 0] _ (fun r M' => r = none ∧ ∃ (n' : Int32) (c92 c94 : Nat → Int64) (c93 c95 : Nat → Int32), wS c92 n'.toInt ∧ n'.toInt ≤ n.toInt + 2 ∧ (∀ i : Int, 0 ≤ i → i < n'.toInt → rB c92 i = f.toInt ∨ rB c92 i = f.toInt + s.toInt ∨ ∃ k : Int, 0 ≤ k ∧ k < n.toInt ∧ rB c92 i = rB b92 k) ∧ Rm X (sA (sA (sB (sB (sF (sA (sA (sB (sB (sF q 29 n) 92 b92) 94 b94) 93 b93) 95 b95) 29 n') 92 c92) 94 c94) 93 c93) 95 c95) M') from hT_mono (Nat.le_refl _) (r_150 hM f s u7 (0 : Int32) hS (show n.toInt ≤ 22000 by omega) (by omega) (by omega) (by omega)) (fun r M' w => by
              obtain ⟨w1, n', c92, c94, c93, c95, w2, w3, w4, w5⟩ := w
              refine ⟨w1, n', c92, c94, c93, c95, w2, w3, fun i i0 i1 => ?_, w5⟩
              rcases w4 i i0 i1 with z | z | ⟨k, k0, k1, k2, _⟩
              · exact Or.inl z
              · exact Or.inr (Or.inl z)
              · exact Or.inr (Or.inr ⟨k, k0, k1, k2⟩))) (fun r1 M8 w => ?_))
          obtain ⟨rfl, nu9, b92u9, b94u9, b93u9, b95u9, hSu9, hlu9, hpu9, hM8⟩ := w
          replace hM8 := rm_to (q' := (sA (sA (sB (sB (sF q 29 nu9) 92 b92u9) 94 b94u9) 93 b93u9) 95 b95u9)) hM8 (Eq.trans (congrArg (fun z => sA z 95 b95u9) (Eq.trans (congrArg (fun z => sA z 93 b93u9) (Eq.trans (congrArg (fun z => sB z 94 b94u9) (Eq.trans (congrArg (fun z => sB z 92 b92u9) (show sF (sA (sA (sB (sB (sF q 29 n) 92 b92) 94 b94) 93 b93) 95 b95) 29 nu9 = (sA (sA (sB (sB (sF q 29 nu9) 92 b92) 94 b94) 93 b93) 95 b95) from (congrArg (fun z => (sA (sA (sB (sB z 92 b92) 94 b94) 93 b93) 95 b95)) (show sF (sF q 29 n) 29 nu9 = (sF q 29 nu9) from sF_sF)))) (show sB (sA (sA (sB (sB (sF q 29 nu9) 92 b92) 94 b94) 93 b93) 95 b95) 92 b92u9 = (sA (sA (sB (sB (sF q 29 nu9) 92 b92u9) 94 b94) 93 b93) 95 b95) from (congrArg (fun z => (sA (sA z 93 b93) 95 b95)) (show sB (sB (sB (sF q 29 nu9) 92 b92) 94 b94) 92 b92u9 = (sB (sB (sF q 29 nu9) 92 b92u9) 94 b94) from Eq.trans (show sB (sB (sB (sF q 29 nu9) 92 b92) 94 b94) 92 b92u9 = sB (sB (sB (sF q 29 nu9) 92 b92) 92 b92u9) 94 b94 from sB_cm (by decide)) (congrArg (fun z => sB z 94 b94) (show sB (sB (sF q 29 nu9) 92 b92) 92 b92u9 = (sB (sF q 29 nu9) 92 b92u9) from sB_sB))))))) (show sB (sA (sA (sB (sB (sF q 29 nu9) 92 b92u9) 94 b94) 93 b93) 95 b95) 94 b94u9 = (sA (sA (sB (sB (sF q 29 nu9) 92 b92u9) 94 b94u9) 93 b93) 95 b95) from (congrArg (fun z => (sA (sA z 93 b93) 95 b95)) (show sB (sB (sB (sF q 29 nu9) 92 b92u9) 94 b94) 94 b94u9 = (sB (sB (sF q 29 nu9) 92 b92u9) 94 b94u9) from sB_sB))))) (show sA (sA (sA (sB (sB (sF q 29 nu9) 92 b92u9) 94 b94u9) 93 b93) 95 b95) 93 b93u9 = (sA (sA (sB (sB (sF q 29 nu9) 92 b92u9) 94 b94u9) 93 b93u9) 95 b95) from (show sA (sA (sA (sB (sB (sF q 29 nu9) 92 b92u9) 94 b94u9) 93 b93) 95 b95) 93 b93u9 = (sA (sA (sB (sB (sF q 29 nu9) 92 b92u9) 94 b94u9) 93 b93u9) 95 b95) from Eq.trans (show sA (sA (sA (sB (sB (sF q 29 nu9) 92 b92u9) 94 b94u9) 93 b93) 95 b95) 93 b93u9 = sA (sA (sA (sB (sB (sF q 29 nu9) 92 b92u9) 94 b94u9) 93 b93) 93 b93u9) 95 b95 from sA_cm (by decide)) (congrArg (fun z => sA z 95 b95) (show sA (sA (sB (sB (sF q 29 nu9) 92 b92u9) 94 b94u9) 93 b93) 93 b93u9 = (sA (sB (sB (sF q 29 nu9) 92 b92u9) 94 b94u9) 93 b93u9) from sA_sA)))))) (show sA (sA (sA (sB (sB (sF q 29 nu9) 92 b92u9) 94 b94u9) 93 b93u9) 95 b95) 95 b95u9 = (sA (sA (sB (sB (sF q 29 nu9) 92 b92u9) 94 b94u9) 93 b93u9) 95 b95u9) from (show sA (sA (sA (sB (sB (sF q 29 nu9) 92 b92u9) 94 b94u9) 93 b93u9) 95 b95) 95 b95u9 = (sA (sA (sB (sB (sF q 29 nu9) 92 b92u9) 94 b94u9) 93 b93u9) 95 b95u9) from sA_sA)))
          exact hr (f := dm_vret) rfl rfl (⟨rfl, nu9, b92u9, b94u9, b93u9, b95u9, hSu9, by
                rcases hp1 (by omega) with ⟨z1, z2⟩ | ⟨F, z1, z2, z3⟩
                · exact fle_root hSu9 (by rw [z1, z2] at hpu9; exact hpu9)
                · exact fle_set z1 z2 z3 (fle_rf _ _) (by rw [hs0] at hpu9; exact hpu9), hM8⟩)
      · skip
        have h4 : (Int32.ofNat P2).toInt = 2 := h4
        refine hs (f := dm_ald 20 0) rfl rfl ?_
        refine hs (f := dm_lld 21 1) rfl rfl ?_
        refine hs (f := dm_lld 22 3) rfl rfl ?_
        refine r_inv rfl hM rfl (as := [.ref 68, .long f, .long s]) rfl (Nat.le_of_ble_eq_true rfl) (hT_mono (by omega) (show hT 2 145 [.ref 68, .long f, .long s] _ (fun r M' => M' = _ ∧ ((r = some (.int 1) ∧ flat b92 n.toInt f.toInt s.toInt) ∨ (r = some (.int 0) ∧ ¬ flat b92 n.toInt f.toInt s.toInt))) from r_145 hM f s hS (show n.toInt ≤ 24000 by omega) (by omega) (by omega) (by omega)) (fun r1 M10 w => ?_))
        obtain ⟨rfl, ⟨rfl, u11⟩ | ⟨rfl, u11⟩⟩ := w
        · skip
          refine hs (f := dm_if_eq 28 29) (pc' := 28) rfl rfl ?_
          exact hr (f := dm_vret) rfl rfl (⟨rfl, n, b92, b94, b93, b95, hS, fle_rf _ _, hM⟩)
        · skip
          refine hs (f := dm_if_eq 28 29) (pc' := 29) rfl rfl ?_
          refine hs (f := dm_ild 31 5) rfl rfl ?_
          refine hs (f := dm_push 32 (.int 1)) rfl rfl ?_
          refine g_ic_ne (n := 35) (tt := 49) rfl (fun h12 => ?_) (fun h12 => ?_)
          · skip
            have h12 : ¬ (Int32.ofNat P2).toInt = 1 := h12
            cases j with
            | zero =>
              exfalso
              have z := Part_one (a := (q.2.2.2 96)) (b := (q.2.2.2 97)) (n := (q.1 34).toInt) (f := f.toInt)
              rw [show (1 : Int) = s.toInt by omega, hP2] at z
              omega
            | succ j =>
              have hp1 := p2_pos j
              have hp2 := p2_succ j
              refine hs (f := dm_lld 50 3) rfl rfl ?_
              refine hs (f := dm_push 53 (.long 2)) rfl rfl ?_
              have e13 : (s / (2 : Int64)).toInt = s.toInt / 2 := by have w := j_half (x := s) (by omega); omega
              refine hs (f := dm_lq 54 (fun x y => x / y)) (st' := [.long (s / (2 : Int64))]) rfl rfl ?_
              refine hs (f := dm_lst 56 6) (lv' := [(6, .long (s / (2 : Int64))), (5, .int (Int32.ofNat P2)), (0, .ref 68), (1, .long f), (3, .long s)]) rfl rfl ?_
              generalize g14 : s / (2 : Int64) = half at e13 ⊢
              refine hs (f := dm_lld 57 1) rfl rfl ?_
              refine hs (f := dm_lld 59 6) rfl rfl ?_
              have e15 : (f + half).toInt = f.toInt + s.toInt / 2 := by have w := j_add (x := f) (y := half) (by omega) (by omega); omega
              refine hs (f := dm_ll 60 (fun x y => x + y)) (st' := [.long (f + half)]) rfl rfl ?_
              refine hs (f := dm_lst 62 8) (lv' := [(8, .long (f + half)), (6, .long half), (5, .int (Int32.ofNat P2)), (0, .ref 68), (1, .long f), (3, .long s)]) rfl rfl ?_
              generalize g16 : f + half = mid at e15 ⊢
              refine hs (f := dm_ald 63 0) rfl rfl ?_
              refine hs (f := dm_lld 64 1) rfl rfl ?_
              refine hs (f := dm_lld 66 6) rfl rfl ?_
              refine r_inv rfl hM rfl (as := [.ref 68, .long f, .long half]) rfl (Nat.le_of_ble_eq_true rfl) (hT_mono (by omega) (show hT 1 152 [.ref 68, .long f, .long half] _ (fun r M' => r = some (.int (Int32.ofNat (Part (q.2.2.2 96) (q.2.2.2 97) (q.1 34).toInt f.toInt half.toInt))) ∧ M' = _) from r_152 hM f half ho (by omega) (by omega) (by omega)) (fun r1 M17 w => ?_))
              obtain ⟨rfl, rfl⟩ := w
              have lP18 := Part_le (a := (q.2.2.2 96)) (b := (q.2.2.2 97)) (n := (q.1 34).toInt) (f := f.toInt) (s := half.toInt)
              generalize hP18 : Part (q.2.2.2 96) (q.2.2.2 97) (q.1 34).toInt f.toInt half.toInt = P18 at lP18 ⊢
              have eP18 : (Int32.ofNat P18).toInt = P18 := i_ofNat (by omega)
              refine hs (f := dm_push 70 (.int 1)) rfl rfl ?_
              refine g_ic_ne (n := 73) (tt := 125) rfl (fun h19 => ?_) (fun h19 => ?_)
              · skip
                have h19 : ¬ (Int32.ofNat P18).toInt = 1 := h19
                refine hs (f := dm_ald 126 0) rfl rfl ?_
                refine hs (f := dm_lld 128 8) rfl rfl ?_
                refine hs (f := dm_lld 130 6) rfl rfl ?_
                refine r_inv rfl hM rfl (as := [.ref 68, .long mid, .long half]) rfl (Nat.le_of_ble_eq_true rfl) (hT_mono (by omega) (show hT 1 152 [.ref 68, .long mid, .long half] _ (fun r M' => r = some (.int (Int32.ofNat (Part (q.2.2.2 96) (q.2.2.2 97) (q.1 34).toInt mid.toInt half.toInt))) ∧ M' = _) from r_152 hM mid half ho (by omega) (by omega) (by omega)) (fun r1 M20 w => ?_))
                obtain ⟨rfl, rfl⟩ := w
                have lP21 := Part_le (a := (q.2.2.2 96)) (b := (q.2.2.2 97)) (n := (q.1 34).toInt) (f := mid.toInt) (s := half.toInt)
                generalize hP21 : Part (q.2.2.2 96) (q.2.2.2 97) (q.1 34).toInt mid.toInt half.toInt = P21 at lP21 ⊢
                have eP21 : (Int32.ofNat P21).toInt = P21 := i_ofNat (by omega)
                refine hs (f := dm_push 134 (.int 1)) rfl rfl ?_
                refine g_ic_ne (n := 137) (tt := 189) rfl (fun h22 => ?_) (fun h22 => ?_)
                · skip
                  have h22 : ¬ (Int32.ofNat P21).toInt = 1 := h22
                  refine hs (f := dm_ald 190 0) rfl rfl ?_
                  refine hs (f := dm_lld 191 1) rfl rfl ?_
                  refine hs (f := dm_lld 193 6) rfl rfl ?_
                  refine r_inv rfl hM rfl (as := [.ref 68, .long f, .long half]) rfl (Nat.le_of_ble_eq_true rfl) (hT_mono (by omega) (IH j (by omega) f half n b92 b94 b93 b95 _ hM hS hH (by omega) (by omega) (by omega) (dy_l hd) (fun z => absurd z (by rw [hP18]; omega))) (fun r1 M23 w => ?_))
                  obtain ⟨rfl, nu24, b92u24, b94u24, b93u24, b95u24, hSu24, hlu24, hM23⟩ := w
                  have hfu24 : fle b92 n.toInt b92u24 nu24.toInt := fle_tr (fle_rf _ _) hlu24
                  have hHu24 : HN b92u24 nu24.toInt 60 0 ≤ 42000 := Nat.le_trans (HN_mono hfu24 60 0 (dy_0 60)) hH
                  have hnu24 := HN_len hSu24
                  refine hs (f := dm_ald 197 0) rfl rfl ?_
                  refine hs (f := dm_lld 199 8) rfl rfl ?_
                  refine hs (f := dm_lld 201 6) rfl rfl ?_
                  refine r_inv rfl hM23 rfl (as := [.ref 68, .long mid, .long half]) rfl (Nat.le_of_ble_eq_true rfl) (hT_mono (by omega) (IH j (by omega) mid half nu24 b92u24 b94u24 b93u24 b95u24 _ hM23 hSu24 hHu24 (by omega) (by omega) (by omega) (by rw [show mid.toInt = f.toInt + 2 ^ j by omega]; exact dy_r hd) (fun z => absurd z (by rw [hP21]; omega))) (fun r1 M25 w => ?_))
                  obtain ⟨rfl, nu26, b92u26, b94u26, b93u26, b95u26, hSu26, hlu26, hM25⟩ := w
                  have hfu26 : fle b92 n.toInt b92u26 nu26.toInt := fle_tr hfu24 hlu26
                  have hHu26 : HN b92u26 nu26.toInt 60 0 ≤ 42000 := Nat.le_trans (HN_mono hfu26 60 0 (dy_0 60)) hH
                  have hnu26 := HN_len hSu26
                  exact hr (f := dm_vret) rfl rfl (⟨rfl, nu26, b92u26, b94u26, b93u26, b95u26, hSu26, hfu26, hM25⟩)
                · skip
                  have h22 : (Int32.ofNat P21).toInt = 1 := h22
                  refine hs (f := dm_ald 138 0) rfl rfl ?_
                  refine hs (f := dm_lld 139 1) rfl rfl ?_
                  refine hs (f := dm_lld 141 6) rfl rfl ?_
                  refine r_inv rfl hM rfl (as := [.ref 68, .long f, .long half]) rfl (Nat.le_of_ble_eq_true rfl) (hT_mono (by omega) (IH j (by omega) f half n b92 b94 b93 b95 _ hM hS hH (by omega) (by omega) (by omega) (dy_l hd) (fun z => absurd z (by rw [hP18]; omega))) (fun r1 M27 w => ?_))
                  obtain ⟨rfl, nu28, b92u28, b94u28, b93u28, b95u28, hSu28, hlu28, hM27⟩ := w
                  have hfu28 : fle b92 n.toInt b92u28 nu28.toInt := fle_tr (fle_rf _ _) hlu28
                  have hHu28 : HN b92u28 nu28.toInt 60 0 ≤ 42000 := Nat.le_trans (HN_mono hfu28 60 0 (dy_0 60)) hH
                  have hnu28 := HN_len hSu28
                  refine hs (f := dm_ald 145 0) rfl rfl ?_
                  refine hs (f := dm_lld 147 8) rfl rfl ?_
                  refine hs (f := dm_lld 149 6) rfl rfl ?_
                  refine r_inv rfl hM27 rfl (as := [.ref 68, .long mid, .long half]) rfl (Nat.le_of_ble_eq_true rfl) (hT_mono (by omega) (show hT 2 146 [.ref 68, .long mid, .long half] _ (fun r M' => ∃ v : Int32, r = some (.int v) ∧ M' = _) from r_146 hM27 mid half hSu28 (show nu28.toInt ≤ 24000 by omega) (by omega) (by omega) (by omega)) (fun r1 M29 w => ?_))
                  obtain ⟨u30, rfl, rfl⟩ := w
                  refine hs (f := dm_ist 154 10) (lv' := [(10, .int u30), (8, .long mid), (6, .long half), (5, .int (Int32.ofNat P2)), (0, .ref 68), (1, .long f), (3, .long s)]) rfl rfl ?_
                  refine hs (f := dm_ald 155 0) rfl rfl ?_
                  refine hs (f := dm_lld 156 1) rfl rfl ?_
                  refine hs (f := dm_lld 158 6) rfl rfl ?_
                  refine r_inv rfl hM27 rfl (as := [.ref 68, .long f, .long half]) rfl (Nat.le_of_ble_eq_true rfl) (hT_mono (by omega) (show hT 2 147 [.ref 68, .long f, .long half] _ (fun r M' => r = some (.int (leastF b92u28 b93u28 nu28.toInt f.toInt half.toInt)) ∧ M' = _) from r_147 hM27 f half hSu28 (show nu28.toInt ≤ 24000 by omega) (by omega) (by omega) (by omega)) (fun r1 M31 w => ?_))
                  obtain ⟨rfl, rfl⟩ := w
                  generalize leastF b92u28 b93u28 nu28.toInt f.toInt half.toInt = u32
                  refine hs (f := dm_ist 163 11) (lv' := [(11, .int u32), (10, .int u30), (8, .long mid), (6, .long half), (5, .int (Int32.ofNat P2)), (0, .ref 68), (1, .long f), (3, .long s)]) rfl rfl ?_
                  refine hs (f := dm_ald 164 0) rfl rfl ?_
                  refine hs (f := dm_lld 166 8) rfl rfl ?_
                  refine hs (f := dm_lld 168 6) rfl rfl ?_
                  refine hs (f := dm_ild 170 10) rfl rfl ?_
                  refine hs (f := dm_ild 172 11) rfl rfl ?_
                  refine g_ic_le (n := 175) (tt := 180) rfl (fun h33 => ?_) (fun h33 => ?_)
                  · skip
                    have h33 : u30.toInt ≤ u32.toInt := h33
                    refine hs (f := dm_ild 182 11) rfl rfl ?_
                    refine hs (f := dm_push 183 (.int 0)) rfl rfl ?_
                    refine r_inv rfl hM27 rfl (as := [.ref 68, .long mid, .long half, .int u32, .int 0]) rfl (Nat.le_of_ble_eq_true rfl) (hT_mono (by omega) (show hT 2 150 [.ref 68, .long mid, .long half, .int u32, .int 0] _ (fun r M' => r = none ∧ ∃ (n' : Int32) (c92 c94 : Nat → Int64) (c93 c95 : Nat → Int32), wS c92 n'.toInt ∧ n'.toInt ≤ nu28.toInt + 2 ∧ (∀ i : Int, 0 ≤ i → i < n'.toInt → rB c92 i = mid.toInt ∨ rB c92 i = mid.toInt + half.toInt ∨ ∃ k : Int, 0 ≤ k ∧ k < nu28.toInt ∧ rB c92 i = rB b92u28 k) ∧ Rm X (sA (sA (sB (sB (sF (sA (sA (sB (sB (sF q 29 nu28) 92 b92u28) 94 b94u28) 93 b93u28) 95 b95u28) 29 n') 92 c92) 94 c94) 93 c93) 95 c95) M') from hT_mono (Nat.le_refl _) (r_150 hM27 mid half u32 (0 : Int32) hSu28 (show nu28.toInt ≤ 22000 by omega) (by omega) (by omega) (by omega)) (fun r M' w => by
                        obtain ⟨w1, n', c92, c94, c93, c95, w2, w3, w4, w5⟩ := w
                        refine ⟨w1, n', c92, c94, c93, c95, w2, w3, fun i i0 i1 => ?_, w5⟩
                        rcases w4 i i0 i1 with z | z | ⟨k, k0, k1, k2, _⟩
                        · exact Or.inl z
                        · exact Or.inr (Or.inl z)
                        · exact Or.inr (Or.inr ⟨k, k0, k1, k2⟩))) (fun r1 M34 w => ?_))
                    obtain ⟨rfl, nu35, b92u35, b94u35, b93u35, b95u35, hSu35, hlu35, hpu35, hM34⟩ := w
                    replace hM34 := rm_to (q' := (sA (sA (sB (sB (sF q 29 nu35) 92 b92u35) 94 b94u35) 93 b93u35) 95 b95u35)) hM34 (Eq.trans (congrArg (fun z => sA z 95 b95u35) (Eq.trans (congrArg (fun z => sA z 93 b93u35) (Eq.trans (congrArg (fun z => sB z 94 b94u35) (Eq.trans (congrArg (fun z => sB z 92 b92u35) (show sF (sA (sA (sB (sB (sF q 29 nu28) 92 b92u28) 94 b94u28) 93 b93u28) 95 b95u28) 29 nu35 = (sA (sA (sB (sB (sF q 29 nu35) 92 b92u28) 94 b94u28) 93 b93u28) 95 b95u28) from (congrArg (fun z => (sA (sA (sB (sB z 92 b92u28) 94 b94u28) 93 b93u28) 95 b95u28)) (show sF (sF q 29 nu28) 29 nu35 = (sF q 29 nu35) from sF_sF)))) (show sB (sA (sA (sB (sB (sF q 29 nu35) 92 b92u28) 94 b94u28) 93 b93u28) 95 b95u28) 92 b92u35 = (sA (sA (sB (sB (sF q 29 nu35) 92 b92u35) 94 b94u28) 93 b93u28) 95 b95u28) from (congrArg (fun z => (sA (sA z 93 b93u28) 95 b95u28)) (show sB (sB (sB (sF q 29 nu35) 92 b92u28) 94 b94u28) 92 b92u35 = (sB (sB (sF q 29 nu35) 92 b92u35) 94 b94u28) from Eq.trans (show sB (sB (sB (sF q 29 nu35) 92 b92u28) 94 b94u28) 92 b92u35 = sB (sB (sB (sF q 29 nu35) 92 b92u28) 92 b92u35) 94 b94u28 from sB_cm (by decide)) (congrArg (fun z => sB z 94 b94u28) (show sB (sB (sF q 29 nu35) 92 b92u28) 92 b92u35 = (sB (sF q 29 nu35) 92 b92u35) from sB_sB))))))) (show sB (sA (sA (sB (sB (sF q 29 nu35) 92 b92u35) 94 b94u28) 93 b93u28) 95 b95u28) 94 b94u35 = (sA (sA (sB (sB (sF q 29 nu35) 92 b92u35) 94 b94u35) 93 b93u28) 95 b95u28) from (congrArg (fun z => (sA (sA z 93 b93u28) 95 b95u28)) (show sB (sB (sB (sF q 29 nu35) 92 b92u35) 94 b94u28) 94 b94u35 = (sB (sB (sF q 29 nu35) 92 b92u35) 94 b94u35) from sB_sB))))) (show sA (sA (sA (sB (sB (sF q 29 nu35) 92 b92u35) 94 b94u35) 93 b93u28) 95 b95u28) 93 b93u35 = (sA (sA (sB (sB (sF q 29 nu35) 92 b92u35) 94 b94u35) 93 b93u35) 95 b95u28) from (show sA (sA (sA (sB (sB (sF q 29 nu35) 92 b92u35) 94 b94u35) 93 b93u28) 95 b95u28) 93 b93u35 = (sA (sA (sB (sB (sF q 29 nu35) 92 b92u35) 94 b94u35) 93 b93u35) 95 b95u28) from Eq.trans (show sA (sA (sA (sB (sB (sF q 29 nu35) 92 b92u35) 94 b94u35) 93 b93u28) 95 b95u28) 93 b93u35 = sA (sA (sA (sB (sB (sF q 29 nu35) 92 b92u35) 94 b94u35) 93 b93u28) 93 b93u35) 95 b95u28 from sA_cm (by decide)) (congrArg (fun z => sA z 95 b95u28) (show sA (sA (sB (sB (sF q 29 nu35) 92 b92u35) 94 b94u35) 93 b93u28) 93 b93u35 = (sA (sB (sB (sF q 29 nu35) 92 b92u35) 94 b94u35) 93 b93u35) from sA_sA)))))) (show sA (sA (sA (sB (sB (sF q 29 nu35) 92 b92u35) 94 b94u35) 93 b93u35) 95 b95u28) 95 b95u35 = (sA (sA (sB (sB (sF q 29 nu35) 92 b92u35) 94 b94u35) 93 b93u35) 95 b95u35) from (show sA (sA (sA (sB (sB (sF q 29 nu35) 92 b92u35) 94 b94u35) 93 b93u35) 95 b95u28) 95 b95u35 = (sA (sA (sB (sB (sF q 29 nu35) 92 b92u35) 94 b94u35) 93 b93u35) 95 b95u35) from sA_sA)))
                    refine hs (f := dm_goto 204) rfl rfl ?_
                    exact hr (f := dm_vret) rfl rfl (⟨rfl, nu35, b92u35, b94u35, b93u35, b95u35, hSu35, fle_set (f := mid.toInt) hd (by rw [← hs0]; exact u11) (Or.inr (by omega)) hfu28 (by rw [show half.toInt = 2 ^ j by omega] at hpu35; exact hpu35), hM34⟩)
                  · skip
                    have h33 : u30.toInt > u32.toInt := h33
                    refine hs (f := dm_ild 177 10) rfl rfl ?_
                    refine hs (f := dm_goto 182) rfl rfl ?_
                    refine hs (f := dm_push 183 (.int 0)) rfl rfl ?_
                    refine r_inv rfl hM27 rfl (as := [.ref 68, .long mid, .long half, .int u30, .int 0]) rfl (Nat.le_of_ble_eq_true rfl) (hT_mono (by omega) (show hT 2 150 [.ref 68, .long mid, .long half, .int u30, .int 0] _ (fun r M' => r = none ∧ ∃ (n' : Int32) (c92 c94 : Nat → Int64) (c93 c95 : Nat → Int32), wS c92 n'.toInt ∧ n'.toInt ≤ nu28.toInt + 2 ∧ (∀ i : Int, 0 ≤ i → i < n'.toInt → rB c92 i = mid.toInt ∨ rB c92 i = mid.toInt + half.toInt ∨ ∃ k : Int, 0 ≤ k ∧ k < nu28.toInt ∧ rB c92 i = rB b92u28 k) ∧ Rm X (sA (sA (sB (sB (sF (sA (sA (sB (sB (sF q 29 nu28) 92 b92u28) 94 b94u28) 93 b93u28) 95 b95u28) 29 n') 92 c92) 94 c94) 93 c93) 95 c95) M') from hT_mono (Nat.le_refl _) (r_150 hM27 mid half u30 (0 : Int32) hSu28 (show nu28.toInt ≤ 22000 by omega) (by omega) (by omega) (by omega)) (fun r M' w => by
                        obtain ⟨w1, n', c92, c94, c93, c95, w2, w3, w4, w5⟩ := w
                        refine ⟨w1, n', c92, c94, c93, c95, w2, w3, fun i i0 i1 => ?_, w5⟩
                        rcases w4 i i0 i1 with z | z | ⟨k, k0, k1, k2, _⟩
                        · exact Or.inl z
                        · exact Or.inr (Or.inl z)
                        · exact Or.inr (Or.inr ⟨k, k0, k1, k2⟩))) (fun r1 M36 w => ?_))
                    obtain ⟨rfl, nu37, b92u37, b94u37, b93u37, b95u37, hSu37, hlu37, hpu37, hM36⟩ := w
                    replace hM36 := rm_to (q' := (sA (sA (sB (sB (sF q 29 nu37) 92 b92u37) 94 b94u37) 93 b93u37) 95 b95u37)) hM36 (Eq.trans (congrArg (fun z => sA z 95 b95u37) (Eq.trans (congrArg (fun z => sA z 93 b93u37) (Eq.trans (congrArg (fun z => sB z 94 b94u37) (Eq.trans (congrArg (fun z => sB z 92 b92u37) (show sF (sA (sA (sB (sB (sF q 29 nu28) 92 b92u28) 94 b94u28) 93 b93u28) 95 b95u28) 29 nu37 = (sA (sA (sB (sB (sF q 29 nu37) 92 b92u28) 94 b94u28) 93 b93u28) 95 b95u28) from (congrArg (fun z => (sA (sA (sB (sB z 92 b92u28) 94 b94u28) 93 b93u28) 95 b95u28)) (show sF (sF q 29 nu28) 29 nu37 = (sF q 29 nu37) from sF_sF)))) (show sB (sA (sA (sB (sB (sF q 29 nu37) 92 b92u28) 94 b94u28) 93 b93u28) 95 b95u28) 92 b92u37 = (sA (sA (sB (sB (sF q 29 nu37) 92 b92u37) 94 b94u28) 93 b93u28) 95 b95u28) from (congrArg (fun z => (sA (sA z 93 b93u28) 95 b95u28)) (show sB (sB (sB (sF q 29 nu37) 92 b92u28) 94 b94u28) 92 b92u37 = (sB (sB (sF q 29 nu37) 92 b92u37) 94 b94u28) from Eq.trans (show sB (sB (sB (sF q 29 nu37) 92 b92u28) 94 b94u28) 92 b92u37 = sB (sB (sB (sF q 29 nu37) 92 b92u28) 92 b92u37) 94 b94u28 from sB_cm (by decide)) (congrArg (fun z => sB z 94 b94u28) (show sB (sB (sF q 29 nu37) 92 b92u28) 92 b92u37 = (sB (sF q 29 nu37) 92 b92u37) from sB_sB))))))) (show sB (sA (sA (sB (sB (sF q 29 nu37) 92 b92u37) 94 b94u28) 93 b93u28) 95 b95u28) 94 b94u37 = (sA (sA (sB (sB (sF q 29 nu37) 92 b92u37) 94 b94u37) 93 b93u28) 95 b95u28) from (congrArg (fun z => (sA (sA z 93 b93u28) 95 b95u28)) (show sB (sB (sB (sF q 29 nu37) 92 b92u37) 94 b94u28) 94 b94u37 = (sB (sB (sF q 29 nu37) 92 b92u37) 94 b94u37) from sB_sB))))) (show sA (sA (sA (sB (sB (sF q 29 nu37) 92 b92u37) 94 b94u37) 93 b93u28) 95 b95u28) 93 b93u37 = (sA (sA (sB (sB (sF q 29 nu37) 92 b92u37) 94 b94u37) 93 b93u37) 95 b95u28) from (show sA (sA (sA (sB (sB (sF q 29 nu37) 92 b92u37) 94 b94u37) 93 b93u28) 95 b95u28) 93 b93u37 = (sA (sA (sB (sB (sF q 29 nu37) 92 b92u37) 94 b94u37) 93 b93u37) 95 b95u28) from Eq.trans (show sA (sA (sA (sB (sB (sF q 29 nu37) 92 b92u37) 94 b94u37) 93 b93u28) 95 b95u28) 93 b93u37 = sA (sA (sA (sB (sB (sF q 29 nu37) 92 b92u37) 94 b94u37) 93 b93u28) 93 b93u37) 95 b95u28 from sA_cm (by decide)) (congrArg (fun z => sA z 95 b95u28) (show sA (sA (sB (sB (sF q 29 nu37) 92 b92u37) 94 b94u37) 93 b93u28) 93 b93u37 = (sA (sB (sB (sF q 29 nu37) 92 b92u37) 94 b94u37) 93 b93u37) from sA_sA)))))) (show sA (sA (sA (sB (sB (sF q 29 nu37) 92 b92u37) 94 b94u37) 93 b93u37) 95 b95u28) 95 b95u37 = (sA (sA (sB (sB (sF q 29 nu37) 92 b92u37) 94 b94u37) 93 b93u37) 95 b95u37) from (show sA (sA (sA (sB (sB (sF q 29 nu37) 92 b92u37) 94 b94u37) 93 b93u37) 95 b95u28) 95 b95u37 = (sA (sA (sB (sB (sF q 29 nu37) 92 b92u37) 94 b94u37) 93 b93u37) 95 b95u37) from sA_sA)))
                    refine hs (f := dm_goto 204) rfl rfl ?_
                    exact hr (f := dm_vret) rfl rfl (⟨rfl, nu37, b92u37, b94u37, b93u37, b95u37, hSu37, fle_set (f := mid.toInt) hd (by rw [← hs0]; exact u11) (Or.inr (by omega)) hfu28 (by rw [show half.toInt = 2 ^ j by omega] at hpu37; exact hpu37), hM36⟩)
              · skip
                have h19 : (Int32.ofNat P18).toInt = 1 := h19
                refine hs (f := dm_ald 74 0) rfl rfl ?_
                refine hs (f := dm_lld 76 8) rfl rfl ?_
                refine hs (f := dm_lld 78 6) rfl rfl ?_
                refine r_inv rfl hM rfl (as := [.ref 68, .long mid, .long half]) rfl (Nat.le_of_ble_eq_true rfl) (hT_mono (by omega) (IH j (by omega) mid half n b92 b94 b93 b95 _ hM hS hH (by omega) (by omega) (by omega) (by rw [show mid.toInt = f.toInt + 2 ^ j by omega]; exact dy_r hd) (fun _ => Or.inr ⟨f.toInt, hd, by rw [← hs0]; exact u11, by omega⟩)) (fun r1 M38 w => ?_))
                obtain ⟨rfl, nu39, b92u39, b94u39, b93u39, b95u39, hSu39, hlu39, hM38⟩ := w
                have hfu39 : fle b92 n.toInt b92u39 nu39.toInt := fle_tr (fle_rf _ _) hlu39
                have hHu39 : HN b92u39 nu39.toInt 60 0 ≤ 42000 := Nat.le_trans (HN_mono hfu39 60 0 (dy_0 60)) hH
                have hnu39 := HN_len hSu39
                refine hs (f := dm_ald 82 0) rfl rfl ?_
                refine hs (f := dm_lld 83 1) rfl rfl ?_
                refine hs (f := dm_lld 85 6) rfl rfl ?_
                refine r_inv rfl hM38 rfl (as := [.ref 68, .long f, .long half]) rfl (Nat.le_of_ble_eq_true rfl) (hT_mono (by omega) (show hT 2 146 [.ref 68, .long f, .long half] _ (fun r M' => ∃ v : Int32, r = some (.int v) ∧ M' = _) from r_146 hM38 f half hSu39 (show nu39.toInt ≤ 24000 by omega) (by omega) (by omega) (by omega)) (fun r1 M40 w => ?_))
                obtain ⟨u41, rfl, rfl⟩ := w
                refine hs (f := dm_ist 90 10) (lv' := [(10, .int u41), (8, .long mid), (6, .long half), (5, .int (Int32.ofNat P2)), (0, .ref 68), (1, .long f), (3, .long s)]) rfl rfl ?_
                refine hs (f := dm_ald 91 0) rfl rfl ?_
                refine hs (f := dm_lld 93 8) rfl rfl ?_
                refine hs (f := dm_lld 95 6) rfl rfl ?_
                refine r_inv rfl hM38 rfl (as := [.ref 68, .long mid, .long half]) rfl (Nat.le_of_ble_eq_true rfl) (hT_mono (by omega) (show hT 2 147 [.ref 68, .long mid, .long half] _ (fun r M' => r = some (.int (leastF b92u39 b93u39 nu39.toInt mid.toInt half.toInt)) ∧ M' = _) from r_147 hM38 mid half hSu39 (show nu39.toInt ≤ 24000 by omega) (by omega) (by omega) (by omega)) (fun r1 M42 w => ?_))
                obtain ⟨rfl, rfl⟩ := w
                generalize leastF b92u39 b93u39 nu39.toInt mid.toInt half.toInt = u43
                refine hs (f := dm_ist 100 11) (lv' := [(11, .int u43), (10, .int u41), (8, .long mid), (6, .long half), (5, .int (Int32.ofNat P2)), (0, .ref 68), (1, .long f), (3, .long s)]) rfl rfl ?_
                refine hs (f := dm_ald 101 0) rfl rfl ?_
                refine hs (f := dm_lld 102 1) rfl rfl ?_
                refine hs (f := dm_lld 104 6) rfl rfl ?_
                refine hs (f := dm_ild 106 10) rfl rfl ?_
                refine hs (f := dm_ild 108 11) rfl rfl ?_
                refine g_ic_le (n := 111) (tt := 116) rfl (fun h44 => ?_) (fun h44 => ?_)
                · skip
                  have h44 : u41.toInt ≤ u43.toInt := h44
                  refine hs (f := dm_ild 118 11) rfl rfl ?_
                  refine hs (f := dm_push 119 (.int 0)) rfl rfl ?_
                  refine r_inv rfl hM38 rfl (as := [.ref 68, .long f, .long half, .int u43, .int 0]) rfl (Nat.le_of_ble_eq_true rfl) (hT_mono (by omega) (show hT 2 150 [.ref 68, .long f, .long half, .int u43, .int 0] _ (fun r M' => r = none ∧ ∃ (n' : Int32) (c92 c94 : Nat → Int64) (c93 c95 : Nat → Int32), wS c92 n'.toInt ∧ n'.toInt ≤ nu39.toInt + 2 ∧ (∀ i : Int, 0 ≤ i → i < n'.toInt → rB c92 i = f.toInt ∨ rB c92 i = f.toInt + half.toInt ∨ ∃ k : Int, 0 ≤ k ∧ k < nu39.toInt ∧ rB c92 i = rB b92u39 k) ∧ Rm X (sA (sA (sB (sB (sF (sA (sA (sB (sB (sF q 29 nu39) 92 b92u39) 94 b94u39) 93 b93u39) 95 b95u39) 29 n') 92 c92) 94 c94) 93 c93) 95 c95) M') from hT_mono (Nat.le_refl _) (r_150 hM38 f half u43 (0 : Int32) hSu39 (show nu39.toInt ≤ 22000 by omega) (by omega) (by omega) (by omega)) (fun r M' w => by
                      obtain ⟨w1, n', c92, c94, c93, c95, w2, w3, w4, w5⟩ := w
                      refine ⟨w1, n', c92, c94, c93, c95, w2, w3, fun i i0 i1 => ?_, w5⟩
                      rcases w4 i i0 i1 with z | z | ⟨k, k0, k1, k2, _⟩
                      · exact Or.inl z
                      · exact Or.inr (Or.inl z)
                      · exact Or.inr (Or.inr ⟨k, k0, k1, k2⟩))) (fun r1 M45 w => ?_))
                  obtain ⟨rfl, nu46, b92u46, b94u46, b93u46, b95u46, hSu46, hlu46, hpu46, hM45⟩ := w
                  replace hM45 := rm_to (q' := (sA (sA (sB (sB (sF q 29 nu46) 92 b92u46) 94 b94u46) 93 b93u46) 95 b95u46)) hM45 (Eq.trans (congrArg (fun z => sA z 95 b95u46) (Eq.trans (congrArg (fun z => sA z 93 b93u46) (Eq.trans (congrArg (fun z => sB z 94 b94u46) (Eq.trans (congrArg (fun z => sB z 92 b92u46) (show sF (sA (sA (sB (sB (sF q 29 nu39) 92 b92u39) 94 b94u39) 93 b93u39) 95 b95u39) 29 nu46 = (sA (sA (sB (sB (sF q 29 nu46) 92 b92u39) 94 b94u39) 93 b93u39) 95 b95u39) from (congrArg (fun z => (sA (sA (sB (sB z 92 b92u39) 94 b94u39) 93 b93u39) 95 b95u39)) (show sF (sF q 29 nu39) 29 nu46 = (sF q 29 nu46) from sF_sF)))) (show sB (sA (sA (sB (sB (sF q 29 nu46) 92 b92u39) 94 b94u39) 93 b93u39) 95 b95u39) 92 b92u46 = (sA (sA (sB (sB (sF q 29 nu46) 92 b92u46) 94 b94u39) 93 b93u39) 95 b95u39) from (congrArg (fun z => (sA (sA z 93 b93u39) 95 b95u39)) (show sB (sB (sB (sF q 29 nu46) 92 b92u39) 94 b94u39) 92 b92u46 = (sB (sB (sF q 29 nu46) 92 b92u46) 94 b94u39) from Eq.trans (show sB (sB (sB (sF q 29 nu46) 92 b92u39) 94 b94u39) 92 b92u46 = sB (sB (sB (sF q 29 nu46) 92 b92u39) 92 b92u46) 94 b94u39 from sB_cm (by decide)) (congrArg (fun z => sB z 94 b94u39) (show sB (sB (sF q 29 nu46) 92 b92u39) 92 b92u46 = (sB (sF q 29 nu46) 92 b92u46) from sB_sB))))))) (show sB (sA (sA (sB (sB (sF q 29 nu46) 92 b92u46) 94 b94u39) 93 b93u39) 95 b95u39) 94 b94u46 = (sA (sA (sB (sB (sF q 29 nu46) 92 b92u46) 94 b94u46) 93 b93u39) 95 b95u39) from (congrArg (fun z => (sA (sA z 93 b93u39) 95 b95u39)) (show sB (sB (sB (sF q 29 nu46) 92 b92u46) 94 b94u39) 94 b94u46 = (sB (sB (sF q 29 nu46) 92 b92u46) 94 b94u46) from sB_sB))))) (show sA (sA (sA (sB (sB (sF q 29 nu46) 92 b92u46) 94 b94u46) 93 b93u39) 95 b95u39) 93 b93u46 = (sA (sA (sB (sB (sF q 29 nu46) 92 b92u46) 94 b94u46) 93 b93u46) 95 b95u39) from (show sA (sA (sA (sB (sB (sF q 29 nu46) 92 b92u46) 94 b94u46) 93 b93u39) 95 b95u39) 93 b93u46 = (sA (sA (sB (sB (sF q 29 nu46) 92 b92u46) 94 b94u46) 93 b93u46) 95 b95u39) from Eq.trans (show sA (sA (sA (sB (sB (sF q 29 nu46) 92 b92u46) 94 b94u46) 93 b93u39) 95 b95u39) 93 b93u46 = sA (sA (sA (sB (sB (sF q 29 nu46) 92 b92u46) 94 b94u46) 93 b93u39) 93 b93u46) 95 b95u39 from sA_cm (by decide)) (congrArg (fun z => sA z 95 b95u39) (show sA (sA (sB (sB (sF q 29 nu46) 92 b92u46) 94 b94u46) 93 b93u39) 93 b93u46 = (sA (sB (sB (sF q 29 nu46) 92 b92u46) 94 b94u46) 93 b93u46) from sA_sA)))))) (show sA (sA (sA (sB (sB (sF q 29 nu46) 92 b92u46) 94 b94u46) 93 b93u46) 95 b95u39) 95 b95u46 = (sA (sA (sB (sB (sF q 29 nu46) 92 b92u46) 94 b94u46) 93 b93u46) 95 b95u46) from (show sA (sA (sA (sB (sB (sF q 29 nu46) 92 b92u46) 94 b94u46) 93 b93u46) 95 b95u39) 95 b95u46 = (sA (sA (sB (sB (sF q 29 nu46) 92 b92u46) 94 b94u46) 93 b93u46) 95 b95u46) from sA_sA)))
                  refine hs (f := dm_goto 204) rfl rfl ?_
                  exact hr (f := dm_vret) rfl rfl (⟨rfl, nu46, b92u46, b94u46, b93u46, b95u46, hSu46, fle_set (f := f.toInt) hd (by rw [← hs0]; exact u11) (Or.inl rfl) hfu39 (by rw [show half.toInt = 2 ^ j by omega] at hpu46; exact hpu46), hM45⟩)
                · skip
                  have h44 : u41.toInt > u43.toInt := h44
                  refine hs (f := dm_ild 113 10) rfl rfl ?_
                  refine hs (f := dm_goto 118) rfl rfl ?_
                  refine hs (f := dm_push 119 (.int 0)) rfl rfl ?_
                  refine r_inv rfl hM38 rfl (as := [.ref 68, .long f, .long half, .int u41, .int 0]) rfl (Nat.le_of_ble_eq_true rfl) (hT_mono (by omega) (show hT 2 150 [.ref 68, .long f, .long half, .int u41, .int 0] _ (fun r M' => r = none ∧ ∃ (n' : Int32) (c92 c94 : Nat → Int64) (c93 c95 : Nat → Int32), wS c92 n'.toInt ∧ n'.toInt ≤ nu39.toInt + 2 ∧ (∀ i : Int, 0 ≤ i → i < n'.toInt → rB c92 i = f.toInt ∨ rB c92 i = f.toInt + half.toInt ∨ ∃ k : Int, 0 ≤ k ∧ k < nu39.toInt ∧ rB c92 i = rB b92u39 k) ∧ Rm X (sA (sA (sB (sB (sF (sA (sA (sB (sB (sF q 29 nu39) 92 b92u39) 94 b94u39) 93 b93u39) 95 b95u39) 29 n') 92 c92) 94 c94) 93 c93) 95 c95) M') from hT_mono (Nat.le_refl _) (r_150 hM38 f half u41 (0 : Int32) hSu39 (show nu39.toInt ≤ 22000 by omega) (by omega) (by omega) (by omega)) (fun r M' w => by
                      obtain ⟨w1, n', c92, c94, c93, c95, w2, w3, w4, w5⟩ := w
                      refine ⟨w1, n', c92, c94, c93, c95, w2, w3, fun i i0 i1 => ?_, w5⟩
                      rcases w4 i i0 i1 with z | z | ⟨k, k0, k1, k2, _⟩
                      · exact Or.inl z
                      · exact Or.inr (Or.inl z)
                      · exact Or.inr (Or.inr ⟨k, k0, k1, k2⟩))) (fun r1 M47 w => ?_))
                  obtain ⟨rfl, nu48, b92u48, b94u48, b93u48, b95u48, hSu48, hlu48, hpu48, hM47⟩ := w
                  replace hM47 := rm_to (q' := (sA (sA (sB (sB (sF q 29 nu48) 92 b92u48) 94 b94u48) 93 b93u48) 95 b95u48)) hM47 (Eq.trans (congrArg (fun z => sA z 95 b95u48) (Eq.trans (congrArg (fun z => sA z 93 b93u48) (Eq.trans (congrArg (fun z => sB z 94 b94u48) (Eq.trans (congrArg (fun z => sB z 92 b92u48) (show sF (sA (sA (sB (sB (sF q 29 nu39) 92 b92u39) 94 b94u39) 93 b93u39) 95 b95u39) 29 nu48 = (sA (sA (sB (sB (sF q 29 nu48) 92 b92u39) 94 b94u39) 93 b93u39) 95 b95u39) from (congrArg (fun z => (sA (sA (sB (sB z 92 b92u39) 94 b94u39) 93 b93u39) 95 b95u39)) (show sF (sF q 29 nu39) 29 nu48 = (sF q 29 nu48) from sF_sF)))) (show sB (sA (sA (sB (sB (sF q 29 nu48) 92 b92u39) 94 b94u39) 93 b93u39) 95 b95u39) 92 b92u48 = (sA (sA (sB (sB (sF q 29 nu48) 92 b92u48) 94 b94u39) 93 b93u39) 95 b95u39) from (congrArg (fun z => (sA (sA z 93 b93u39) 95 b95u39)) (show sB (sB (sB (sF q 29 nu48) 92 b92u39) 94 b94u39) 92 b92u48 = (sB (sB (sF q 29 nu48) 92 b92u48) 94 b94u39) from Eq.trans (show sB (sB (sB (sF q 29 nu48) 92 b92u39) 94 b94u39) 92 b92u48 = sB (sB (sB (sF q 29 nu48) 92 b92u39) 92 b92u48) 94 b94u39 from sB_cm (by decide)) (congrArg (fun z => sB z 94 b94u39) (show sB (sB (sF q 29 nu48) 92 b92u39) 92 b92u48 = (sB (sF q 29 nu48) 92 b92u48) from sB_sB))))))) (show sB (sA (sA (sB (sB (sF q 29 nu48) 92 b92u48) 94 b94u39) 93 b93u39) 95 b95u39) 94 b94u48 = (sA (sA (sB (sB (sF q 29 nu48) 92 b92u48) 94 b94u48) 93 b93u39) 95 b95u39) from (congrArg (fun z => (sA (sA z 93 b93u39) 95 b95u39)) (show sB (sB (sB (sF q 29 nu48) 92 b92u48) 94 b94u39) 94 b94u48 = (sB (sB (sF q 29 nu48) 92 b92u48) 94 b94u48) from sB_sB))))) (show sA (sA (sA (sB (sB (sF q 29 nu48) 92 b92u48) 94 b94u48) 93 b93u39) 95 b95u39) 93 b93u48 = (sA (sA (sB (sB (sF q 29 nu48) 92 b92u48) 94 b94u48) 93 b93u48) 95 b95u39) from (show sA (sA (sA (sB (sB (sF q 29 nu48) 92 b92u48) 94 b94u48) 93 b93u39) 95 b95u39) 93 b93u48 = (sA (sA (sB (sB (sF q 29 nu48) 92 b92u48) 94 b94u48) 93 b93u48) 95 b95u39) from Eq.trans (show sA (sA (sA (sB (sB (sF q 29 nu48) 92 b92u48) 94 b94u48) 93 b93u39) 95 b95u39) 93 b93u48 = sA (sA (sA (sB (sB (sF q 29 nu48) 92 b92u48) 94 b94u48) 93 b93u39) 93 b93u48) 95 b95u39 from sA_cm (by decide)) (congrArg (fun z => sA z 95 b95u39) (show sA (sA (sB (sB (sF q 29 nu48) 92 b92u48) 94 b94u48) 93 b93u39) 93 b93u48 = (sA (sB (sB (sF q 29 nu48) 92 b92u48) 94 b94u48) 93 b93u48) from sA_sA)))))) (show sA (sA (sA (sB (sB (sF q 29 nu48) 92 b92u48) 94 b94u48) 93 b93u48) 95 b95u39) 95 b95u48 = (sA (sA (sB (sB (sF q 29 nu48) 92 b92u48) 94 b94u48) 93 b93u48) 95 b95u48) from (show sA (sA (sA (sB (sB (sF q 29 nu48) 92 b92u48) 94 b94u48) 93 b93u48) 95 b95u39) 95 b95u48 = (sA (sA (sB (sB (sF q 29 nu48) 92 b92u48) 94 b94u48) 93 b93u48) 95 b95u48) from sA_sA)))
                  refine hs (f := dm_goto 204) rfl rfl ?_
                  exact hr (f := dm_vret) rfl rfl (⟨rfl, nu48, b92u48, b94u48, b93u48, b95u48, hSu48, fle_set (f := f.toInt) hd (by rw [← hs0]; exact u11) (Or.inl rfl) hfu39 (by rw [show half.toInt = 2 ^ j by omega] at hpu48; exact hpu48), hM47⟩)
          · skip
            have h12 : (Int32.ofNat P2).toInt = 1 := h12
            refine hs (f := dm_ald 36 0) rfl rfl ?_
            refine hs (f := dm_lld 37 1) rfl rfl ?_
            refine hs (f := dm_lld 38 3) rfl rfl ?_
            refine hs (f := dm_ald 39 0) rfl rfl ?_
            refine hs (f := dm_lld 40 1) rfl rfl ?_
            refine hs (f := dm_lld 41 3) rfl rfl ?_
            refine r_inv rfl hM rfl (as := [.ref 68, .long f, .long s]) rfl (Nat.le_of_ble_eq_true rfl) (hT_mono (by omega) (show hT 2 146 [.ref 68, .long f, .long s] _ (fun r M' => ∃ v : Int32, r = some (.int v) ∧ M' = _) from r_146 hM f s hS (show n.toInt ≤ 24000 by omega) (by omega) (by omega) (by omega)) (fun r1 M49 w => ?_))
            obtain ⟨u50, rfl, rfl⟩ := w
            refine hs (f := dm_push 45 (.int 0)) rfl rfl ?_
            refine r_inv rfl hM rfl (as := [.ref 68, .long f, .long s, .int u50, .int 0]) rfl (Nat.le_of_ble_eq_true rfl) (hT_mono (by omega) (show hT 2 150 [.ref 68, .long f, .long s, .int u50, .int 0] _ (fun r M' => r = none ∧ ∃ (n' : Int32) (c92 c94 : Nat → Int64) (c93 c95 : Nat → Int32), wS c92 n'.toInt ∧ n'.toInt ≤ n.toInt + 2 ∧ (∀ i : Int, 0 ≤ i → i < n'.toInt → rB c92 i = f.toInt ∨ rB c92 i = f.toInt + s.toInt ∨ ∃ k : Int, 0 ≤ k ∧ k < n.toInt ∧ rB c92 i = rB b92 k) ∧ Rm X (sA (sA (sB (sB (sF (sA (sA (sB (sB (sF q 29 n) 92 b92) 94 b94) 93 b93) 95 b95) 29 n') 92 c92) 94 c94) 93 c93) 95 c95) M') from hT_mono (Nat.le_refl _) (r_150 hM f s u50 (0 : Int32) hS (show n.toInt ≤ 22000 by omega) (by omega) (by omega) (by omega)) (fun r M' w => by
                obtain ⟨w1, n', c92, c94, c93, c95, w2, w3, w4, w5⟩ := w
                refine ⟨w1, n', c92, c94, c93, c95, w2, w3, fun i i0 i1 => ?_, w5⟩
                rcases w4 i i0 i1 with z | z | ⟨k, k0, k1, k2, _⟩
                · exact Or.inl z
                · exact Or.inr (Or.inl z)
                · exact Or.inr (Or.inr ⟨k, k0, k1, k2⟩))) (fun r1 M51 w => ?_))
            obtain ⟨rfl, nu52, b92u52, b94u52, b93u52, b95u52, hSu52, hlu52, hpu52, hM51⟩ := w
            replace hM51 := rm_to (q' := (sA (sA (sB (sB (sF q 29 nu52) 92 b92u52) 94 b94u52) 93 b93u52) 95 b95u52)) hM51 (Eq.trans (congrArg (fun z => sA z 95 b95u52) (Eq.trans (congrArg (fun z => sA z 93 b93u52) (Eq.trans (congrArg (fun z => sB z 94 b94u52) (Eq.trans (congrArg (fun z => sB z 92 b92u52) (show sF (sA (sA (sB (sB (sF q 29 n) 92 b92) 94 b94) 93 b93) 95 b95) 29 nu52 = (sA (sA (sB (sB (sF q 29 nu52) 92 b92) 94 b94) 93 b93) 95 b95) from (congrArg (fun z => (sA (sA (sB (sB z 92 b92) 94 b94) 93 b93) 95 b95)) (show sF (sF q 29 n) 29 nu52 = (sF q 29 nu52) from sF_sF)))) (show sB (sA (sA (sB (sB (sF q 29 nu52) 92 b92) 94 b94) 93 b93) 95 b95) 92 b92u52 = (sA (sA (sB (sB (sF q 29 nu52) 92 b92u52) 94 b94) 93 b93) 95 b95) from (congrArg (fun z => (sA (sA z 93 b93) 95 b95)) (show sB (sB (sB (sF q 29 nu52) 92 b92) 94 b94) 92 b92u52 = (sB (sB (sF q 29 nu52) 92 b92u52) 94 b94) from Eq.trans (show sB (sB (sB (sF q 29 nu52) 92 b92) 94 b94) 92 b92u52 = sB (sB (sB (sF q 29 nu52) 92 b92) 92 b92u52) 94 b94 from sB_cm (by decide)) (congrArg (fun z => sB z 94 b94) (show sB (sB (sF q 29 nu52) 92 b92) 92 b92u52 = (sB (sF q 29 nu52) 92 b92u52) from sB_sB))))))) (show sB (sA (sA (sB (sB (sF q 29 nu52) 92 b92u52) 94 b94) 93 b93) 95 b95) 94 b94u52 = (sA (sA (sB (sB (sF q 29 nu52) 92 b92u52) 94 b94u52) 93 b93) 95 b95) from (congrArg (fun z => (sA (sA z 93 b93) 95 b95)) (show sB (sB (sB (sF q 29 nu52) 92 b92u52) 94 b94) 94 b94u52 = (sB (sB (sF q 29 nu52) 92 b92u52) 94 b94u52) from sB_sB))))) (show sA (sA (sA (sB (sB (sF q 29 nu52) 92 b92u52) 94 b94u52) 93 b93) 95 b95) 93 b93u52 = (sA (sA (sB (sB (sF q 29 nu52) 92 b92u52) 94 b94u52) 93 b93u52) 95 b95) from (show sA (sA (sA (sB (sB (sF q 29 nu52) 92 b92u52) 94 b94u52) 93 b93) 95 b95) 93 b93u52 = (sA (sA (sB (sB (sF q 29 nu52) 92 b92u52) 94 b94u52) 93 b93u52) 95 b95) from Eq.trans (show sA (sA (sA (sB (sB (sF q 29 nu52) 92 b92u52) 94 b94u52) 93 b93) 95 b95) 93 b93u52 = sA (sA (sA (sB (sB (sF q 29 nu52) 92 b92u52) 94 b94u52) 93 b93) 93 b93u52) 95 b95 from sA_cm (by decide)) (congrArg (fun z => sA z 95 b95) (show sA (sA (sB (sB (sF q 29 nu52) 92 b92u52) 94 b94u52) 93 b93) 93 b93u52 = (sA (sB (sB (sF q 29 nu52) 92 b92u52) 94 b94u52) 93 b93u52) from sA_sA)))))) (show sA (sA (sA (sB (sB (sF q 29 nu52) 92 b92u52) 94 b94u52) 93 b93u52) 95 b95) 95 b95u52 = (sA (sA (sB (sB (sF q 29 nu52) 92 b92u52) 94 b94u52) 93 b93u52) 95 b95u52) from (show sA (sA (sA (sB (sB (sF q 29 nu52) 92 b92u52) 94 b94u52) 93 b93u52) 95 b95) 95 b95u52 = (sA (sA (sB (sB (sF q 29 nu52) 92 b92u52) 94 b94u52) 93 b93u52) 95 b95u52) from sA_sA)))
            exact hr (f := dm_vret) rfl rfl (⟨rfl, nu52, b92u52, b94u52, b93u52, b95u52, hSu52, by
                  rcases hp1 (by omega) with ⟨z1, z2⟩ | ⟨F, z1, z2, z3⟩
                  · exact fle_root hSu52 (by rw [z1, z2] at hpu52; exact hpu52)
                  · exact fle_set z1 z2 z3 (fle_rf _ _) (by rw [hs0] at hpu52; exact hpu52), hM51⟩)
