/-! questions to the reference -/
theorem r_177 {M : dm_Mem} (x : Int64) (n : Int32) : hT 1 177 [.long x, .int n] M (fun r M' => M' = M ∧ ((r = some (.int 1) ∧ 0 ≤ n.toInt ∧ n.toInt ≤ 60) ∨ (r = some (.int 0) ∧ True))) := by
  refine hx (t := cd_177) rfl (Nat.le_of_ble_eq_true rfl) (lv := [(0, .long x), (2, .int n)]) rfl ?_
  refine hs (f := dm_ild 1 2) rfl rfl ?_
  refine g_if_lt (n := 4) (tt := 28) rfl (fun h1 => ?_) (fun h1 => ?_)
  · skip
    have h1 : n.toInt < 0 := h1
    refine hs (f := dm_push 29 (.int 0)) rfl rfl ?_
    exact h_retB rfl isB_0 (⟨rfl, by first | exact Or.inl ⟨rfl, by omega, by omega⟩ | exact Or.inr ⟨rfl, trivial⟩⟩)
  · skip
    have h1 : n.toInt ≥ 0 := h1
    refine hs (f := dm_ild 5 2) rfl rfl ?_
    refine hs (f := dm_push 7 (.int 60)) rfl rfl ?_
    refine g_ic_gt (n := 10) (tt := 28) rfl (fun h2 => ?_) (fun h2 => ?_)
    · skip
      have h2 : n.toInt > 60 := h2
      refine hs (f := dm_push 29 (.int 0)) rfl rfl ?_
      exact h_retB rfl isB_0 (⟨rfl, by first | exact Or.inl ⟨rfl, by omega, by omega⟩ | exact Or.inr ⟨rfl, trivial⟩⟩)
    · skip
      have h2 : n.toInt ≤ 60 := h2
      refine hs (f := dm_lld 11 0) rfl rfl ?_
      refine hs (f := dm_push 12 (.long 0)) rfl rfl ?_
      refine g_lc_lt (x := x) (y := (0 : Int64)) (m := 13) (n := 16) (tt := 28) rfl rfl (fun h3 => ?_) (fun h3 => ?_)
      · skip
        have h3 : x.toInt < 0 := h3
        refine hs (f := dm_push 29 (.int 0)) rfl rfl ?_
        exact h_retB rfl isB_0 (⟨rfl, by first | exact Or.inl ⟨rfl, by omega, by omega⟩ | exact Or.inr ⟨rfl, trivial⟩⟩)
      · skip
        have h3 : x.toInt ≥ 0 := h3
        refine hs (f := dm_lld 17 0) rfl rfl ?_
        refine hs (f := dm_push 18 (.long 1)) rfl rfl ?_
        refine hs (f := dm_ild 19 2) rfl rfl ?_
        refine hs (f := dm_li 20 (fun x y => x <<< (y.toInt64 &&& 63))) (st' := [.long ((1 : Int64) <<< (n.toInt64 &&& 63)), .long x]) rfl rfl ?_
        refine g_lc_ge (x := x) (y := ((1 : Int64) <<< (n.toInt64 &&& 63))) (m := 21) (n := 24) (tt := 28) rfl rfl (fun h4 => ?_) (fun h4 => ?_)
        · skip
          have h4 : x.toInt ≥ ((1 : Int64) <<< (n.toInt64 &&& 63)).toInt := h4
          refine hs (f := dm_push 29 (.int 0)) rfl rfl ?_
          exact h_retB rfl isB_0 (⟨rfl, by first | exact Or.inl ⟨rfl, by omega, by omega⟩ | exact Or.inr ⟨rfl, trivial⟩⟩)
        · skip
          have h4 : x.toInt < ((1 : Int64) <<< (n.toInt64 &&& 63)).toInt := h4
          refine hs (f := dm_push 25 (.int 1)) rfl rfl ?_
          refine hs (f := dm_goto 29) rfl rfl ?_
          exact h_retB rfl isB_1 (⟨rfl, by first | exact Or.inl ⟨rfl, by omega, by omega⟩ | exact Or.inr ⟨rfl, trivial⟩⟩)
theorem r_178 {X : dm_Mem} {q : rS} {M : dm_Mem} (hM : Rm X q M) (s : Int32) (p : Int64) (h0 : 0 ≤ s.toInt ∧ s.toInt < 1000) (h1 : 0 ≤ rA (q.2.2.1 73) s.toInt) (h2 : rA (q.2.2.1 73) s.toInt < rA (q.2.2.1 73) (s.toInt + 1)) (h3 : rA (q.2.2.1 73) (s.toInt + 1) ≤ 24000) : hT 1 178 [.ref 68, .int s, .long p] M (fun r M' => ∃ v : Int32, r = some (.int v) ∧ M' = M) := by
  have j8 : ∀ (nn : Nat), ∀ (k : Int32) (M : dm_Mem), Rm X q M → (rA (q.2.2.1 73) s.toInt ≤ k.toInt) → (k.toInt < rA (q.2.2.1 73) (s.toInt + 1)) → (rA (q.2.2.1 73) (s.toInt + 1) - k.toInt).toNat = nn → hG 0 cd_178 8 [(4, .int k), (0, .ref 68), (1, .int s), (2, .long p)] [] M (fun r M' => ∃ v : Int32, r = some (.int v) ∧ M' = M) := by
    intro nn
    induction nn using Nat.strongRecOn with
    | ind nn IH =>
      intro k M hM k0 k1 hms
      refine hs (f := dm_ild 10 4) rfl rfl ?_
      refine hs (f := dm_push 11 (.int 1)) rfl rfl ?_
      have e1 : (k + (1 : Int32)).toInt = k.toInt + 1 := by have w := i_addc (x := k) (y := (1 : Int32)) 1 rfl (by omega) (by omega); omega
      refine hs (f := dm_ii 12 (fun x y => x + y)) (st' := [.int (k + (1 : Int32))]) rfl rfl ?_
      refine hs (f := dm_ald 13 0) rfl rfl ?_
      refine r_geta (c := 70) rfl hM rfl ?_
      refine hs (f := dm_ild 17 1) rfl rfl ?_
      refine hs (f := dm_push 18 (.int 1)) rfl rfl ?_
      have e2 : (s + (1 : Int32)).toInt = s.toInt + 1 := by have w := i_addc (x := s) (y := (1 : Int32)) 1 rfl (by omega) (by omega); omega
      refine hs (f := dm_ii 19 (fun x y => x + y)) (st' := [.int (s + (1 : Int32)), .ref 73, .int (k + (1 : Int32))]) rfl rfl ?_
      refine r_iald (L := 1001) (i := (s + (1 : Int32))) ((q.2.2.1 73) (s + (1 : Int32)).toInt.toNat) rfl hM rfl (by omega) rfl ?_
      generalize g4 : (q.2.2.1 73) (s + (1 : Int32)).toInt.toNat = v3
      have x5 : v3.toInt = rA (q.2.2.1 73) (s.toInt + 1) := rA_of (i := (s + (1 : Int32))) g4 e2
      refine g_ic_ge (n := 23) (tt := 43) rfl (fun h6 => ?_) (fun h6 => ?_)
      · skip
        have h6 : (k + (1 : Int32)).toInt ≥ v3.toInt := h6
        refine hs (f := dm_ald 44 0) rfl rfl ?_
        refine r_geta (c := 67) rfl hM rfl ?_
        refine hs (f := dm_ild 49 4) rfl rfl ?_
        refine r_iald (L := 24000) (i := k) ((q.2.2.1 70) k.toInt.toNat) rfl hM rfl (by omega) rfl ?_
        generalize g8 : (q.2.2.1 70) k.toInt.toNat = v7
        have x9 : v7.toInt = rA (q.2.2.1 70) k.toInt := rA_of (i := k) g8 rfl
        exact hr (f := dm_ret .int) rfl rfl (⟨_, rfl, rfl⟩)
      · skip
        have h6 : (k + (1 : Int32)).toInt < v3.toInt := h6
        refine hs (f := dm_ald 24 0) rfl rfl ?_
        refine r_geta (c := 66) rfl hM rfl ?_
        refine hs (f := dm_ild 29 4) rfl rfl ?_
        refine hs (f := dm_push 30 (.int 1)) rfl rfl ?_
        have e10 : (k + (1 : Int32)).toInt = k.toInt + 1 := by have w := i_addc (x := k) (y := (1 : Int32)) 1 rfl (by omega) (by omega); omega
        refine hs (f := dm_ii 31 (fun x y => x + y)) (st' := [.int (k + (1 : Int32)), .ref 69]) rfl rfl ?_
        refine r_lald (L := 24000) (i := (k + (1 : Int32))) ((q.2.2.2 69) (k + (1 : Int32)).toInt.toNat) rfl hM rfl (by omega) rfl ?_
        generalize g12 : (q.2.2.2 69) (k + (1 : Int32)).toInt.toNat = v11
        have x13 : v11.toInt = rB (q.2.2.2 69) (k.toInt + 1) := rB_of (i := (k + (1 : Int32))) g12 e10
        refine hs (f := dm_lld 33 2) rfl rfl ?_
        refine g_lc_gt (x := v11) (y := p) (m := 34) (n := 37) (tt := 43) rfl rfl (fun h14 => ?_) (fun h14 => ?_)
        · skip
          have h14 : v11.toInt > p.toInt := h14
          refine hs (f := dm_ald 44 0) rfl rfl ?_
          refine r_geta (c := 67) rfl hM rfl ?_
          refine hs (f := dm_ild 49 4) rfl rfl ?_
          refine r_iald (L := 24000) (i := k) ((q.2.2.1 70) k.toInt.toNat) rfl hM rfl (by omega) rfl ?_
          generalize g16 : (q.2.2.1 70) k.toInt.toNat = v15
          have x17 : v15.toInt = rA (q.2.2.1 70) k.toInt := rA_of (i := k) g16 rfl
          exact hr (f := dm_ret .int) rfl rfl (⟨_, rfl, rfl⟩)
        · skip
          have h14 : v11.toInt ≤ p.toInt := h14
          have e18 : (k + 1).toInt = k.toInt + 1 := by have w := i_addc (x := k) (y := 1) 1 rfl (by omega) (by omega); omega
          refine hs (f := dm_iinc 40 4 1) (lv' := [(4, .int (k + 1)), (0, .ref 68), (1, .int s), (2, .long p)]) rfl rfl ?_
          refine hs (f := dm_goto 8) rfl rfl ?_
          exact (IH _ (by omega)) (k + 1) _ hM (by omega) (by omega) rfl
  refine hx (t := cd_178) rfl (Nat.le_of_ble_eq_true rfl) (lv := [(0, .ref 68), (1, .int s), (2, .long p)]) rfl ?_
  refine hs (f := dm_ald 1 0) rfl rfl ?_
  refine r_geta (c := 70) rfl hM rfl ?_
  refine hs (f := dm_ild 5 1) rfl rfl ?_
  refine r_iald (L := 1001) (i := s) ((q.2.2.1 73) s.toInt.toNat) rfl hM rfl (by omega) rfl ?_
  generalize g20 : (q.2.2.1 73) s.toInt.toNat = v19
  have x21 : v19.toInt = rA (q.2.2.1 73) s.toInt := rA_of (i := s) g20 rfl
  refine hs (f := dm_ist 8 4) (lv' := [(4, .int v19), (0, .ref 68), (1, .int s), (2, .long p)]) rfl rfl ?_
  exact (j8 _) v19 _ hM (by omega) (by omega) rfl
theorem r_182 {X : dm_Mem} {q : rS} {M : dm_Mem} (hM : Rm X q M) (s : Int32) (h0 : 0 ≤ s.toInt ∧ s.toInt < 1000) : hT 2 182 [.ref 68, .int s] M (fun r M' => ∃ v : Int32, r = some (.int v) ∧ M' = M) := by
  have j4 : ∀ (nn : Nat), ∀ (k v : Int32) (M : dm_Mem), Rm X q M → (0 ≤ k.toInt) → (16 - k.toInt).toNat = nn → hG 1 cd_182 4 [(3, .int k), (2, .int v), (0, .ref 68), (1, .int s)] [] M (fun r M' => ∃ v : Int32, r = some (.int v) ∧ M' = M) := by
    intro nn
    induction nn using Nat.strongRecOn with
    | ind nn IH =>
      intro k v M hM k0 hms
      refine hs (f := dm_ild 5 3) rfl rfl ?_
      refine hs (f := dm_push 7 (.int 16)) rfl rfl ?_
      refine g_ic_ge (n := 10) (tt := 33) rfl (fun h1 => ?_) (fun h1 => ?_)
      · skip
        have h1 : k.toInt ≥ 16 := h1
        refine hs (f := dm_ild 34 2) rfl rfl ?_
        exact hr (f := dm_ret .int) rfl rfl (⟨_, rfl, rfl⟩)
      · skip
        have h1 : k.toInt < 16 := h1
        refine hs (f := dm_ild 11 2) rfl rfl ?_
        refine hs (f := dm_ald 12 0) rfl rfl ?_
        refine r_geta (c := 80) rfl hM rfl ?_
        refine hs (f := dm_push 17 (.int 16)) rfl rfl ?_
        refine hs (f := dm_ild 18 1) rfl rfl ?_
        have e2 : ((16 : Int32) * s).toInt = 16 * s.toInt := by have w := i_mulc (x := (16 : Int32)) (y := s) 16 rfl (by omega) (by omega); omega
        refine hs (f := dm_ii 19 (fun x y => x * y)) (st' := [.int ((16 : Int32) * s), .ref 83, .int v]) rfl rfl ?_
        refine hs (f := dm_ild 20 3) rfl rfl ?_
        have e3 : (((16 : Int32) * s) + k).toInt = 16 * s.toInt + k.toInt := by have w := i_add (x := ((16 : Int32) * s)) (y := k) (by omega) (by omega); omega
        refine hs (f := dm_ii 21 (fun x y => x + y)) (st' := [.int (((16 : Int32) * s) + k), .ref 83, .int v]) rfl rfl ?_
        refine r_lald (L := 16000) (i := (((16 : Int32) * s) + k)) ((q.2.2.2 83) (((16 : Int32) * s) + k).toInt.toNat) rfl hM rfl (by omega) rfl ?_
        generalize g5 : (q.2.2.2 83) (((16 : Int32) * s) + k).toInt.toNat = v4
        have x6 : v4.toInt = rB (q.2.2.2 83) (16 * s.toInt + k.toInt) := rB_of (i := (((16 : Int32) * s) + k)) g5 e3
        refine hc (f := dm_ins 25 208 1) (as := [.long v4]) rfl rfl (hT_mono (by decide) (r_208 v4) (fun r1 M7 w => ?_))
        obtain ⟨u8, rfl, rfl⟩ := w
        refine hs (f := dm_ii 26 (fun x y => x + y)) (st' := [.int (v + u8)]) rfl rfl ?_
        refine hs (f := dm_ist 27 2) (lv' := [(2, .int (v + u8)), (3, .int k), (0, .ref 68), (1, .int s)]) rfl rfl ?_
        have e9 : (k + 1).toInt = k.toInt + 1 := by have w := i_addc (x := k) (y := 1) 1 rfl (by omega) (by omega); omega
        refine hs (f := dm_iinc 30 3 1) (lv' := [(3, .int (k + 1)), (2, .int (v + u8)), (0, .ref 68), (1, .int s)]) rfl rfl ?_
        refine hs (f := dm_goto 4) rfl rfl ?_
        exact (IH _ (by omega)) (k + 1) (v + u8) _ hM (by omega) rfl
  refine hx (t := cd_182) rfl (Nat.le_of_ble_eq_true rfl) (lv := [(0, .ref 68), (1, .int s)]) rfl ?_
  refine hs (f := dm_push 1 (.int 0)) rfl rfl ?_
  refine hs (f := dm_ist 2 2) (lv' := [(2, .int 0), (0, .ref 68), (1, .int s)]) rfl rfl ?_
  refine hs (f := dm_push 3 (.int 0)) rfl rfl ?_
  refine hs (f := dm_ist 4 3) (lv' := [(3, .int 0), (2, .int 0), (0, .ref 68), (1, .int s)]) rfl rfl ?_
  exact (j4 _) (0 : Int32) (0 : Int32) _ hM (by decide) rfl
set_option maxHeartbeats 4000000 in
theorem op_179 {X : dm_Mem} {q : rS} {M : dm_Mem} {T : Int} (hM : Rm X q M) (hR : RI T q) (hT6 : 0 ≤ T ∧ T ≤ 600) (s : Int32) (p : Int64) (n : Int32) : hT 3 179 [.ref 68, .int s, .long p, .int n] M (fun r M' => ∃ (x : Int32) (q' : rS), r = some (.int x) ∧ Rm X q' M' ∧ RI (T + 1) q' ∧ q'.1 41 = q.1 41) := by
  refine hx (t := cd_179) rfl (Nat.le_of_ble_eq_true rfl) (lv := [(0, .ref 68), (1, .int s), (2, .long p), (4, .int n)]) rfl ?_
  refine hs (f := dm_ald 1 0) rfl rfl ?_
  refine hs (f := dm_push 2 (.int 0)) rfl rfl ?_
  refine r_puti rfl hM rfl (fun M1 hM1 => ?_)
  replace hM1 := rm_to (q' := (sF q 40 (0 : Int32))) hM1 (show sF q 40 (0 : Int32) = (sF q 40 (0 : Int32)) from (show sF q 40 (0 : Int32) = (sF q 40 (0 : Int32)) from rfl))
  obtain ⟨q2, eq2⟩ : ∃ z, z = (sF q 40 (0 : Int32)) := ⟨_, rfl⟩
  rw [← eq2] at hM1
  have Rq2 : RI T q2 := by rw [eq2]; exact hR
  have Kq2 : KP q q2 := by rw [eq2]; exact ⟨rfl, rfl, rfl, rfl, rfl, rfl, rfl, rfl, rfl, rfl, rfl, rfl, rfl⟩
  have fq2 : q2.1 41 = q.1 41 := Kq2.2.2.2.2.1
  have evq2 := Rq2.2.2.1
  have mxq2 := Rq2.1.2.1
  have btq2 := Rq2.2.2.2.2.2.1
  refine hs (f := dm_ald 6 0) rfl rfl ?_
  refine hs (f := dm_ild 7 1) rfl rfl ?_
  refine r_inv rfl hM1 rfl (as := [.ref 68, .int s]) rfl (Nat.le_of_ble_eq_true rfl) (hT_mono (by decide) (r_136 hM1 s) (fun r1 M4 w => ?_))
  obtain ⟨rfl, ⟨rfl, u3a, u3b⟩ | ⟨rfl, u3n⟩⟩ := w
  · skip
    refine hs (f := dm_if_eq 13 22) (pc' := 13) rfl rfl ?_
    refine hs (f := dm_lld 14 2) rfl rfl ?_
    refine hs (f := dm_ild 16 4) rfl rfl ?_
    refine hc (f := dm_ins 19 177 2) (as := [.long p, .int n]) rfl rfl (hT_mono (by decide) (r_177 p n) (fun r1 M5 w => ?_))
    obtain ⟨rfl, ⟨rfl, u6a, u6b⟩ | ⟨rfl, u6n⟩⟩ := w
    · skip
      refine hs (f := dm_if_ne 22 29) (pc' := 29) rfl rfl ?_
      refine hs (f := dm_ald 30 0) rfl rfl ?_
      refine hs (f := dm_ild 31 1) rfl rfl ?_
      refine hs (f := dm_lld 32 2) rfl rfl ?_
      refine hs (f := dm_push 34 (.int 60)) rfl rfl ?_
      refine hs (f := dm_ild 36 4) rfl rfl ?_
      have e7c : ((60 : Int32)).toInt = 60 := rfl
      have e7 : ((60 : Int32) - n).toInt = 60 - n.toInt := by have w := i_sub (x := (60 : Int32)) (y := n) (by omega) (by omega); omega
      refine hs (f := dm_ii 37 (fun x y => x - y)) (st' := [.int ((60 : Int32) - n), .long p, .int s, .ref 68]) rfl rfl ?_
      refine hs (f := dm_li 38 (fun x y => x <<< (y.toInt64 &&& 63))) (st' := [.long (p <<< (((60 : Int32) - n).toInt64 &&& 63)), .int s, .ref 68]) rfl rfl ?_
      have sau8 := SB_at Rq2.1 (s := s.toInt) (by omega) (by omega)
      refine r_inv rfl hM1 rfl (as := [.ref 68, .int s, .long (p <<< (((60 : Int32) - n).toInt64 &&& 63))]) rfl (Nat.le_of_ble_eq_true rfl) (hT_mono (by decide) (r_178 hM1 s (p <<< (((60 : Int32) - n).toInt64 &&& 63)) (by omega) (by omega) (by omega) (by omega)) (fun r1 M9 w => ?_))
      obtain ⟨u8, rfl, rfl⟩ := w
      exact hr (f := dm_ret .int) rfl rfl (⟨_, _, rfl, hM1, RI_up Rq2 (by omega), fq2⟩)
    · skip
      refine hs (f := dm_if_ne 22 29) (pc' := 22) rfl rfl ?_
      refine hs (f := dm_ald 23 0) rfl rfl ?_
      refine hs (f := dm_push 24 (.int 1)) rfl rfl ?_
      refine r_puti rfl hM1 rfl (fun M10 hM10 => ?_)
      replace hM10 := rm_to (q' := (sF q2 40 (1 : Int32))) hM10 (show sF q2 40 (1 : Int32) = (sF q2 40 (1 : Int32)) from (show sF q2 40 (1 : Int32) = (sF q2 40 (1 : Int32)) from rfl))
      refine hs (f := dm_push 28 (.int 0)) rfl rfl ?_
      exact hr (f := dm_ret .int) rfl rfl (⟨_, _, rfl, hM10, RI_up Rq2 (by omega), fq2⟩)
  · skip
    refine hs (f := dm_if_eq 13 22) (pc' := 22) rfl rfl ?_
    refine hs (f := dm_ald 23 0) rfl rfl ?_
    refine hs (f := dm_push 24 (.int 1)) rfl rfl ?_
    refine r_puti rfl hM1 rfl (fun M11 hM11 => ?_)
    replace hM11 := rm_to (q' := (sF q2 40 (1 : Int32))) hM11 (show sF q2 40 (1 : Int32) = (sF q2 40 (1 : Int32)) from (show sF q2 40 (1 : Int32) = (sF q2 40 (1 : Int32)) from rfl))
    refine hs (f := dm_push 28 (.int 0)) rfl rfl ?_
    exact hr (f := dm_ret .int) rfl rfl (⟨_, _, rfl, hM11, RI_up Rq2 (by omega), fq2⟩)
set_option maxHeartbeats 4000000 in
theorem op_187 {X : dm_Mem} {q : rS} {M : dm_Mem} {T : Int} (hM : Rm X q M) (hR : RI T q) (hT6 : 0 ≤ T ∧ T ≤ 600) (a b : Int32) (x : Int64) (n : Int32) (y : Int64) (m : Int32) : hT 3 187 [.ref 68, .int a, .int b, .long x, .int n, .long y, .int m] M (fun r M' => ∃ (x : Int32) (q' : rS), r = some (.int x) ∧ Rm X q' M' ∧ RI (T + 1) q' ∧ q'.1 41 = q.1 41) := by
  refine hx (t := cd_187) rfl (Nat.le_of_ble_eq_true rfl) (lv := [(0, .ref 68), (1, .int a), (2, .int b), (3, .long x), (5, .int n), (6, .long y), (8, .int m)]) rfl ?_
  refine hs (f := dm_ald 1 0) rfl rfl ?_
  refine hs (f := dm_push 2 (.int 0)) rfl rfl ?_
  refine r_puti rfl hM rfl (fun M1 hM1 => ?_)
  replace hM1 := rm_to (q' := (sF q 40 (0 : Int32))) hM1 (show sF q 40 (0 : Int32) = (sF q 40 (0 : Int32)) from (show sF q 40 (0 : Int32) = (sF q 40 (0 : Int32)) from rfl))
  obtain ⟨q2, eq2⟩ : ∃ z, z = (sF q 40 (0 : Int32)) := ⟨_, rfl⟩
  rw [← eq2] at hM1
  have Rq2 : RI T q2 := by rw [eq2]; exact hR
  have Kq2 : KP q q2 := by rw [eq2]; exact ⟨rfl, rfl, rfl, rfl, rfl, rfl, rfl, rfl, rfl, rfl, rfl, rfl, rfl⟩
  have fq2 : q2.1 41 = q.1 41 := Kq2.2.2.2.2.1
  have evq2 := Rq2.2.2.1
  have mxq2 := Rq2.1.2.1
  have btq2 := Rq2.2.2.2.2.2.1
  refine hs (f := dm_ald 6 0) rfl rfl ?_
  refine hs (f := dm_ild 7 1) rfl rfl ?_
  refine r_inv rfl hM1 rfl (as := [.ref 68, .int a]) rfl (Nat.le_of_ble_eq_true rfl) (hT_mono (by decide) (r_136 hM1 a) (fun r1 M4 w => ?_))
  obtain ⟨rfl, ⟨rfl, u3a, u3b⟩ | ⟨rfl, u3n⟩⟩ := w
  · skip
    refine hs (f := dm_if_eq 13 40) (pc' := 13) rfl rfl ?_
    refine hs (f := dm_ald 14 0) rfl rfl ?_
    refine hs (f := dm_ild 15 2) rfl rfl ?_
    refine r_inv rfl hM1 rfl (as := [.ref 68, .int b]) rfl (Nat.le_of_ble_eq_true rfl) (hT_mono (by decide) (r_136 hM1 b) (fun r1 M6 w => ?_))
    obtain ⟨rfl, ⟨rfl, u5a, u5b⟩ | ⟨rfl, u5n⟩⟩ := w
    · skip
      refine hs (f := dm_if_eq 21 40) (pc' := 21) rfl rfl ?_
      refine hs (f := dm_lld 22 3) rfl rfl ?_
      refine hs (f := dm_ild 24 5) rfl rfl ?_
      refine hc (f := dm_ins 27 177 2) (as := [.long x, .int n]) rfl rfl (hT_mono (by decide) (r_177 x n) (fun r1 M7 w => ?_))
      obtain ⟨rfl, ⟨rfl, u8a, u8b⟩ | ⟨rfl, u8n⟩⟩ := w
      · skip
        refine hs (f := dm_if_eq 30 40) (pc' := 30) rfl rfl ?_
        refine hs (f := dm_lld 32 6) rfl rfl ?_
        refine hs (f := dm_ild 34 8) rfl rfl ?_
        refine hc (f := dm_ins 37 177 2) (as := [.long y, .int m]) rfl rfl (hT_mono (by decide) (r_177 y m) (fun r1 M9 w => ?_))
        obtain ⟨rfl, ⟨rfl, u10a, u10b⟩ | ⟨rfl, u10n⟩⟩ := w
        · skip
          refine hs (f := dm_if_ne 40 42) (pc' := 42) rfl rfl ?_
          refine hs (f := dm_lld 43 3) rfl rfl ?_
          refine hs (f := dm_push 45 (.int 60)) rfl rfl ?_
          refine hs (f := dm_ild 47 5) rfl rfl ?_
          have e11c : ((60 : Int32)).toInt = 60 := rfl
          have e11 : ((60 : Int32) - n).toInt = 60 - n.toInt := by have w := i_sub (x := (60 : Int32)) (y := n) (by omega) (by omega); omega
          refine hs (f := dm_ii 48 (fun x y => x - y)) (st' := [.int ((60 : Int32) - n), .long x]) rfl rfl ?_
          refine hs (f := dm_li 49 (fun x y => x <<< (y.toInt64 &&& 63))) (st' := [.long (x <<< (((60 : Int32) - n).toInt64 &&& 63))]) rfl rfl ?_
          refine hs (f := dm_lst 51 9) (lv' := [(9, .long (x <<< (((60 : Int32) - n).toInt64 &&& 63))), (0, .ref 68), (1, .int a), (2, .int b), (3, .long x), (5, .int n), (6, .long y), (8, .int m)]) rfl rfl ?_
          refine hs (f := dm_lld 53 6) rfl rfl ?_
          refine hs (f := dm_push 55 (.int 60)) rfl rfl ?_
          refine hs (f := dm_ild 57 8) rfl rfl ?_
          have e12c : ((60 : Int32)).toInt = 60 := rfl
          have e12 : ((60 : Int32) - m).toInt = 60 - m.toInt := by have w := i_sub (x := (60 : Int32)) (y := m) (by omega) (by omega); omega
          refine hs (f := dm_ii 58 (fun x y => x - y)) (st' := [.int ((60 : Int32) - m), .long y]) rfl rfl ?_
          refine hs (f := dm_li 59 (fun x y => x <<< (y.toInt64 &&& 63))) (st' := [.long (y <<< (((60 : Int32) - m).toInt64 &&& 63))]) rfl rfl ?_
          refine hs (f := dm_lst 61 11) (lv' := [(11, .long (y <<< (((60 : Int32) - m).toInt64 &&& 63))), (9, .long (x <<< (((60 : Int32) - n).toInt64 &&& 63))), (0, .ref 68), (1, .int a), (2, .int b), (3, .long x), (5, .int n), (6, .long y), (8, .int m)]) rfl rfl ?_
          refine hs (f := dm_ald 62 0) rfl rfl ?_
          refine hs (f := dm_ild 63 1) rfl rfl ?_
          refine hs (f := dm_lld 65 9) rfl rfl ?_
          have sau13 := SB_at Rq2.1 (s := a.toInt) (by omega) (by omega)
          refine r_inv rfl hM1 rfl (as := [.ref 68, .int a, .long (x <<< (((60 : Int32) - n).toInt64 &&& 63))]) rfl (Nat.le_of_ble_eq_true rfl) (hT_mono (by decide) (r_178 hM1 a (x <<< (((60 : Int32) - n).toInt64 &&& 63)) (by omega) (by omega) (by omega) (by omega)) (fun r1 M14 w => ?_))
          obtain ⟨u13, rfl, rfl⟩ := w
          refine hs (f := dm_ald 69 0) rfl rfl ?_
          refine hs (f := dm_ild 70 2) rfl rfl ?_
          refine hs (f := dm_lld 72 9) rfl rfl ?_
          have sau15 := SB_at Rq2.1 (s := b.toInt) (by omega) (by omega)
          refine r_inv rfl hM1 rfl (as := [.ref 68, .int b, .long (x <<< (((60 : Int32) - n).toInt64 &&& 63))]) rfl (Nat.le_of_ble_eq_true rfl) (hT_mono (by decide) (r_178 hM1 b (x <<< (((60 : Int32) - n).toInt64 &&& 63)) (by omega) (by omega) (by omega) (by omega)) (fun r1 M16 w => ?_))
          obtain ⟨u15, rfl, rfl⟩ := w
          refine g_ic_gt (n := 78) (tt := 82) rfl (fun h17 => ?_) (fun h17 => ?_)
          · skip
            have h17 : u13.toInt > u15.toInt := h17
            refine hs (f := dm_ald 83 0) rfl rfl ?_
            refine hs (f := dm_ild 84 2) rfl rfl ?_
            refine hs (f := dm_lld 86 11) rfl rfl ?_
            have sau18 := SB_at Rq2.1 (s := b.toInt) (by omega) (by omega)
            refine r_inv rfl hM1 rfl (as := [.ref 68, .int b, .long (y <<< (((60 : Int32) - m).toInt64 &&& 63))]) rfl (Nat.le_of_ble_eq_true rfl) (hT_mono (by decide) (r_178 hM1 b (y <<< (((60 : Int32) - m).toInt64 &&& 63)) (by omega) (by omega) (by omega) (by omega)) (fun r1 M19 w => ?_))
            obtain ⟨u18, rfl, rfl⟩ := w
            refine hs (f := dm_ald 90 0) rfl rfl ?_
            refine hs (f := dm_ild 91 1) rfl rfl ?_
            refine hs (f := dm_lld 93 11) rfl rfl ?_
            have sau20 := SB_at Rq2.1 (s := a.toInt) (by omega) (by omega)
            refine r_inv rfl hM1 rfl (as := [.ref 68, .int a, .long (y <<< (((60 : Int32) - m).toInt64 &&& 63))]) rfl (Nat.le_of_ble_eq_true rfl) (hT_mono (by decide) (r_178 hM1 a (y <<< (((60 : Int32) - m).toInt64 &&& 63)) (by omega) (by omega) (by omega) (by omega)) (fun r1 M21 w => ?_))
            obtain ⟨u20, rfl, rfl⟩ := w
            refine g_ic_gt (n := 99) (tt := 103) rfl (fun h22 => ?_) (fun h22 => ?_)
            · skip
              have h22 : u18.toInt > u20.toInt := h22
              refine hs (f := dm_push 104 (.int 0)) rfl rfl ?_
              exact hr (f := dm_ret .int) rfl rfl (⟨_, _, rfl, hM1, RI_up Rq2 (by omega), fq2⟩)
            · skip
              have h22 : u18.toInt ≤ u20.toInt := h22
              refine hs (f := dm_push 100 (.int 2)) rfl rfl ?_
              refine hs (f := dm_goto 104) rfl rfl ?_
              exact hr (f := dm_ret .int) rfl rfl (⟨_, _, rfl, hM1, RI_up Rq2 (by omega), fq2⟩)
          · skip
            have h17 : u13.toInt ≤ u15.toInt := h17
            refine hs (f := dm_push 79 (.int 1)) rfl rfl ?_
            refine hs (f := dm_goto 104) rfl rfl ?_
            exact hr (f := dm_ret .int) rfl rfl (⟨_, _, rfl, hM1, RI_up Rq2 (by omega), fq2⟩)
        · skip
          refine hs (f := dm_if_ne 40 42) (pc' := 40) rfl rfl ?_
          refine hs (f := dm_push 41 (.int (-1))) rfl rfl ?_
          exact hr (f := dm_ret .int) rfl rfl (⟨_, _, rfl, hM1, RI_up Rq2 (by omega), fq2⟩)
      · skip
        refine hs (f := dm_if_eq 30 40) (pc' := 40) rfl rfl ?_
        refine hs (f := dm_push 41 (.int (-1))) rfl rfl ?_
        exact hr (f := dm_ret .int) rfl rfl (⟨_, _, rfl, hM1, RI_up Rq2 (by omega), fq2⟩)
    · skip
      refine hs (f := dm_if_eq 21 40) (pc' := 40) rfl rfl ?_
      refine hs (f := dm_push 41 (.int (-1))) rfl rfl ?_
      exact hr (f := dm_ret .int) rfl rfl (⟨_, _, rfl, hM1, RI_up Rq2 (by omega), fq2⟩)
  · skip
    refine hs (f := dm_if_eq 13 40) (pc' := 40) rfl rfl ?_
    refine hs (f := dm_push 41 (.int (-1))) rfl rfl ?_
    exact hr (f := dm_ret .int) rfl rfl (⟨_, _, rfl, hM1, RI_up Rq2 (by omega), fq2⟩)
set_option maxHeartbeats 4000000 in
theorem op_180 {X : dm_Mem} {q : rS} {M : dm_Mem} {T : Int} (hM : Rm X q M) (hR : RI T q) (hT6 : 0 ≤ T ∧ T ≤ 600) (s : Int32) (p : Int64) (n : Int32) : hT 3 180 [.ref 68, .int s, .long p, .int n] M (fun r M' => ∃ (x : Int32) (q' : rS), isB x ∧ r = some (.int x) ∧ Rm X q' M' ∧ RI (T + 1) q' ∧ q'.1 41 = q.1 41) := by
  refine hx (t := cd_180) rfl (Nat.le_of_ble_eq_true rfl) (lv := [(0, .ref 68), (1, .int s), (2, .long p), (4, .int n)]) rfl ?_
  refine hs (f := dm_ald 1 0) rfl rfl ?_
  refine hs (f := dm_push 2 (.int 0)) rfl rfl ?_
  refine r_puti rfl hM rfl (fun M1 hM1 => ?_)
  replace hM1 := rm_to (q' := (sF q 40 (0 : Int32))) hM1 (show sF q 40 (0 : Int32) = (sF q 40 (0 : Int32)) from (show sF q 40 (0 : Int32) = (sF q 40 (0 : Int32)) from rfl))
  obtain ⟨q2, eq2⟩ : ∃ z, z = (sF q 40 (0 : Int32)) := ⟨_, rfl⟩
  rw [← eq2] at hM1
  have Rq2 : RI T q2 := by rw [eq2]; exact hR
  have Kq2 : KP q q2 := by rw [eq2]; exact ⟨rfl, rfl, rfl, rfl, rfl, rfl, rfl, rfl, rfl, rfl, rfl, rfl, rfl⟩
  have fq2 : q2.1 41 = q.1 41 := Kq2.2.2.2.2.1
  have evq2 := Rq2.2.2.1
  have mxq2 := Rq2.1.2.1
  have btq2 := Rq2.2.2.2.2.2.1
  refine hs (f := dm_ald 6 0) rfl rfl ?_
  refine hs (f := dm_ild 7 1) rfl rfl ?_
  refine r_inv rfl hM1 rfl (as := [.ref 68, .int s]) rfl (Nat.le_of_ble_eq_true rfl) (hT_mono (by decide) (r_136 hM1 s) (fun r1 M4 w => ?_))
  obtain ⟨rfl, ⟨rfl, u3a, u3b⟩ | ⟨rfl, u3n⟩⟩ := w
  · skip
    refine hs (f := dm_if_eq 13 22) (pc' := 13) rfl rfl ?_
    refine hs (f := dm_lld 14 2) rfl rfl ?_
    refine hs (f := dm_ild 16 4) rfl rfl ?_
    refine hc (f := dm_ins 19 177 2) (as := [.long p, .int n]) rfl rfl (hT_mono (by decide) (r_177 p n) (fun r1 M5 w => ?_))
    obtain ⟨rfl, ⟨rfl, u6a, u6b⟩ | ⟨rfl, u6n⟩⟩ := w
    · skip
      refine hs (f := dm_if_ne 22 29) (pc' := 29) rfl rfl ?_
      have sa := SB_at Rq2.1 (s := s.toInt) (by omega) (by omega)
      have j49 : ∀ (nn : Nat), ∀ (x k : Int32) (pp : Int64) (M : dm_Mem), Rm X q2 M → (isB x) → (rA (q2.2.2.1 74) s.toInt ≤ k.toInt) → (k.toInt ≤ rA (q2.2.2.1 74) (s.toInt + 1)) → (rA (q2.2.2.1 74) (s.toInt + 1) - k.toInt).toNat = nn → hG 2 cd_180 49 [(8, .int k), (7, .int x), (5, .long pp), (0, .ref 68), (1, .int s), (2, .long p), (4, .int n)] [] M (fun r M' => ∃ (x : Int32) (q' : rS), isB x ∧ r = some (.int x) ∧ Rm X q' M' ∧ RI (T + 1) q' ∧ q'.1 41 = q.1 41) := by
        intro nn
        induction nn using Nat.strongRecOn with
        | ind nn IH =>
          intro x k pp M hM bx k0 k1 hms
          refine hs (f := dm_ild 51 8) rfl rfl ?_
          refine hs (f := dm_ald 52 0) rfl rfl ?_
          refine r_geta (c := 71) rfl hM rfl ?_
          refine hs (f := dm_ild 56 1) rfl rfl ?_
          refine hs (f := dm_push 57 (.int 1)) rfl rfl ?_
          have e7 : (s + (1 : Int32)).toInt = s.toInt + 1 := by have w := i_addc (x := s) (y := (1 : Int32)) 1 rfl (by omega) (by omega); omega
          refine hs (f := dm_ii 58 (fun x y => x + y)) (st' := [.int (s + (1 : Int32)), .ref 74, .int k]) rfl rfl ?_
          refine r_iald (L := 1001) (i := (s + (1 : Int32))) ((q2.2.2.1 74) (s + (1 : Int32)).toInt.toNat) rfl hM rfl (by omega) rfl ?_
          generalize g9 : (q2.2.2.1 74) (s + (1 : Int32)).toInt.toNat = v8
          have x10 : v8.toInt = rA (q2.2.2.1 74) (s.toInt + 1) := rA_of (i := (s + (1 : Int32))) g9 e7
          refine g_ic_ge (n := 62) (tt := 106) rfl (fun h11 => ?_) (fun h11 => ?_)
          · skip
            have h11 : k.toInt ≥ v8.toInt := h11
            refine hs (f := dm_ild 108 7) rfl rfl ?_
            exact h_retB rfl bx (⟨_, _, bx, rfl, hM, RI_up Rq2 (by omega), fq2⟩)
          · skip
            have h11 : k.toInt < v8.toInt := h11
            refine hs (f := dm_ild 64 7) rfl rfl ?_
            refine g_if_ne (n := 67) (tt := 93) rfl (fun h12 => ?_) (fun h12 => ?_)
            · skip
              have h12 : ¬ x.toInt = 0 := h12
              refine hs (f := dm_push 94 (.int 1)) rfl rfl ?_
              refine hs (f := dm_goto 98) rfl rfl ?_
              refine hs (f := dm_ist 100 7) (lv' := [(7, .int 1), (8, .int k), (5, .long pp), (0, .ref 68), (1, .int s), (2, .long p), (4, .int n)]) rfl rfl ?_
              have e13 : (k + 1).toInt = k.toInt + 1 := by have w := i_addc (x := k) (y := 1) 1 rfl (by omega) (by omega); omega
              refine hs (f := dm_iinc 103 8 1) (lv' := [(8, .int (k + 1)), (7, .int 1), (5, .long pp), (0, .ref 68), (1, .int s), (2, .long p), (4, .int n)]) rfl rfl ?_
              refine hs (f := dm_goto 49) rfl rfl ?_
              exact (IH _ (by omega)) (1 : Int32) (k + 1) pp _ hM isB_1 (by omega) (by omega) rfl
            · skip
              have h12 : x.toInt = 0 := h12
              refine hs (f := dm_ald 68 0) rfl rfl ?_
              refine r_geta (c := 68) rfl hM rfl ?_
              refine hs (f := dm_ild 73 8) rfl rfl ?_
              refine r_lald (L := 24000) (i := k) ((q2.2.2.2 71) k.toInt.toNat) rfl hM rfl (by omega) rfl ?_
              generalize g15 : (q2.2.2.2 71) k.toInt.toNat = v14
              have x16 : v14.toInt = rB (q2.2.2.2 71) k.toInt := rB_of (i := k) g15 rfl
              refine hs (f := dm_lld 76 5) rfl rfl ?_
              refine g_lc_gt (x := v14) (y := pp) (m := 77) (n := 80) (tt := 97) rfl rfl (fun h17 => ?_) (fun h17 => ?_)
              · skip
                have h17 : v14.toInt > pp.toInt := h17
                refine hs (f := dm_push 98 (.int 0)) rfl rfl ?_
                refine hs (f := dm_ist 100 7) (lv' := [(7, .int 0), (8, .int k), (5, .long pp), (0, .ref 68), (1, .int s), (2, .long p), (4, .int n)]) rfl rfl ?_
                have e18 : (k + 1).toInt = k.toInt + 1 := by have w := i_addc (x := k) (y := 1) 1 rfl (by omega) (by omega); omega
                refine hs (f := dm_iinc 103 8 1) (lv' := [(8, .int (k + 1)), (7, .int 0), (5, .long pp), (0, .ref 68), (1, .int s), (2, .long p), (4, .int n)]) rfl rfl ?_
                refine hs (f := dm_goto 49) rfl rfl ?_
                exact (IH _ (by omega)) (0 : Int32) (k + 1) pp _ hM isB_0 (by omega) (by omega) rfl
              · skip
                have h17 : v14.toInt ≤ pp.toInt := h17
                refine hs (f := dm_lld 82 5) rfl rfl ?_
                refine hs (f := dm_ald 83 0) rfl rfl ?_
                refine r_geta (c := 69) rfl hM rfl ?_
                refine hs (f := dm_ild 88 8) rfl rfl ?_
                refine r_lald (L := 24000) (i := k) ((q2.2.2.2 72) k.toInt.toNat) rfl hM rfl (by omega) rfl ?_
                generalize g20 : (q2.2.2.2 72) k.toInt.toNat = v19
                have x21 : v19.toInt = rB (q2.2.2.2 72) k.toInt := rB_of (i := k) g20 rfl
                refine g_lc_ge (x := pp) (y := v19) (m := 90) (n := 93) (tt := 97) rfl rfl (fun h22 => ?_) (fun h22 => ?_)
                · skip
                  have h22 : pp.toInt ≥ v19.toInt := h22
                  refine hs (f := dm_push 98 (.int 0)) rfl rfl ?_
                  refine hs (f := dm_ist 100 7) (lv' := [(7, .int 0), (8, .int k), (5, .long pp), (0, .ref 68), (1, .int s), (2, .long p), (4, .int n)]) rfl rfl ?_
                  have e23 : (k + 1).toInt = k.toInt + 1 := by have w := i_addc (x := k) (y := 1) 1 rfl (by omega) (by omega); omega
                  refine hs (f := dm_iinc 103 8 1) (lv' := [(8, .int (k + 1)), (7, .int 0), (5, .long pp), (0, .ref 68), (1, .int s), (2, .long p), (4, .int n)]) rfl rfl ?_
                  refine hs (f := dm_goto 49) rfl rfl ?_
                  exact (IH _ (by omega)) (0 : Int32) (k + 1) pp _ hM isB_0 (by omega) (by omega) rfl
                · skip
                  have h22 : pp.toInt < v19.toInt := h22
                  refine hs (f := dm_push 94 (.int 1)) rfl rfl ?_
                  refine hs (f := dm_goto 98) rfl rfl ?_
                  refine hs (f := dm_ist 100 7) (lv' := [(7, .int 1), (8, .int k), (5, .long pp), (0, .ref 68), (1, .int s), (2, .long p), (4, .int n)]) rfl rfl ?_
                  have e24 : (k + 1).toInt = k.toInt + 1 := by have w := i_addc (x := k) (y := 1) 1 rfl (by omega) (by omega); omega
                  refine hs (f := dm_iinc 103 8 1) (lv' := [(8, .int (k + 1)), (7, .int 1), (5, .long pp), (0, .ref 68), (1, .int s), (2, .long p), (4, .int n)]) rfl rfl ?_
                  refine hs (f := dm_goto 49) rfl rfl ?_
                  exact (IH _ (by omega)) (1 : Int32) (k + 1) pp _ hM isB_1 (by omega) (by omega) rfl
      refine hs (f := dm_lld 30 2) rfl rfl ?_
      refine hs (f := dm_push 32 (.int 60)) rfl rfl ?_
      refine hs (f := dm_ild 34 4) rfl rfl ?_
      have e25c : ((60 : Int32)).toInt = 60 := rfl
      have e25 : ((60 : Int32) - n).toInt = 60 - n.toInt := by have w := i_sub (x := (60 : Int32)) (y := n) (by omega) (by omega); omega
      refine hs (f := dm_ii 35 (fun x y => x - y)) (st' := [.int ((60 : Int32) - n), .long p]) rfl rfl ?_
      refine hs (f := dm_li 36 (fun x y => x <<< (y.toInt64 &&& 63))) (st' := [.long (p <<< (((60 : Int32) - n).toInt64 &&& 63))]) rfl rfl ?_
      refine hs (f := dm_lst 38 5) (lv' := [(5, .long (p <<< (((60 : Int32) - n).toInt64 &&& 63))), (0, .ref 68), (1, .int s), (2, .long p), (4, .int n)]) rfl rfl ?_
      refine hs (f := dm_push 39 (.int 0)) rfl rfl ?_
      refine hs (f := dm_ist 41 7) (lv' := [(7, .int 0), (5, .long (p <<< (((60 : Int32) - n).toInt64 &&& 63))), (0, .ref 68), (1, .int s), (2, .long p), (4, .int n)]) rfl rfl ?_
      refine hs (f := dm_ald 42 0) rfl rfl ?_
      refine r_geta (c := 71) rfl hM1 rfl ?_
      refine hs (f := dm_ild 46 1) rfl rfl ?_
      refine r_iald (L := 1001) (i := s) ((q2.2.2.1 74) s.toInt.toNat) rfl hM1 rfl (by omega) rfl ?_
      generalize g27 : (q2.2.2.1 74) s.toInt.toNat = v26
      have x28 : v26.toInt = rA (q2.2.2.1 74) s.toInt := rA_of (i := s) g27 rfl
      refine hs (f := dm_ist 49 8) (lv' := [(8, .int v26), (7, .int 0), (5, .long (p <<< (((60 : Int32) - n).toInt64 &&& 63))), (0, .ref 68), (1, .int s), (2, .long p), (4, .int n)]) rfl rfl ?_
      exact (j49 _) (0 : Int32) v26 (p <<< (((60 : Int32) - n).toInt64 &&& 63)) _ hM1 isB_0 (by omega) (by omega) rfl
    · skip
      refine hs (f := dm_if_ne 22 29) (pc' := 22) rfl rfl ?_
      refine hs (f := dm_ald 23 0) rfl rfl ?_
      refine hs (f := dm_push 24 (.int 1)) rfl rfl ?_
      refine r_puti rfl hM1 rfl (fun M29 hM29 => ?_)
      replace hM29 := rm_to (q' := (sF q2 40 (1 : Int32))) hM29 (show sF q2 40 (1 : Int32) = (sF q2 40 (1 : Int32)) from (show sF q2 40 (1 : Int32) = (sF q2 40 (1 : Int32)) from rfl))
      refine hs (f := dm_push 28 (.int 0)) rfl rfl ?_
      exact h_retB rfl isB_0 (⟨_, _, isB_0, rfl, hM29, RI_up Rq2 (by omega), fq2⟩)
  · skip
    refine hs (f := dm_if_eq 13 22) (pc' := 22) rfl rfl ?_
    refine hs (f := dm_ald 23 0) rfl rfl ?_
    refine hs (f := dm_push 24 (.int 1)) rfl rfl ?_
    refine r_puti rfl hM1 rfl (fun M30 hM30 => ?_)
    replace hM30 := rm_to (q' := (sF q2 40 (1 : Int32))) hM30 (show sF q2 40 (1 : Int32) = (sF q2 40 (1 : Int32)) from (show sF q2 40 (1 : Int32) = (sF q2 40 (1 : Int32)) from rfl))
    refine hs (f := dm_push 28 (.int 0)) rfl rfl ?_
    exact h_retB rfl isB_0 (⟨_, _, isB_0, rfl, hM30, RI_up Rq2 (by omega), fq2⟩)
set_option maxHeartbeats 4000000 in
theorem op_194 {X : dm_Mem} {q : rS} {M : dm_Mem} {T : Int} (hM : Rm X q M) (hR : RI T q) (hT6 : 0 ≤ T ∧ T ≤ 600) (i : Int32) : hT 1 194 [.ref 68, .int i] M (fun r M' => ∃ (x : Int32) (q' : rS), r = some (.int x) ∧ Rm X q' M' ∧ RI (T + 1) q' ∧ q'.1 41 = q.1 41) := by
  refine hx (t := cd_194) rfl (Nat.le_of_ble_eq_true rfl) (lv := [(0, .ref 68), (1, .int i)]) rfl ?_
  refine hs (f := dm_ald 1 0) rfl rfl ?_
  refine hs (f := dm_push 2 (.int 0)) rfl rfl ?_
  refine r_puti rfl hM rfl (fun M1 hM1 => ?_)
  replace hM1 := rm_to (q' := (sF q 40 (0 : Int32))) hM1 (show sF q 40 (0 : Int32) = (sF q 40 (0 : Int32)) from (show sF q 40 (0 : Int32) = (sF q 40 (0 : Int32)) from rfl))
  obtain ⟨q2, eq2⟩ : ∃ z, z = (sF q 40 (0 : Int32)) := ⟨_, rfl⟩
  rw [← eq2] at hM1
  have Rq2 : RI T q2 := by rw [eq2]; exact hR
  have Kq2 : KP q q2 := by rw [eq2]; exact ⟨rfl, rfl, rfl, rfl, rfl, rfl, rfl, rfl, rfl, rfl, rfl, rfl, rfl⟩
  have fq2 : q2.1 41 = q.1 41 := Kq2.2.2.2.2.1
  have evq2 := Rq2.2.2.1
  have mxq2 := Rq2.1.2.1
  have btq2 := Rq2.2.2.2.2.2.1
  refine hs (f := dm_ild 6 1) rfl rfl ?_
  refine g_if_lt (n := 9) (tt := 34) rfl (fun h3 => ?_) (fun h3 => ?_)
  · skip
    have h3 : i.toInt < 0 := h3
    refine hs (f := dm_push 35 (.int (-1))) rfl rfl ?_
    exact hr (f := dm_ret .int) rfl rfl (⟨_, _, rfl, hM1, RI_up Rq2 (by omega), fq2⟩)
  · skip
    have h3 : i.toInt ≥ 0 := h3
    refine hs (f := dm_ild 10 1) rfl rfl ?_
    refine hs (f := dm_ald 11 0) rfl rfl ?_
    refine r_geti (q2.1 36) rfl hM1 rfl rfl ?_
    refine g_ic_ge (n := 17) (tt := 34) rfl (fun h4 => ?_) (fun h4 => ?_)
    · skip
      have h4 : i.toInt ≥ (q2.1 36).toInt := h4
      refine hs (f := dm_push 35 (.int (-1))) rfl rfl ?_
      exact hr (f := dm_ret .int) rfl rfl (⟨_, _, rfl, hM1, RI_up Rq2 (by omega), fq2⟩)
    · skip
      have h4 : i.toInt < (q2.1 36).toInt := h4
      refine hs (f := dm_ald 18 0) rfl rfl ?_
      refine r_geta (c := 95) rfl hM1 rfl ?_
      refine hs (f := dm_ild 22 1) rfl rfl ?_
      refine r_zald (L := 600) (i := i) ((q2.2.2.1 98) i.toInt.toNat) rfl hM1 rfl (by omega) rfl ?_
      refine g_if_eq (n := 26) (tt := 30) rfl (fun h5 => ?_) (fun h5 => ?_)
      · skip
        have h5 : ((q2.2.2.1 98) i.toInt.toNat).toInt = 0 := h5
        refine hs (f := dm_push 31 (.int 0)) rfl rfl ?_
        refine hs (f := dm_goto 35) rfl rfl ?_
        exact hr (f := dm_ret .int) rfl rfl (⟨_, _, rfl, hM1, RI_up Rq2 (by omega), fq2⟩)
      · skip
        have h5 : ¬ ((q2.2.2.1 98) i.toInt.toNat).toInt = 0 := h5
        refine hs (f := dm_push 27 (.int 1)) rfl rfl ?_
        refine hs (f := dm_goto 35) rfl rfl ?_
        exact hr (f := dm_ret .int) rfl rfl (⟨_, _, rfl, hM1, RI_up Rq2 (by omega), fq2⟩)
theorem RI_36 {T : Int} {q : rS} (h : RI T q) {x : Int32} (hx : 0 ≤ x.toInt ∧ x.toInt ≤ 600) : RI T (sF q 36 x) := by
  obtain ⟨h1, h2, h3, h4, h5, h6, h7⟩ := h
  exact ⟨h1, h2, h3, h4, h5, hx, h7⟩
theorem RI_36b {T : Int} {q : rS} (h : RI T q) {x : Int32} {a : Nat → Int32} (hx : 0 ≤ x.toInt ∧ x.toInt ≤ 600) : RI T (sA (sF q 36 x) 98 a) := by
  obtain ⟨h1, h2, h3, h4, h5, h6, h7⟩ := h
  exact ⟨h1, h2, h3, h4, h5, hx, h7⟩
set_option maxHeartbeats 4000000 in
theorem op_195 {X : dm_Mem} {q : rS} {M : dm_Mem} {T : Int} (hM : Rm X q M) (hR : RI T q) (hT6 : 0 ≤ T ∧ T ≤ 600) (v : Int64) (n : Int32) : hT 1 195 [.ref 68, .long v, .int n] M (fun r M' => ∃ (x : Int32) (q' : rS), r = some (.int x) ∧ Rm X q' M' ∧ RI (T + 1) q' ∧ q'.1 41 = q.1 41) := by
  refine hx (t := cd_195) rfl (Nat.le_of_ble_eq_true rfl) (lv := [(0, .ref 68), (1, .long v), (3, .int n)]) rfl ?_
  refine hs (f := dm_ald 1 0) rfl rfl ?_
  refine hs (f := dm_push 2 (.int 0)) rfl rfl ?_
  refine r_puti rfl hM rfl (fun M1 hM1 => ?_)
  replace hM1 := rm_to (q' := (sF q 40 (0 : Int32))) hM1 (show sF q 40 (0 : Int32) = (sF q 40 (0 : Int32)) from (show sF q 40 (0 : Int32) = (sF q 40 (0 : Int32)) from rfl))
  obtain ⟨q2, eq2⟩ : ∃ z, z = (sF q 40 (0 : Int32)) := ⟨_, rfl⟩
  rw [← eq2] at hM1
  have Rq2 : RI T q2 := by rw [eq2]; exact hR
  have Kq2 : KP q q2 := by rw [eq2]; exact ⟨rfl, rfl, rfl, rfl, rfl, rfl, rfl, rfl, rfl, rfl, rfl, rfl, rfl⟩
  have fq2 : q2.1 41 = q.1 41 := Kq2.2.2.2.2.1
  have evq2 := Rq2.2.2.1
  have mxq2 := Rq2.1.2.1
  have btq2 := Rq2.2.2.2.2.2.1
  refine hs (f := dm_ild 6 3) rfl rfl ?_
  refine g_if_lt (n := 9) (tt := 27) rfl (fun h3 => ?_) (fun h3 => ?_)
  · skip
    have h3 : n.toInt < 0 := h3
    refine hs (f := dm_push 28 (.int (-1))) rfl rfl ?_
    exact hr (f := dm_ret .int) rfl rfl (⟨_, _, rfl, hM1, RI_up Rq2 (by omega), fq2⟩)
  · skip
    have h3 : n.toInt ≥ 0 := h3
    refine hs (f := dm_ild 10 3) rfl rfl ?_
    refine hs (f := dm_push 12 (.int 64)) rfl rfl ?_
    refine g_ic_gt (n := 15) (tt := 27) rfl (fun h4 => ?_) (fun h4 => ?_)
    · skip
      have h4 : n.toInt > 64 := h4
      refine hs (f := dm_push 28 (.int (-1))) rfl rfl ?_
      exact hr (f := dm_ret .int) rfl rfl (⟨_, _, rfl, hM1, RI_up Rq2 (by omega), fq2⟩)
    · skip
      have h4 : n.toInt ≤ 64 := h4
      refine hs (f := dm_ald 16 0) rfl rfl ?_
      refine r_geti (q2.1 36) rfl hM1 rfl rfl ?_
      refine hs (f := dm_ild 20 3) rfl rfl ?_
      have e5 : ((q2.1 36) + n).toInt = (q2.1 36).toInt + n.toInt := by have w := i_add (x := (q2.1 36)) (y := n) (by omega) (by omega); omega
      refine hs (f := dm_ii 21 (fun x y => x + y)) (st' := [.int ((q2.1 36) + n)]) rfl rfl ?_
      refine hs (f := dm_push 24 (.int 600)) rfl rfl ?_
      refine g_ic_le (n := 27) (tt := 29) rfl (fun h6 => ?_) (fun h6 => ?_)
      · skip
        have h6 : ((q2.1 36) + n).toInt ≤ 600 := h6
        have bt := Rq2.2.2.2.2.2.1
        have j34 : ∀ (nn : Nat), ∀ (k bb : Int32) (rw9 : Nat → Int32) (M : dm_Mem), Rm X (sA (sF q2 36 bb) 98 rw9) M → (-1 ≤ k.toInt) → (0 ≤ bb.toInt) → (bb.toInt + k.toInt + 1 ≤ 600) → (k.toInt + 1).toNat = nn → hG 0 cd_195 34 [(4, .int k), (0, .ref 68), (1, .long v), (3, .int n)] [] M (fun r M' => ∃ (x : Int32) (q' : rS), r = some (.int x) ∧ Rm X q' M' ∧ RI (T + 1) q' ∧ q'.1 41 = q.1 41) := by
          intro nn
          induction nn using Nat.strongRecOn with
          | ind nn IH =>
            intro k bb rw9 M hM k0 k1 k2 hms
            refine hs (f := dm_ild 36 4) rfl rfl ?_
            refine g_if_lt (n := 39) (tt := 80) rfl (fun h7 => ?_) (fun h7 => ?_)
            · skip
              have h7 : k.toInt < 0 := h7
              refine hs (f := dm_ald 81 0) rfl rfl ?_
              refine r_geti bb rfl hM rfl rfl ?_
              exact hr (f := dm_ret .int) rfl rfl (⟨bb, (sA (sF q2 36 bb) 98 rw9), rfl, hM, RI_up (RI_36b (x := bb) (a := rw9) Rq2 (by omega)) (by omega), fq2⟩)
            · skip
              have h7 : k.toInt ≥ 0 := h7
              refine hs (f := dm_ald 40 0) rfl rfl ?_
              refine r_geta (c := 95) rfl hM rfl ?_
              refine hs (f := dm_ald 44 0) rfl rfl ?_
              refine r_geti bb rfl hM rfl rfl ?_
              refine hs (f := dm_lld 48 1) rfl rfl ?_
              refine hs (f := dm_ild 50 4) rfl rfl ?_
              refine hs (f := dm_li 51 (fun x y => x >>> (y.toInt64 &&& 63))) (st' := [.long (v >>> (k.toInt64 &&& 63)), .int bb, .ref 98]) rfl rfl ?_
              refine hs (f := dm_push 52 (.long 1)) rfl rfl ?_
              refine hs (f := dm_ll 53 (fun x y => x &&& y)) (st' := [.long ((v >>> (k.toInt64 &&& 63)) &&& (1 : Int64)), .int bb, .ref 98]) rfl rfl ?_
              refine hs (f := dm_push 54 (.long 1)) rfl rfl ?_
              refine g_lc_ne (x := ((v >>> (k.toInt64 &&& 63)) &&& (1 : Int64))) (y := (1 : Int64)) (m := 55) (n := 58) (tt := 62) rfl rfl (fun h8 => ?_) (fun h8 => ?_)
              · skip
                clear h8
                refine hs (f := dm_push 63 (.int 0)) rfl rfl ?_
                refine r_zast (L := 600) (i := bb) (x := (0 : Int32)) rw9 rfl hM rfl (by omega) rfl (fun M9 hM9 => ?_)
                replace hM9 := rm_to (q' := (sA (sF q2 36 bb) 98 (upd rw9 bb.toInt.toNat (vp_nar .boolean (0 : Int32))))) hM9 (show sA (sA (sF q2 36 bb) 98 rw9) 98 (upd rw9 bb.toInt.toNat (vp_nar .boolean (0 : Int32))) = (sA (sF q2 36 bb) 98 (upd rw9 bb.toInt.toNat (vp_nar .boolean (0 : Int32)))) from (show sA (sA (sF q2 36 bb) 98 rw9) 98 (upd rw9 bb.toInt.toNat (vp_nar .boolean (0 : Int32))) = (sA (sF q2 36 bb) 98 (upd rw9 bb.toInt.toNat (vp_nar .boolean (0 : Int32)))) from sA_sA))
                refine hs (f := dm_ald 65 0) rfl rfl ?_
                refine hs (f := dm_dup 66) (st' := [.ref 68, .ref 68]) rfl rfl ?_
                refine r_geti bb rfl hM9 rfl rfl ?_
                refine hs (f := dm_push 70 (.int 1)) rfl rfl ?_
                have e10 : (bb + (1 : Int32)).toInt = bb.toInt + 1 := by have w := i_addc (x := bb) (y := (1 : Int32)) 1 rfl (by omega) (by omega); omega
                refine hs (f := dm_ii 71 (fun x y => x + y)) (st' := [.int (bb + (1 : Int32)), .ref 68]) rfl rfl ?_
                refine r_puti rfl hM9 rfl (fun M11 hM11 => ?_)
                replace hM11 := rm_to (q' := (sA (sF q2 36 (bb + (1 : Int32))) 98 (upd rw9 bb.toInt.toNat (vp_nar .boolean (0 : Int32))))) hM11 (show sF (sA (sF q2 36 bb) 98 (upd rw9 bb.toInt.toNat (vp_nar .boolean (0 : Int32)))) 36 (bb + (1 : Int32)) = (sA (sF q2 36 (bb + (1 : Int32))) 98 (upd rw9 bb.toInt.toNat (vp_nar .boolean (0 : Int32)))) from (congrArg (fun z => (sA z 98 (upd rw9 bb.toInt.toNat (vp_nar .boolean (0 : Int32))))) (show sF (sF q2 36 bb) 36 (bb + (1 : Int32)) = (sF q2 36 (bb + (1 : Int32))) from sF_sF)))
                have e12 : (k + (-1)).toInt = k.toInt + (-1) := by have w := i_addc (x := k) (y := (-1)) (-1) rfl (by omega) (by omega); omega
                refine hs (f := dm_iinc 77 4 (-1)) (lv' := [(4, .int (k + (-1))), (0, .ref 68), (1, .long v), (3, .int n)]) rfl rfl ?_
                generalize g14 : k + (-1) = y13 at e12 ⊢
                refine hs (f := dm_goto 34) rfl rfl ?_
                exact (IH _ (by omega)) y13 (bb + (1 : Int32)) (upd rw9 bb.toInt.toNat (vp_nar .boolean (0 : Int32))) _ hM11 (by omega) (by omega) (by omega) rfl
              · skip
                clear h8
                refine hs (f := dm_push 59 (.int 1)) rfl rfl ?_
                refine hs (f := dm_goto 63) rfl rfl ?_
                refine r_zast (L := 600) (i := bb) (x := (1 : Int32)) rw9 rfl hM rfl (by omega) rfl (fun M15 hM15 => ?_)
                replace hM15 := rm_to (q' := (sA (sF q2 36 bb) 98 (upd rw9 bb.toInt.toNat (vp_nar .boolean (1 : Int32))))) hM15 (show sA (sA (sF q2 36 bb) 98 rw9) 98 (upd rw9 bb.toInt.toNat (vp_nar .boolean (1 : Int32))) = (sA (sF q2 36 bb) 98 (upd rw9 bb.toInt.toNat (vp_nar .boolean (1 : Int32)))) from (show sA (sA (sF q2 36 bb) 98 rw9) 98 (upd rw9 bb.toInt.toNat (vp_nar .boolean (1 : Int32))) = (sA (sF q2 36 bb) 98 (upd rw9 bb.toInt.toNat (vp_nar .boolean (1 : Int32)))) from sA_sA))
                refine hs (f := dm_ald 65 0) rfl rfl ?_
                refine hs (f := dm_dup 66) (st' := [.ref 68, .ref 68]) rfl rfl ?_
                refine r_geti bb rfl hM15 rfl rfl ?_
                refine hs (f := dm_push 70 (.int 1)) rfl rfl ?_
                have e16 : (bb + (1 : Int32)).toInt = bb.toInt + 1 := by have w := i_addc (x := bb) (y := (1 : Int32)) 1 rfl (by omega) (by omega); omega
                refine hs (f := dm_ii 71 (fun x y => x + y)) (st' := [.int (bb + (1 : Int32)), .ref 68]) rfl rfl ?_
                refine r_puti rfl hM15 rfl (fun M17 hM17 => ?_)
                replace hM17 := rm_to (q' := (sA (sF q2 36 (bb + (1 : Int32))) 98 (upd rw9 bb.toInt.toNat (vp_nar .boolean (1 : Int32))))) hM17 (show sF (sA (sF q2 36 bb) 98 (upd rw9 bb.toInt.toNat (vp_nar .boolean (1 : Int32)))) 36 (bb + (1 : Int32)) = (sA (sF q2 36 (bb + (1 : Int32))) 98 (upd rw9 bb.toInt.toNat (vp_nar .boolean (1 : Int32)))) from (congrArg (fun z => (sA z 98 (upd rw9 bb.toInt.toNat (vp_nar .boolean (1 : Int32))))) (show sF (sF q2 36 bb) 36 (bb + (1 : Int32)) = (sF q2 36 (bb + (1 : Int32))) from sF_sF)))
                have e18 : (k + (-1)).toInt = k.toInt + (-1) := by have w := i_addc (x := k) (y := (-1)) (-1) rfl (by omega) (by omega); omega
                refine hs (f := dm_iinc 77 4 (-1)) (lv' := [(4, .int (k + (-1))), (0, .ref 68), (1, .long v), (3, .int n)]) rfl rfl ?_
                generalize g20 : k + (-1) = y19 at e18 ⊢
                refine hs (f := dm_goto 34) rfl rfl ?_
                exact (IH _ (by omega)) y19 (bb + (1 : Int32)) (upd rw9 bb.toInt.toNat (vp_nar .boolean (1 : Int32))) _ hM17 (by omega) (by omega) (by omega) rfl
        refine hs (f := dm_ild 30 3) rfl rfl ?_
        refine hs (f := dm_push 31 (.int 1)) rfl rfl ?_
        have e21 : (n - (1 : Int32)).toInt = n.toInt - 1 := by have w := i_subc (x := n) (y := (1 : Int32)) 1 rfl (by omega) (by omega); omega
        refine hs (f := dm_ii 32 (fun x y => x - y)) (st' := [.int (n - (1 : Int32))]) rfl rfl ?_
        refine hs (f := dm_ist 34 4) (lv' := [(4, .int (n - (1 : Int32))), (0, .ref 68), (1, .long v), (3, .int n)]) rfl rfl ?_
        replace hM1 := rm_to (q' := (sF q2 36 (q2.1 36))) hM1 (Eq.trans (sF_id (q := q2) (k := 36) (v := (q2.1 36)) rfl) (show sF q2 36 (q2.1 36) = (sF q2 36 (q2.1 36)) from (show sF q2 36 (q2.1 36) = (sF q2 36 (q2.1 36)) from rfl)))
        replace hM1 := rm_to (q' := (sA (sF q2 36 (q2.1 36)) 98 (q2.2.2.1 98))) hM1 (Eq.trans (sA_id (q := (sF q2 36 (q2.1 36))) (k := 98) (v := (q2.2.2.1 98)) rfl) (show sA (sF q2 36 (q2.1 36)) 98 (q2.2.2.1 98) = (sA (sF q2 36 (q2.1 36)) 98 (q2.2.2.1 98)) from (show sA (sF q2 36 (q2.1 36)) 98 (q2.2.2.1 98) = (sA (sF q2 36 (q2.1 36)) 98 (q2.2.2.1 98)) from rfl)))
        exact (j34 _) (n - (1 : Int32)) (q2.1 36) (q2.2.2.1 98) _ hM1 (by omega) (by omega) (by omega) rfl
      · skip
        have h6 : ((q2.1 36) + n).toInt > 600 := h6
        refine hs (f := dm_push 28 (.int (-1))) rfl rfl ?_
        exact hr (f := dm_ret .int) rfl rfl (⟨_, _, rfl, hM1, RI_up Rq2 (by omega), fq2⟩)
set_option maxHeartbeats 4000000 in
theorem op_196 {X : dm_Mem} {q : rS} {M : dm_Mem} {T : Int} (hM : Rm X q M) (hR : RI T q) (hT6 : 0 ≤ T ∧ T ≤ 600) (n : Int32) : hT 1 196 [.ref 68, .int n] M (fun r M' => ∃ (x : Int32) (q' : rS), isB x ∧ r = some (.int x) ∧ Rm X q' M' ∧ RI (T + 1) q' ∧ q'.1 41 = q.1 41) := by
  refine hx (t := cd_196) rfl (Nat.le_of_ble_eq_true rfl) (lv := [(0, .ref 68), (1, .int n)]) rfl ?_
  refine hs (f := dm_ald 1 0) rfl rfl ?_
  refine hs (f := dm_push 2 (.int 0)) rfl rfl ?_
  refine r_puti rfl hM rfl (fun M1 hM1 => ?_)
  replace hM1 := rm_to (q' := (sF q 40 (0 : Int32))) hM1 (show sF q 40 (0 : Int32) = (sF q 40 (0 : Int32)) from (show sF q 40 (0 : Int32) = (sF q 40 (0 : Int32)) from rfl))
  obtain ⟨q2, eq2⟩ : ∃ z, z = (sF q 40 (0 : Int32)) := ⟨_, rfl⟩
  rw [← eq2] at hM1
  have Rq2 : RI T q2 := by rw [eq2]; exact hR
  have Kq2 : KP q q2 := by rw [eq2]; exact ⟨rfl, rfl, rfl, rfl, rfl, rfl, rfl, rfl, rfl, rfl, rfl, rfl, rfl⟩
  have fq2 : q2.1 41 = q.1 41 := Kq2.2.2.2.2.1
  have evq2 := Rq2.2.2.1
  have mxq2 := Rq2.1.2.1
  have btq2 := Rq2.2.2.2.2.2.1
  refine hs (f := dm_ild 6 1) rfl rfl ?_
  refine g_if_lt (n := 9) (tt := 17) rfl (fun h3 => ?_) (fun h3 => ?_)
  · skip
    have h3 : n.toInt < 0 := h3
    refine hs (f := dm_push 18 (.int 0)) rfl rfl ?_
    exact h_retB rfl isB_0 (⟨_, _, isB_0, rfl, hM1, RI_up Rq2 (by omega), fq2⟩)
  · skip
    have h3 : n.toInt ≥ 0 := h3
    refine hs (f := dm_ild 10 1) rfl rfl ?_
    refine hs (f := dm_ald 11 0) rfl rfl ?_
    refine r_geti (q2.1 36) rfl hM1 rfl rfl ?_
    refine g_ic_le (n := 17) (tt := 19) rfl (fun h4 => ?_) (fun h4 => ?_)
    · skip
      have h4 : n.toInt ≤ (q2.1 36).toInt := h4
      refine hs (f := dm_ald 20 0) rfl rfl ?_
      refine hs (f := dm_ild 21 1) rfl rfl ?_
      refine r_puti rfl hM1 rfl (fun M5 hM5 => ?_)
      replace hM5 := rm_to (q' := (sF q2 36 n)) hM5 (show sF q2 36 n = (sF q2 36 n) from (show sF q2 36 n = (sF q2 36 n) from rfl))
      refine hs (f := dm_push 25 (.int 1)) rfl rfl ?_
      exact h_retB rfl isB_1 (⟨_, _, isB_1, rfl, hM5, RI_up (RI_36 Rq2 (by omega)) (by omega), fq2⟩)
    · skip
      have h4 : n.toInt > (q2.1 36).toInt := h4
      refine hs (f := dm_push 18 (.int 0)) rfl rfl ?_
      exact h_retB rfl isB_0 (⟨_, _, isB_0, rfl, hM1, RI_up Rq2 (by omega), fq2⟩)
set_option maxHeartbeats 4000000 in
theorem op_185 {X : dm_Mem} {q : rS} {M : dm_Mem} {T : Int} (hM : Rm X q M) (hR : RI T q) (hT6 : 0 ≤ T ∧ T ≤ 600)  : hT 1 185 [.ref 68] M (fun r M' => ∃ (x : Int64) (q' : rS), r = some (.long x) ∧ Rm X q' M' ∧ RI (T + 1) q' ∧ q'.1 41 = q.1 41) := by
  refine hx (t := cd_185) rfl (Nat.le_of_ble_eq_true rfl) (lv := [(0, .ref 68)]) rfl ?_
  refine hs (f := dm_ald 1 0) rfl rfl ?_
  refine hs (f := dm_push 2 (.int 0)) rfl rfl ?_
  refine r_puti rfl hM rfl (fun M1 hM1 => ?_)
  replace hM1 := rm_to (q' := (sF q 40 (0 : Int32))) hM1 (show sF q 40 (0 : Int32) = (sF q 40 (0 : Int32)) from (show sF q 40 (0 : Int32) = (sF q 40 (0 : Int32)) from rfl))
  obtain ⟨q2, eq2⟩ : ∃ z, z = (sF q 40 (0 : Int32)) := ⟨_, rfl⟩
  rw [← eq2] at hM1
  have Rq2 : RI T q2 := by rw [eq2]; exact hR
  have Kq2 : KP q q2 := by rw [eq2]; exact ⟨rfl, rfl, rfl, rfl, rfl, rfl, rfl, rfl, rfl, rfl, rfl, rfl, rfl⟩
  have fq2 : q2.1 41 = q.1 41 := Kq2.2.2.2.2.1
  have evq2 := Rq2.2.2.1
  have mxq2 := Rq2.1.2.1
  have btq2 := Rq2.2.2.2.2.2.1
  refine hs (f := dm_ald 6 0) rfl rfl ?_
  refine r_getj (q2.2.1 38) rfl hM1 rfl rfl ?_
  exact hr (f := dm_lret) rfl rfl (⟨_, _, rfl, hM1, RI_up Rq2 (by omega), fq2⟩)
set_option maxHeartbeats 4000000 in
theorem op_186 {X : dm_Mem} {q : rS} {M : dm_Mem} {T : Int} (hM : Rm X q M) (hR : RI T q) (hT6 : 0 ≤ T ∧ T ≤ 600)  : hT 1 186 [.ref 68] M (fun r M' => ∃ (x : Int32) (q' : rS), r = some (.int x) ∧ Rm X q' M' ∧ RI (T + 1) q' ∧ q'.1 41 = q.1 41) := by
  refine hx (t := cd_186) rfl (Nat.le_of_ble_eq_true rfl) (lv := [(0, .ref 68)]) rfl ?_
  refine hs (f := dm_ald 1 0) rfl rfl ?_
  refine hs (f := dm_push 2 (.int 0)) rfl rfl ?_
  refine r_puti rfl hM rfl (fun M1 hM1 => ?_)
  replace hM1 := rm_to (q' := (sF q 40 (0 : Int32))) hM1 (show sF q 40 (0 : Int32) = (sF q 40 (0 : Int32)) from (show sF q 40 (0 : Int32) = (sF q 40 (0 : Int32)) from rfl))
  obtain ⟨q2, eq2⟩ : ∃ z, z = (sF q 40 (0 : Int32)) := ⟨_, rfl⟩
  rw [← eq2] at hM1
  have Rq2 : RI T q2 := by rw [eq2]; exact hR
  have Kq2 : KP q q2 := by rw [eq2]; exact ⟨rfl, rfl, rfl, rfl, rfl, rfl, rfl, rfl, rfl, rfl, rfl, rfl, rfl⟩
  have fq2 : q2.1 41 = q.1 41 := Kq2.2.2.2.2.1
  have evq2 := Rq2.2.2.1
  have mxq2 := Rq2.1.2.1
  have btq2 := Rq2.2.2.2.2.2.1
  refine hs (f := dm_ald 6 0) rfl rfl ?_
  refine r_geti (q2.1 39) rfl hM1 rfl rfl ?_
  exact hr (f := dm_ret .int) rfl rfl (⟨_, _, rfl, hM1, RI_up Rq2 (by omega), fq2⟩)
set_option maxHeartbeats 4000000 in
theorem op_204 {X : dm_Mem} {q : rS} {M : dm_Mem} {T : Int} (hM : Rm X q M) (hR : RI T q) (hT6 : 0 ≤ T ∧ T ≤ 600)  : hT 1 204 [.ref 68] M (fun r M' => ∃ (x : Int32) (q' : rS), r = some (.int x) ∧ Rm X q' M' ∧ RI (T + 1) q' ∧ q'.1 41 = q.1 41) := by
  refine hx (t := cd_204) rfl (Nat.le_of_ble_eq_true rfl) (lv := [(0, .ref 68)]) rfl ?_
  refine hs (f := dm_ald 1 0) rfl rfl ?_
  refine hs (f := dm_push 2 (.int 0)) rfl rfl ?_
  refine r_puti rfl hM rfl (fun M1 hM1 => ?_)
  replace hM1 := rm_to (q' := (sF q 40 (0 : Int32))) hM1 (show sF q 40 (0 : Int32) = (sF q 40 (0 : Int32)) from (show sF q 40 (0 : Int32) = (sF q 40 (0 : Int32)) from rfl))
  obtain ⟨q2, eq2⟩ : ∃ z, z = (sF q 40 (0 : Int32)) := ⟨_, rfl⟩
  rw [← eq2] at hM1
  have Rq2 : RI T q2 := by rw [eq2]; exact hR
  have Kq2 : KP q q2 := by rw [eq2]; exact ⟨rfl, rfl, rfl, rfl, rfl, rfl, rfl, rfl, rfl, rfl, rfl, rfl, rfl⟩
  have fq2 : q2.1 41 = q.1 41 := Kq2.2.2.2.2.1
  have evq2 := Rq2.2.2.1
  have mxq2 := Rq2.1.2.1
  have btq2 := Rq2.2.2.2.2.2.1
  refine hs (f := dm_ald 6 0) rfl rfl ?_
  refine r_geti (q2.1 37) rfl hM1 rfl rfl ?_
  exact hr (f := dm_ret .int) rfl rfl (⟨_, _, rfl, hM1, RI_up Rq2 (by omega), fq2⟩)
set_option maxHeartbeats 4000000 in
theorem op_176 {X : dm_Mem} {q : rS} {M : dm_Mem} {T : Int} (hM : Rm X q M) (hR : RI T q) (hT6 : 0 ≤ T ∧ T ≤ 600) (a b : Int32) : hT 2 176 [.ref 68, .int a, .int b] M (fun r M' => ∃ (x : Int32) (q' : rS), isB x ∧ r = some (.int x) ∧ Rm X q' M' ∧ RI (T + 1) q' ∧ q'.1 41 = q.1 41) := by
  refine hx (t := cd_176) rfl (Nat.le_of_ble_eq_true rfl) (lv := [(0, .ref 68), (1, .int a), (2, .int b)]) rfl ?_
  refine hs (f := dm_ald 1 0) rfl rfl ?_
  refine hs (f := dm_push 2 (.int 0)) rfl rfl ?_
  refine r_puti rfl hM rfl (fun M1 hM1 => ?_)
  replace hM1 := rm_to (q' := (sF q 40 (0 : Int32))) hM1 (show sF q 40 (0 : Int32) = (sF q 40 (0 : Int32)) from (show sF q 40 (0 : Int32) = (sF q 40 (0 : Int32)) from rfl))
  obtain ⟨q2, eq2⟩ : ∃ z, z = (sF q 40 (0 : Int32)) := ⟨_, rfl⟩
  rw [← eq2] at hM1
  have Rq2 : RI T q2 := by rw [eq2]; exact hR
  have Kq2 : KP q q2 := by rw [eq2]; exact ⟨rfl, rfl, rfl, rfl, rfl, rfl, rfl, rfl, rfl, rfl, rfl, rfl, rfl⟩
  have fq2 : q2.1 41 = q.1 41 := Kq2.2.2.2.2.1
  have evq2 := Rq2.2.2.1
  have mxq2 := Rq2.1.2.1
  have btq2 := Rq2.2.2.2.2.2.1
  refine hs (f := dm_ald 6 0) rfl rfl ?_
  refine hs (f := dm_ild 7 1) rfl rfl ?_
  refine r_inv rfl hM1 rfl (as := [.ref 68, .int a]) rfl (Nat.le_of_ble_eq_true rfl) (hT_mono (by decide) (r_136 hM1 a) (fun r1 M4 w => ?_))
  obtain ⟨rfl, ⟨rfl, u3a, u3b⟩ | ⟨rfl, u3n⟩⟩ := w
  · skip
    refine hs (f := dm_if_eq 13 21) (pc' := 13) rfl rfl ?_
    refine hs (f := dm_ald 14 0) rfl rfl ?_
    refine hs (f := dm_ild 15 2) rfl rfl ?_
    refine r_inv rfl hM1 rfl (as := [.ref 68, .int b]) rfl (Nat.le_of_ble_eq_true rfl) (hT_mono (by decide) (r_136 hM1 b) (fun r1 M6 w => ?_))
    obtain ⟨rfl, ⟨rfl, u5a, u5b⟩ | ⟨rfl, u5n⟩⟩ := w
    · skip
      refine hs (f := dm_if_ne 21 23) (pc' := 23) rfl rfl ?_
      have sa := SB_at Rq2.1 (s := a.toInt) (by omega) (by omega)
      have sb := SB_at Rq2.1 (s := b.toInt) (by omega) (by omega)
      have j30 : ∀ (nn : Nat), (∀ (i j : Int32) (M : dm_Mem), Rm X q2 M → (rA (q2.2.2.1 74) a.toInt ≤ i.toInt) → (i.toInt ≤ rA (q2.2.2.1 74) (a.toInt + 1)) → (rA (q2.2.2.1 74) (a.toInt + 1) - i.toInt).toNat = nn → hG 1 cd_176 30 [(3, .int i), (0, .ref 68), (1, .int a), (2, .int b)] [] M (fun r M' => ∃ (x : Int32) (q' : rS), isB x ∧ r = some (.int x) ∧ Rm X q' M' ∧ RI (T + 1) q' ∧ q'.1 41 = q.1 41)) ∧ (∀ (i j : Int32) (M : dm_Mem), Rm X q2 M → (rA (q2.2.2.1 74) a.toInt ≤ i.toInt) → (i.toInt ≤ rA (q2.2.2.1 74) (a.toInt + 1)) → (rA (q2.2.2.1 74) (a.toInt + 1) - i.toInt).toNat = nn → hG 1 cd_176 30 [(3, .int i), (4, .int j), (0, .ref 68), (1, .int a), (2, .int b)] [] M (fun r M' => ∃ (x : Int32) (q' : rS), isB x ∧ r = some (.int x) ∧ Rm X q' M' ∧ RI (T + 1) q' ∧ q'.1 41 = q.1 41)) := by
        intro nn
        induction nn using Nat.strongRecOn with
        | ind nn IH =>
          refine ⟨?_, ?_⟩
          · skip
            intro i j M hM i0 i1 hms
            refine hs (f := dm_ild 31 3) rfl rfl ?_
            refine hs (f := dm_ald 32 0) rfl rfl ?_
            refine r_geta (c := 71) rfl hM rfl ?_
            refine hs (f := dm_ild 36 1) rfl rfl ?_
            refine hs (f := dm_push 37 (.int 1)) rfl rfl ?_
            have e7 : (a + (1 : Int32)).toInt = a.toInt + 1 := by have w := i_addc (x := a) (y := (1 : Int32)) 1 rfl (by omega) (by omega); omega
            refine hs (f := dm_ii 38 (fun x y => x + y)) (st' := [.int (a + (1 : Int32)), .ref 74, .int i]) rfl rfl ?_
            refine r_iald (L := 1001) (i := (a + (1 : Int32))) ((q2.2.2.1 74) (a + (1 : Int32)).toInt.toNat) rfl hM rfl (by omega) rfl ?_
            generalize g9 : (q2.2.2.1 74) (a + (1 : Int32)).toInt.toNat = v8
            have x10 : v8.toInt = rA (q2.2.2.1 74) (a.toInt + 1) := rA_of (i := (a + (1 : Int32))) g9 e7
            refine g_ic_ge (n := 42) (tt := 111) rfl (fun h11 => ?_) (fun h11 => ?_)
            · skip
              have h11 : i.toInt ≥ v8.toInt := h11
              refine hs (f := dm_push 112 (.int 0)) rfl rfl ?_
              exact h_retB rfl isB_0 (⟨_, _, isB_0, rfl, hM, RI_up Rq2 (by omega), fq2⟩)
            · skip
              have h11 : i.toInt < v8.toInt := h11
              have IHo := IH
              have j50 : ∀ (nn : Nat), ∀ (j : Int32) (M : dm_Mem), Rm X q2 M → (rA (q2.2.2.1 74) b.toInt ≤ j.toInt) → (j.toInt ≤ rA (q2.2.2.1 74) (b.toInt + 1)) → (rA (q2.2.2.1 74) (b.toInt + 1) - j.toInt).toNat = nn → hG 1 cd_176 50 [(4, .int j), (3, .int i), (0, .ref 68), (1, .int a), (2, .int b)] [] M (fun r M' => ∃ (x : Int32) (q' : rS), isB x ∧ r = some (.int x) ∧ Rm X q' M' ∧ RI (T + 1) q' ∧ q'.1 41 = q.1 41) := by
                intro nn
                induction nn using Nat.strongRecOn with
                | ind nn IH =>
                  intro j M hM j0 j1 hms
                  refine hs (f := dm_ild 52 4) rfl rfl ?_
                  refine hs (f := dm_ald 53 0) rfl rfl ?_
                  refine r_geta (c := 71) rfl hM rfl ?_
                  refine hs (f := dm_ild 57 2) rfl rfl ?_
                  refine hs (f := dm_push 58 (.int 1)) rfl rfl ?_
                  have e12 : (b + (1 : Int32)).toInt = b.toInt + 1 := by have w := i_addc (x := b) (y := (1 : Int32)) 1 rfl (by omega) (by omega); omega
                  refine hs (f := dm_ii 59 (fun x y => x + y)) (st' := [.int (b + (1 : Int32)), .ref 74, .int j]) rfl rfl ?_
                  refine r_iald (L := 1001) (i := (b + (1 : Int32))) ((q2.2.2.1 74) (b + (1 : Int32)).toInt.toNat) rfl hM rfl (by omega) rfl ?_
                  generalize g14 : (q2.2.2.1 74) (b + (1 : Int32)).toInt.toNat = v13
                  have x15 : v13.toInt = rA (q2.2.2.1 74) (b.toInt + 1) := rA_of (i := (b + (1 : Int32))) g14 e12
                  refine g_ic_ge (n := 63) (tt := 105) rfl (fun h16 => ?_) (fun h16 => ?_)
                  · skip
                    have h16 : j.toInt ≥ v13.toInt := h16
                    have e17 : (i + 1).toInt = i.toInt + 1 := by have w := i_addc (x := i) (y := 1) 1 rfl (by omega) (by omega); omega
                    refine hs (f := dm_iinc 108 3 1) (lv' := [(3, .int (i + 1)), (4, .int j), (0, .ref 68), (1, .int a), (2, .int b)]) rfl rfl ?_
                    refine hs (f := dm_goto 30) rfl rfl ?_
                    exact (IHo _ (by omega)).2 (i + 1) j _ hM (by omega) (by omega) rfl
                  · skip
                    have h16 : j.toInt < v13.toInt := h16
                    refine hs (f := dm_ald 64 0) rfl rfl ?_
                    refine r_geta (c := 68) rfl hM rfl ?_
                    refine hs (f := dm_ild 68 3) rfl rfl ?_
                    refine r_lald (L := 24000) (i := i) ((q2.2.2.2 71) i.toInt.toNat) rfl hM rfl (by omega) rfl ?_
                    generalize g19 : (q2.2.2.2 71) i.toInt.toNat = v18
                    have x20 : v18.toInt = rB (q2.2.2.2 71) i.toInt := rB_of (i := i) g19 rfl
                    refine hs (f := dm_ald 70 0) rfl rfl ?_
                    refine r_geta (c := 69) rfl hM rfl ?_
                    refine hs (f := dm_ild 75 4) rfl rfl ?_
                    refine r_lald (L := 24000) (i := j) ((q2.2.2.2 72) j.toInt.toNat) rfl hM rfl (by omega) rfl ?_
                    generalize g22 : (q2.2.2.2 72) j.toInt.toNat = v21
                    have x23 : v21.toInt = rB (q2.2.2.2 72) j.toInt := rB_of (i := j) g22 rfl
                    refine g_lc_ge (x := v18) (y := v21) (m := 77) (n := 80) (tt := 99) rfl rfl (fun h24 => ?_) (fun h24 => ?_)
                    · skip
                      have h24 : v18.toInt ≥ v21.toInt := h24
                      have e25 : (j + 1).toInt = j.toInt + 1 := by have w := i_addc (x := j) (y := 1) 1 rfl (by omega) (by omega); omega
                      refine hs (f := dm_iinc 102 4 1) (lv' := [(4, .int (j + 1)), (3, .int i), (0, .ref 68), (1, .int a), (2, .int b)]) rfl rfl ?_
                      refine hs (f := dm_goto 50) rfl rfl ?_
                      exact (IH _ (by omega)) (j + 1) _ hM (by omega) (by omega) rfl
                    · skip
                      have h24 : v18.toInt < v21.toInt := h24
                      refine hs (f := dm_ald 81 0) rfl rfl ?_
                      refine r_geta (c := 68) rfl hM rfl ?_
                      refine hs (f := dm_ild 86 4) rfl rfl ?_
                      refine r_lald (L := 24000) (i := j) ((q2.2.2.2 71) j.toInt.toNat) rfl hM rfl (by omega) rfl ?_
                      generalize g27 : (q2.2.2.2 71) j.toInt.toNat = v26
                      have x28 : v26.toInt = rB (q2.2.2.2 71) j.toInt := rB_of (i := j) g27 rfl
                      refine hs (f := dm_ald 88 0) rfl rfl ?_
                      refine r_geta (c := 69) rfl hM rfl ?_
                      refine hs (f := dm_ild 92 3) rfl rfl ?_
                      refine r_lald (L := 24000) (i := i) ((q2.2.2.2 72) i.toInt.toNat) rfl hM rfl (by omega) rfl ?_
                      generalize g30 : (q2.2.2.2 72) i.toInt.toNat = v29
                      have x31 : v29.toInt = rB (q2.2.2.2 72) i.toInt := rB_of (i := i) g30 rfl
                      refine g_lc_ge (x := v26) (y := v29) (m := 94) (n := 97) (tt := 99) rfl rfl (fun h32 => ?_) (fun h32 => ?_)
                      · skip
                        have h32 : v26.toInt ≥ v29.toInt := h32
                        have e33 : (j + 1).toInt = j.toInt + 1 := by have w := i_addc (x := j) (y := 1) 1 rfl (by omega) (by omega); omega
                        refine hs (f := dm_iinc 102 4 1) (lv' := [(4, .int (j + 1)), (3, .int i), (0, .ref 68), (1, .int a), (2, .int b)]) rfl rfl ?_
                        refine hs (f := dm_goto 50) rfl rfl ?_
                        exact (IH _ (by omega)) (j + 1) _ hM (by omega) (by omega) rfl
                      · skip
                        have h32 : v26.toInt < v29.toInt := h32
                        refine hs (f := dm_push 98 (.int 1)) rfl rfl ?_
                        exact h_retB rfl isB_1 (⟨_, _, isB_1, rfl, hM, RI_up Rq2 (by omega), fq2⟩)
              refine hs (f := dm_ald 43 0) rfl rfl ?_
              refine r_geta (c := 71) rfl hM rfl ?_
              refine hs (f := dm_ild 47 2) rfl rfl ?_
              refine r_iald (L := 1001) (i := b) ((q2.2.2.1 74) b.toInt.toNat) rfl hM rfl (by omega) rfl ?_
              generalize g35 : (q2.2.2.1 74) b.toInt.toNat = v34
              have x36 : v34.toInt = rA (q2.2.2.1 74) b.toInt := rA_of (i := b) g35 rfl
              refine hs (f := dm_ist 50 4) (lv' := [(4, .int v34), (3, .int i), (0, .ref 68), (1, .int a), (2, .int b)]) rfl rfl ?_
              exact (j50 _) v34 _ hM (by omega) (by omega) rfl
          · skip
            intro i j M hM i0 i1 hms
            refine hs (f := dm_ild 31 3) rfl rfl ?_
            refine hs (f := dm_ald 32 0) rfl rfl ?_
            refine r_geta (c := 71) rfl hM rfl ?_
            refine hs (f := dm_ild 36 1) rfl rfl ?_
            refine hs (f := dm_push 37 (.int 1)) rfl rfl ?_
            have e37 : (a + (1 : Int32)).toInt = a.toInt + 1 := by have w := i_addc (x := a) (y := (1 : Int32)) 1 rfl (by omega) (by omega); omega
            refine hs (f := dm_ii 38 (fun x y => x + y)) (st' := [.int (a + (1 : Int32)), .ref 74, .int i]) rfl rfl ?_
            refine r_iald (L := 1001) (i := (a + (1 : Int32))) ((q2.2.2.1 74) (a + (1 : Int32)).toInt.toNat) rfl hM rfl (by omega) rfl ?_
            generalize g39 : (q2.2.2.1 74) (a + (1 : Int32)).toInt.toNat = v38
            have x40 : v38.toInt = rA (q2.2.2.1 74) (a.toInt + 1) := rA_of (i := (a + (1 : Int32))) g39 e37
            refine g_ic_ge (n := 42) (tt := 111) rfl (fun h41 => ?_) (fun h41 => ?_)
            · skip
              have h41 : i.toInt ≥ v38.toInt := h41
              refine hs (f := dm_push 112 (.int 0)) rfl rfl ?_
              exact h_retB rfl isB_0 (⟨_, _, isB_0, rfl, hM, RI_up Rq2 (by omega), fq2⟩)
            · skip
              have h41 : i.toInt < v38.toInt := h41
              have IHo := IH
              have j50 : ∀ (nn : Nat), ∀ (j : Int32) (M : dm_Mem), Rm X q2 M → (rA (q2.2.2.1 74) b.toInt ≤ j.toInt) → (j.toInt ≤ rA (q2.2.2.1 74) (b.toInt + 1)) → (rA (q2.2.2.1 74) (b.toInt + 1) - j.toInt).toNat = nn → hG 1 cd_176 50 [(4, .int j), (3, .int i), (0, .ref 68), (1, .int a), (2, .int b)] [] M (fun r M' => ∃ (x : Int32) (q' : rS), isB x ∧ r = some (.int x) ∧ Rm X q' M' ∧ RI (T + 1) q' ∧ q'.1 41 = q.1 41) := by
                intro nn
                induction nn using Nat.strongRecOn with
                | ind nn IH =>
                  intro j M hM j0 j1 hms
                  refine hs (f := dm_ild 52 4) rfl rfl ?_
                  refine hs (f := dm_ald 53 0) rfl rfl ?_
                  refine r_geta (c := 71) rfl hM rfl ?_
                  refine hs (f := dm_ild 57 2) rfl rfl ?_
                  refine hs (f := dm_push 58 (.int 1)) rfl rfl ?_
                  have e42 : (b + (1 : Int32)).toInt = b.toInt + 1 := by have w := i_addc (x := b) (y := (1 : Int32)) 1 rfl (by omega) (by omega); omega
                  refine hs (f := dm_ii 59 (fun x y => x + y)) (st' := [.int (b + (1 : Int32)), .ref 74, .int j]) rfl rfl ?_
                  refine r_iald (L := 1001) (i := (b + (1 : Int32))) ((q2.2.2.1 74) (b + (1 : Int32)).toInt.toNat) rfl hM rfl (by omega) rfl ?_
                  generalize g44 : (q2.2.2.1 74) (b + (1 : Int32)).toInt.toNat = v43
                  have x45 : v43.toInt = rA (q2.2.2.1 74) (b.toInt + 1) := rA_of (i := (b + (1 : Int32))) g44 e42
                  refine g_ic_ge (n := 63) (tt := 105) rfl (fun h46 => ?_) (fun h46 => ?_)
                  · skip
                    have h46 : j.toInt ≥ v43.toInt := h46
                    have e47 : (i + 1).toInt = i.toInt + 1 := by have w := i_addc (x := i) (y := 1) 1 rfl (by omega) (by omega); omega
                    refine hs (f := dm_iinc 108 3 1) (lv' := [(3, .int (i + 1)), (4, .int j), (0, .ref 68), (1, .int a), (2, .int b)]) rfl rfl ?_
                    refine hs (f := dm_goto 30) rfl rfl ?_
                    exact (IHo _ (by omega)).2 (i + 1) j _ hM (by omega) (by omega) rfl
                  · skip
                    have h46 : j.toInt < v43.toInt := h46
                    refine hs (f := dm_ald 64 0) rfl rfl ?_
                    refine r_geta (c := 68) rfl hM rfl ?_
                    refine hs (f := dm_ild 68 3) rfl rfl ?_
                    refine r_lald (L := 24000) (i := i) ((q2.2.2.2 71) i.toInt.toNat) rfl hM rfl (by omega) rfl ?_
                    generalize g49 : (q2.2.2.2 71) i.toInt.toNat = v48
                    have x50 : v48.toInt = rB (q2.2.2.2 71) i.toInt := rB_of (i := i) g49 rfl
                    refine hs (f := dm_ald 70 0) rfl rfl ?_
                    refine r_geta (c := 69) rfl hM rfl ?_
                    refine hs (f := dm_ild 75 4) rfl rfl ?_
                    refine r_lald (L := 24000) (i := j) ((q2.2.2.2 72) j.toInt.toNat) rfl hM rfl (by omega) rfl ?_
                    generalize g52 : (q2.2.2.2 72) j.toInt.toNat = v51
                    have x53 : v51.toInt = rB (q2.2.2.2 72) j.toInt := rB_of (i := j) g52 rfl
                    refine g_lc_ge (x := v48) (y := v51) (m := 77) (n := 80) (tt := 99) rfl rfl (fun h54 => ?_) (fun h54 => ?_)
                    · skip
                      have h54 : v48.toInt ≥ v51.toInt := h54
                      have e55 : (j + 1).toInt = j.toInt + 1 := by have w := i_addc (x := j) (y := 1) 1 rfl (by omega) (by omega); omega
                      refine hs (f := dm_iinc 102 4 1) (lv' := [(4, .int (j + 1)), (3, .int i), (0, .ref 68), (1, .int a), (2, .int b)]) rfl rfl ?_
                      refine hs (f := dm_goto 50) rfl rfl ?_
                      exact (IH _ (by omega)) (j + 1) _ hM (by omega) (by omega) rfl
                    · skip
                      have h54 : v48.toInt < v51.toInt := h54
                      refine hs (f := dm_ald 81 0) rfl rfl ?_
                      refine r_geta (c := 68) rfl hM rfl ?_
                      refine hs (f := dm_ild 86 4) rfl rfl ?_
                      refine r_lald (L := 24000) (i := j) ((q2.2.2.2 71) j.toInt.toNat) rfl hM rfl (by omega) rfl ?_
                      generalize g57 : (q2.2.2.2 71) j.toInt.toNat = v56
                      have x58 : v56.toInt = rB (q2.2.2.2 71) j.toInt := rB_of (i := j) g57 rfl
                      refine hs (f := dm_ald 88 0) rfl rfl ?_
                      refine r_geta (c := 69) rfl hM rfl ?_
                      refine hs (f := dm_ild 92 3) rfl rfl ?_
                      refine r_lald (L := 24000) (i := i) ((q2.2.2.2 72) i.toInt.toNat) rfl hM rfl (by omega) rfl ?_
                      generalize g60 : (q2.2.2.2 72) i.toInt.toNat = v59
                      have x61 : v59.toInt = rB (q2.2.2.2 72) i.toInt := rB_of (i := i) g60 rfl
                      refine g_lc_ge (x := v56) (y := v59) (m := 94) (n := 97) (tt := 99) rfl rfl (fun h62 => ?_) (fun h62 => ?_)
                      · skip
                        have h62 : v56.toInt ≥ v59.toInt := h62
                        have e63 : (j + 1).toInt = j.toInt + 1 := by have w := i_addc (x := j) (y := 1) 1 rfl (by omega) (by omega); omega
                        refine hs (f := dm_iinc 102 4 1) (lv' := [(4, .int (j + 1)), (3, .int i), (0, .ref 68), (1, .int a), (2, .int b)]) rfl rfl ?_
                        refine hs (f := dm_goto 50) rfl rfl ?_
                        exact (IH _ (by omega)) (j + 1) _ hM (by omega) (by omega) rfl
                      · skip
                        have h62 : v56.toInt < v59.toInt := h62
                        refine hs (f := dm_push 98 (.int 1)) rfl rfl ?_
                        exact h_retB rfl isB_1 (⟨_, _, isB_1, rfl, hM, RI_up Rq2 (by omega), fq2⟩)
              refine hs (f := dm_ald 43 0) rfl rfl ?_
              refine r_geta (c := 71) rfl hM rfl ?_
              refine hs (f := dm_ild 47 2) rfl rfl ?_
              refine r_iald (L := 1001) (i := b) ((q2.2.2.1 74) b.toInt.toNat) rfl hM rfl (by omega) rfl ?_
              generalize g65 : (q2.2.2.1 74) b.toInt.toNat = v64
              have x66 : v64.toInt = rA (q2.2.2.1 74) b.toInt := rA_of (i := b) g65 rfl
              refine hs (f := dm_ist 50 4) (lv' := [(4, .int v64), (3, .int i), (0, .ref 68), (1, .int a), (2, .int b)]) rfl rfl ?_
              exact (j50 _) v64 _ hM (by omega) (by omega) rfl
      refine hs (f := dm_ald 24 0) rfl rfl ?_
      refine r_geta (c := 71) rfl hM1 rfl ?_
      refine hs (f := dm_ild 28 1) rfl rfl ?_
      refine r_iald (L := 1001) (i := a) ((q2.2.2.1 74) a.toInt.toNat) rfl hM1 rfl (by omega) rfl ?_
      generalize g68 : (q2.2.2.1 74) a.toInt.toNat = v67
      have x69 : v67.toInt = rA (q2.2.2.1 74) a.toInt := rA_of (i := a) g68 rfl
      refine hs (f := dm_ist 30 3) (lv' := [(3, .int v67), (0, .ref 68), (1, .int a), (2, .int b)]) rfl rfl ?_
      exact (j30 _).1 v67 0 _ hM1 (by omega) (by omega) rfl
    · skip
      refine hs (f := dm_if_ne 21 23) (pc' := 21) rfl rfl ?_
      refine hs (f := dm_push 22 (.int 0)) rfl rfl ?_
      exact h_retB rfl isB_0 (⟨_, _, isB_0, rfl, hM1, RI_up Rq2 (by omega), fq2⟩)
  · skip
    refine hs (f := dm_if_eq 13 21) (pc' := 21) rfl rfl ?_
    refine hs (f := dm_push 22 (.int 0)) rfl rfl ?_
    exact h_retB rfl isB_0 (⟨_, _, isB_0, rfl, hM1, RI_up Rq2 (by omega), fq2⟩)
