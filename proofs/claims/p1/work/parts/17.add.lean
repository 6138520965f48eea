/-! add(v, n) for n in 0 .. 64 on the fresh objects -/
theorem sh_alen {M : dm_Mem} {a n p : Nat} {lv : dm_Lv} {r : List Value} (h : sh_t M a = some (.int, n)) : dm_alen p lv (.ref a :: r) M = some (.inl ((p, lv, .int (Int32.ofNat n) :: r), M)) := by
  obtain ⟨x, e1, e2⟩ := sh_at h
  obtain ⟨f, rfl⟩ := sh_isI e2
  unfold dm_alen
  simp only [e1, dm_isT, if_true]
theorem ad_newa {p k : Nat} {lv : dm_Lv} {r : List Value} {M : dm_Mem} (h : M.length = k) : dm_newa p .int lv (.int 64 :: r) M = some (.inl ((p, lv, .ref k :: r), M ++ [.inl (.int, 64, dm_zero .int)])) := by
  unfold dm_newa
  rw [h]
  rfl
/-- size() -/
theorem ad_sz {N d : Nat} {M : dm_Mem} {w : Int32} (h : dm_fld M 61 1 1 = some (.int w)) : dm_ex dm_tb dm_cd (N + 3) (d + 1) 6 [.ref 61] M = some (some (.int w), M) := by
  refine rx (Nat.le_of_ble_eq_true rfl) ?_
  refine qs (f := dm_ald 1 0) rfl rfl ?_
  refine qs (f := dm_getf 4 1 1) rfl (dm_getf_ok h) ?_
  exact qr (f := dm_ret .int) rfl rfl
def ad_O (M : dm_Mem) (a len : Nat) : Prop := M[62]? = some (.inr (3, [.int 600, .ref a])) ∧ sh_t M a = some (.int, len)
theorem ad_f0 {M : dm_Mem} {a len : Nat} (h : ad_O M a len) : dm_fld M 62 3 0 = some (.int 600) := by
  unfold dm_fld; rw [h.1]; rfl
theorem ad_f1 {M : dm_Mem} {a len : Nat} (h : ad_O M a len) : dm_fld M 62 3 1 = some (.ref a) := by
  unfold dm_fld; rw [h.1]; rfl
/-- put(i, w) inside the row -/
theorem ad_put1 {M : dm_Mem} {a len k d : Nat} {w : Int32} (h : ad_O M a len) (hk : k < len) (hn : len < 2 ^ 31) : ∃ x, sh_c x = some (.int, len) ∧ dm_ex dm_tb dm_cd 2000000 (d + 1) 46 [.ref 62, .int (nI k), .int w] M = some (none, M.set a x) := by
  obtain ⟨x, hx, hst⟩ := sh_stI (p := 44) (lv := [(0, .ref 62), (1, .int (nI k)), (2, .int w)]) (r := []) (w := w) h.2 hk hn
  refine ⟨x, hx, rx (Nat.le_of_ble_eq_true rfl) ?_⟩
  refine qs (f := dm_ild 1 1) rfl rfl ?_
  refine qs (f := dm_ald 2 0) rfl rfl ?_
  refine qs (f := dm_getf 5 3 1) rfl (dm_getf_ok (ad_f1 h)) ?_
  refine qs (f := dm_alen 6) rfl (sh_alen h.2) ?_
  refine qs (f := dm_ic_lt 9 24) rfl (dm_ic_lt_t (nI_lt hk hn)) ?_
  refine qs (f := dm_ild 25 1) rfl rfl ?_
  refine qs (f := dm_if_lt 28 44) rfl (dm_if_lt_f (nI_pos (by omega))) ?_
  refine qs (f := dm_ild 29 1) rfl rfl ?_
  refine qs (f := dm_ald 30 0) rfl rfl ?_
  refine qs (f := dm_getf 33 3 1) rfl (dm_getf_ok (ad_f1 h)) ?_
  refine qs (f := dm_alen 34) rfl (sh_alen h.2) ?_
  refine qs (f := dm_ic_ge 37 44) rfl (dm_ic_ge_f (nI_ge hk hn)) ?_
  refine qs (f := dm_ald 38 0) rfl rfl ?_
  refine qs (f := dm_getf 41 3 1) rfl (dm_getf_ok (ad_f1 h)) ?_
  refine qs (f := dm_ild 42 1) rfl rfl ?_
  refine qs (f := dm_ild 43 2) rfl rfl ?_
  refine qs (f := dm_iast 44) rfl hst ?_
  exact qr (f := dm_vret) rfl rfl
/-- Arrays.copyOf(row, 64) of 32 -/
theorem ad_cpy {M : dm_Mem} {d : Nat} (h : sh_t M 63 = some (.int, 32)) (hl : M.length = 117) : ∃ x, sh_c x = some (.int, 64) ∧ dm_ex dm_tb dm_cd 2000000 (d + 1) 210 [.ref 63, .int 64] M = some (some (.ref 117), M ++ [x]) := by
  obtain ⟨y, e1, e2⟩ := sh_at h
  obtain ⟨f, rfl⟩ := sh_isI e2
  have g0 : (M ++ [Sum.inl (FieldType.int, 64, dm_zero .int)])[63]? = some (.inl (.int, 32, .inl f)) := by
    rw [List.getElem?_append_left (by omega)]; exact e1
  have g1 : (M ++ [Sum.inl (FieldType.int, 64, dm_zero .int)])[117]? = some (.inl (.int, 64, .inl (fun _ => 0))) := by
    rw [List.getElem?_append_right (by omega), hl]; rfl
  have g2 : (M ++ [Sum.inl (FieldType.int, 64, dm_zero .int)]).set 117 (.inl (.int, 64, .inl (va_cpy f (fun _ => 0) 0 0 32))) = M ++ [.inl (.int, 64, .inl (va_cpy f (fun _ => 0) 0 0 32))] := by
    rw [List.set_append_right _ _ (by omega), hl]; rfl
  have gs : sh_t (M ++ [Sum.inl (FieldType.int, 64, dm_zero .int)]) 63 = some (.int, 32) := by
    unfold sh_t; rw [g0]; rfl
  refine ⟨.inl (.int, 64, .inl (va_cpy f (fun _ => 0) 0 0 32)), rfl, rx (Nat.le_of_ble_eq_true rfl) ?_⟩
  refine qs (f := dm_ild 1 1) rfl rfl ?_
  refine qs (f := dm_ald 2 0) rfl rfl ?_
  refine qs (f := dm_alen 3) rfl (sh_alen h) ?_
  refine qs (f := dm_ic_ne 6 14) rfl (dm_ic_ne_t (by decide)) ?_
  refine qs (f := dm_ild 15 1) rfl rfl ?_
  refine qs (f := dm_newa 17 .int) rfl (ad_newa hl) ?_
  refine qs (f := dm_ast 18 2) rfl rfl ?_
  refine qs (f := dm_ald 19 0) rfl rfl ?_
  refine qs (f := dm_push 20 (.int 0)) rfl rfl ?_
  refine qs (f := dm_ald 21 2) rfl rfl ?_
  refine qs (f := dm_push 22 (.int 0)) rfl rfl ?_
  refine qs (f := dm_ald 23 0) rfl rfl ?_
  refine qs (f := dm_alen 24) rfl (sh_alen gs) ?_
  refine qs (f := dm_ild 25 1) rfl rfl ?_
  refine qs (f := dm_mn 28) rfl (pc' := 28) (lv' := [(2, .ref 117), (0, .ref 63), (1, .int 64)]) (st' := [.int 32, .int 0, .ref 117, .int 0, .ref 63]) (M' := M ++ [.inl (.int, 64, dm_zero .int)]) rfl ?_
  refine qs (f := dm_acp 31) (pc' := 31) (lv' := [(2, .ref 117), (0, .ref 63), (1, .int 64)]) (st' := []) (M' := M ++ [.inl (.int, 64, .inl (va_cpy f (fun _ => 0) 0 0 32))]) rfl ?_ ?_
  · unfold dm_acp
    simp only [g0, g1]
    rw [if_pos (by decide)]
    rw [show (0 : Int32).toNatClampNeg = 0 from rfl, show (32 : Int32).toNatClampNeg = 32 from rfl, g2]
  refine qs (f := dm_ald 32 2) rfl rfl ?_
  exact qr (f := dm_aret) rfl rfl
/-- widen(33) of a row of 32 -/
theorem ad_wid {M : dm_Mem} {d : Nat} (h : ad_O M 63 32) (hl : M.length = 117) : ∃ M', ad_O M' 117 64 ∧ (∀ q, q < 117 → q ≠ 62 → M'[q]? = M[q]?) ∧ M'.length = 118 ∧ dm_slots M' = dm_slots M + 64 ∧ dm_ex dm_tb dm_cd 2000000 (d + 2) 48 [.ref 62, .int 33] M = some (none, M') := by
  obtain ⟨x, hx, hc⟩ := ad_cpy (d := d) h.2 hl
  have g1 : (M ++ [x])[62]? = some (.inr (3, [.int 600, .ref 63])) := by rw [List.getElem?_append_left (by omega)]; exact h.1
  have g2 : sh_t (M ++ [x]) 117 = some (.int, 64) := by
    unfold sh_t; rw [List.getElem?_append_right (by omega), hl]; exact hx
  have hsz : dm_sz x = 64 := by
    obtain ⟨f, rfl⟩ := sh_isI hx
    rfl
  refine ⟨(M ++ [x]).set 62 (.inr (3, [.int 600, .ref 117])), ⟨?_, ?_⟩, ?_, ?_, ?_, rx (Nat.le_of_ble_eq_true rfl) ?_⟩
  · rw [List.getElem?_set_self (by rw [List.length_append]; omega)]
  · unfold sh_t; rw [List.getElem?_set_ne (by decide)]; exact g2
  · intro q h1 h2
    rw [List.getElem?_set_ne (Ne.symm h2), List.getElem?_append_left (by omega)]
  · rw [List.length_set, List.length_append, hl]; rfl
  · rw [dm_slots_set _ 62 _ (.inr (3, [.int 600, .ref 117])) g1 rfl, dm_slots_app, hsz]
  refine qs (f := dm_ald 1 0) rfl rfl ?_
  refine qs (f := dm_getf 4 3 0) rfl (dm_getf_ok (ad_f0 h)) ?_
  refine qs (f := dm_ild 5 1) rfl rfl ?_
  refine qs (f := dm_push 6 (.int 2)) rfl rfl ?_
  refine qs (f := dm_ald 7 0) rfl rfl ?_
  refine qs (f := dm_getf 10 3 1) rfl (dm_getf_ok (ad_f1 h)) ?_
  refine qs (f := dm_alen 11) rfl (sh_alen h.2) ?_
  refine qs (f := dm_ii 12 (fun x y => x * y)) rfl rfl ?_
  refine qs (f := dm_mx 15) (pc' := 15) (lv' := [(0, .ref 62), (1, .int 33)]) (st' := [.int 64, .int 600]) (M' := M) rfl rfl ?_
  refine qs (f := dm_mn 18) (pc' := 18) (lv' := [(0, .ref 62), (1, .int 33)]) (st' := [.int 64]) (M' := M) rfl rfl ?_
  refine qs (f := dm_ist 19 2) rfl rfl ?_
  refine qs (f := dm_ild 20 2) rfl rfl ?_
  refine qs (f := dm_ald 21 0) rfl rfl ?_
  refine qs (f := dm_getf 24 3 1) rfl (dm_getf_ok (ad_f1 h)) ?_
  refine qs (f := dm_alen 25) rfl (sh_alen h.2) ?_
  refine qs (f := dm_ic_le 28 40) rfl (dm_ic_le_f (by decide)) ?_
  refine qs (f := dm_ald 29 0) rfl rfl ?_
  refine qs (f := dm_ald 30 0) rfl rfl ?_
  refine qs (f := dm_getf 33 3 1) rfl (dm_getf_ok (ad_f1 h)) ?_
  refine qs (f := dm_ild 34 2) rfl rfl ?_
  refine qc (f := dm_ins 37 210 2) rfl rfl hc ?_
  refine qs (f := dm_putf 40 3 1 (.array .int)) (pc' := 40) (lv' := [(2, .int 64), (0, .ref 62), (1, .int 33)]) (st' := []) (M' := (M ++ [x]).set 62 (.inr (3, [.int 600, .ref 117]))) rfl ?_ ?_
  · show dm_putf 40 3 1 (.array .int) _ (.ref 117 :: .ref 62 :: []) _ = _
    unfold dm_putf
    simp only [g1]
    rw [if_pos (by decide)]
    rfl
  exact qr (f := dm_vret) rfl rfl
/-- put(32, w) where the row must widen -/
theorem ad_put2 {M : dm_Mem} {d : Nat} {w : Int32} (h : ad_O M 63 32) (hl : M.length = 117) : ∃ M', ad_O M' 117 64 ∧ (∀ q, q < 117 → q ≠ 62 → M'[q]? = M[q]?) ∧ M'.length = 118 ∧ dm_slots M' = dm_slots M + 64 ∧ dm_ex dm_tb dm_cd 2000000 (d + 3) 46 [.ref 62, .int 32, .int w] M = some (none, M') := by
  obtain ⟨M1, h1, hq, hl1, hs1, hw⟩ := ad_wid (d := d) h hl
  obtain ⟨x, hx, hst⟩ := sh_stI (p := 44) (k := 32) (lv := [(0, .ref 62), (1, .int 32), (2, .int w)]) (r := []) (w := w) h1.2 (by decide) (by decide)
  obtain ⟨y, e1, e2⟩ := sh_at h1.2
  refine ⟨M1.set 117 x, ⟨?_, ?_⟩, ?_, ?_, ?_, rx (Nat.le_of_ble_eq_true rfl) ?_⟩
  · rw [List.getElem?_set_ne (by decide)]; exact h1.1
  · rw [sh_set h1.2 hx]; exact h1.2
  · intro q g1 g2
    rw [List.getElem?_set_ne (by omega)]
    exact hq q g1 g2
  · rw [List.length_set]; exact hl1
  · rw [dm_slots_set _ 117 _ _ e1 (sh_sz hx e2)]; exact hs1
  have hisO : dm_isO M 62 3 = true := by unfold dm_isO; rw [h.1]; rfl
  refine qs (f := dm_ild 1 1) rfl rfl ?_
  refine qs (f := dm_ald 2 0) rfl rfl ?_
  refine qs (f := dm_getf 5 3 1) rfl (dm_getf_ok (ad_f1 h)) ?_
  refine qs (f := dm_alen 6) rfl (sh_alen h.2) ?_
  refine qs (f := dm_ic_lt 9 24) rfl (dm_ic_lt_f (by decide)) ?_
  refine qs (f := dm_ild 10 1) rfl rfl ?_
  refine qs (f := dm_ald 11 0) rfl rfl ?_
  refine qs (f := dm_getf 14 3 0) rfl (dm_getf_ok (ad_f0 h)) ?_
  refine qs (f := dm_ic_ge 17 24) rfl (dm_ic_ge_f (by decide)) ?_
  refine qs (f := dm_ald 18 0) rfl rfl ?_
  refine qs (f := dm_ild 19 1) rfl rfl ?_
  refine qs (f := dm_push 20 (.int 1)) rfl rfl ?_
  refine qs (f := dm_ii 21 (fun x y => x + y)) rfl rfl ?_
  refine qc (f := dm_inv 24 48 1 3) rfl (dm_inv_ok hisO rfl (Nat.le_of_ble_eq_true rfl)) hw ?_
  refine qs (f := dm_ild 25 1) rfl rfl ?_
  refine qs (f := dm_if_lt 28 44) rfl (dm_if_lt_f (by decide)) ?_
  refine qs (f := dm_ild 29 1) rfl rfl ?_
  refine qs (f := dm_ald 30 0) rfl rfl ?_
  refine qs (f := dm_getf 33 3 1) rfl (dm_getf_ok (ad_f1 h1)) ?_
  refine qs (f := dm_alen 34) rfl (sh_alen h1.2) ?_
  refine qs (f := dm_ic_ge 37 44) rfl (dm_ic_ge_f (by decide)) ?_
  refine qs (f := dm_ald 38 0) rfl rfl ?_
  refine qs (f := dm_getf 41 3 1) rfl (dm_getf_ok (ad_f1 h1)) ?_
  refine qs (f := dm_ild 42 1) rfl rfl ?_
  refine qs (f := dm_ild 43 2) rfl rfl ?_
  refine qs (f := dm_iast 44) rfl hst ?_
  exact qr (f := dm_vret) rfl rfl
/-- the row of the class while bits come: i of them are there -/
def ad_I (M0 : dm_Mem) (i : Nat) (M : dm_Mem) : Prop := M[61]? = some (.inr (1, [.ref 62, .int (nI i)])) ∧ ((ad_O M 63 32 ∧ i ≤ 32 ∧ M.length = 117 ∧ dm_slots M = dm_slots M0) ∨ (ad_O M 117 64 ∧ M.length = 118 ∧ dm_slots M = dm_slots M0 + 64)) ∧ ∀ q, q < 117 → q ≠ 61 → q ≠ 62 → q ≠ 63 → M[q]? = M0[q]?
theorem ad_put {M0 M : dm_Mem} {i : Nat} {w : Int32} (hi : i < 64) (h : ad_I M0 i M) : ∃ M', dm_ex dm_tb dm_cd 2000000 38 46 [.ref 62, .int (nI i), .int w] M = some (none, M') ∧ M'[61]? = some (.inr (1, [.ref 62, .int (nI i)])) ∧ ((ad_O M' 63 32 ∧ i + 1 ≤ 32 ∧ M'.length = 117 ∧ dm_slots M' = dm_slots M0) ∨ (ad_O M' 117 64 ∧ M'.length = 118 ∧ dm_slots M' = dm_slots M0 + 64)) ∧ ∀ q, q < 117 → q ≠ 61 → q ≠ 62 → q ≠ 63 → M'[q]? = M0[q]? := by
  obtain ⟨h1, h2, h3⟩ := h
  have set_in : ∀ (a len : Nat) (x : dm_Cell), ad_O M a len → sh_c x = some (.int, len) → a ≠ 61 → a ≠ 62 → (a = 63 ∨ 117 ≤ a) → (M.set a x)[61]? = some (.inr (1, [.ref 62, .int (nI i)])) ∧ ad_O (M.set a x) a len ∧ (M.set a x).length = M.length ∧ dm_slots (M.set a x) = dm_slots M ∧ ∀ q, q < 117 → q ≠ 61 → q ≠ 62 → q ≠ 63 → (M.set a x)[q]? = M0[q]? := by
    intro a len x hO hx n1 n2 n3
    obtain ⟨y, e1, e2⟩ := sh_at hO.2
    refine ⟨by rw [List.getElem?_set_ne n1]; exact h1, ⟨by rw [List.getElem?_set_ne n2]; exact hO.1, by rw [sh_set hO.2 hx]; exact hO.2⟩, by rw [List.length_set], dm_slots_set M a y x e1 (sh_sz hx e2), fun q q1 q2 q3 q4 => ?_⟩
    rw [List.getElem?_set_ne (by omega)]
    exact h3 q q1 q2 q3 q4
  rcases h2 with ⟨hO, g1, g2, g3⟩ | ⟨hO, g2, g3⟩
  · by_cases hlt : i < 32
    · obtain ⟨x, hx, hr⟩ := ad_put1 (d := 37) (w := w) hO hlt (by decide)
      obtain ⟨a1, a2, a3, a4, a5⟩ := set_in 63 32 x hO hx (by decide) (by decide) (Or.inl rfl)
      exact ⟨_, hr, a1, Or.inl ⟨a2, hlt, by rw [a3]; exact g2, by rw [a4]; exact g3⟩, a5⟩
    · have hi2 : i = 32 := by omega
      subst hi2
      obtain ⟨M', b1, b2, b3, b4, b5⟩ := ad_put2 (d := 35) (w := w) hO g2
      exact ⟨M', b5, by rw [b2 61 (by decide) (by decide)]; exact h1, Or.inr ⟨b1, b3, by rw [b4, g3]⟩, fun q q1 q2 q3 q4 => by rw [b2 q q1 q3]; exact h3 q q1 q2 q3 q4⟩
  · obtain ⟨x, hx, hr⟩ := ad_put1 (d := 37) (w := w) hO hi (by decide)
    obtain ⟨a1, a2, a3, a4, a5⟩ := set_in 117 64 x hO hx (by decide) (by decide) (Or.inr (by decide))
    exact ⟨_, hr, a1, Or.inr ⟨a2, by rw [a3]; exact g2, by rw [a4]; exact g3⟩, a5⟩
/-- push(v, n), from its loop's head -/
theorem ad_loop {M0 : dm_Mem} (v : Int64) (j : Nat) (hj : j ≤ 64) : ∀ (r : Nat) (M : dm_Mem), r ≤ j → ad_I M0 (j - r) M → ∃ M', ad_I M0 j M' ∧ ∀ N, dm_run (dm_ex dm_tb dm_cd 2000000 38) (dm_cd 8) (N + (21 * r + 3)) (5, [(4, .int (nI r - 1)), (0, .ref 61), (1, .long v), (3, .int (nI j))], []) M = some (none, M') := by
  intro r
  induction r with
  | zero =>
    intro M hr hM
    refine ⟨M, hM, fun N => ?_⟩
    refine qs (f := dm_ild 7 4) rfl rfl ?_
    refine qs (f := dm_if_lt 10 44) rfl (dm_if_lt_t (by decide)) ?_
    exact qr (f := dm_vret) rfl rfl
  | succ r ih =>
    intro M hr hM
    obtain ⟨M1, p1, p2, p3, p4⟩ := ad_put (M0 := M0) (w := ((v.toUInt64 >>> ((nI r).toInt64.toUInt64 &&& Int64.toUInt64 63)).toInt64 &&& 1).toInt32) (by omega) hM
    have hf61 : dm_fld M1 61 1 1 = some (.int (nI (j - (r + 1)))) := by unfold dm_fld; rw [p2]; rfl
    have hM2 : ad_I M0 (j - r) (M1.set 61 (.inr (1, [.ref 62, .int (nI (j - r))]))) := by
      have hl61 : 61 < M1.length := by rcases p3 with ⟨_, _, q, _⟩ | ⟨_, q, _⟩ <;> omega
      have hsl : dm_slots (M1.set 61 (.inr (1, [.ref 62, .int (nI (j - r))]))) = dm_slots M1 := dm_slots_set _ _ _ _ p2 rfl
      refine ⟨by rw [List.getElem?_set_self hl61], ?_, fun q q1 q2 q3 q4 => by rw [List.getElem?_set_ne (Ne.symm q2)]; exact p4 q q1 q2 q3 q4⟩
      have keep : ∀ a len, a ≠ 61 → ad_O M1 a len → ad_O (M1.set 61 (.inr (1, [.ref 62, .int (nI (j - r))]))) a len := fun a len ha hO => ⟨by rw [List.getElem?_set_ne (by decide)]; exact hO.1, by unfold sh_t; rw [List.getElem?_set_ne (Ne.symm ha)]; exact hO.2⟩
      rcases p3 with ⟨q1, q2, q3, q4⟩ | ⟨q1, q3, q4⟩
      · exact Or.inl ⟨keep _ _ (by decide) q1, by omega, by rw [List.length_set]; exact q3, by rw [hsl]; exact q4⟩
      · exact Or.inr ⟨keep _ _ (by decide) q1, by rw [List.length_set]; exact q3, by rw [hsl]; exact q4⟩
    obtain ⟨M', hM', hrun⟩ := ih _ (by omega) hM2
    refine ⟨M', hM', fun N => ?_⟩
    rw [show N + (21 * (r + 1) + 3) = N + (21 * r + 3) + 21 by omega, nI_pred]
    have hO1 : dm_isO M 62 3 = true := by
      rcases hM.2.1 with ⟨q, _⟩ | ⟨q, _⟩ <;> (unfold dm_isO; rw [q.1]; rfl)
    have hf0 : dm_fld M 61 1 0 = some (.ref 62) := by unfold dm_fld; rw [hM.1]; rfl
    have hf1 : dm_fld M 61 1 1 = some (.int (nI (j - (r + 1)))) := by unfold dm_fld; rw [hM.1]; rfl
    refine qs (f := dm_ild 7 4) rfl rfl ?_
    refine qs (f := dm_if_lt 10 44) rfl (dm_if_lt_f (nI_pos (by omega))) ?_
    refine qs (f := dm_ald 11 0) rfl rfl ?_
    refine qs (f := dm_getf 14 1 0) rfl (dm_getf_ok hf0) ?_
    refine qs (f := dm_ald 15 0) rfl rfl ?_
    refine qs (f := dm_getf 18 1 1) rfl (dm_getf_ok hf1) ?_
    refine qs (f := dm_lld 19 1) rfl rfl ?_
    refine qs (f := dm_ild 21 4) rfl rfl ?_
    refine qs (f := dm_li 22 (fun x y => (x.toUInt64 >>> (y.toInt64.toUInt64 &&& Int64.toUInt64 63)).toInt64)) rfl rfl ?_
    refine qs (f := dm_push 23 (.long 1)) rfl rfl ?_
    refine qs (f := dm_ll 24 (fun x y => x &&& y)) rfl rfl ?_
    refine qs (f := dm_l1 25 (fun x => .int x.toInt32)) rfl rfl ?_
    refine qc (f := dm_inv 28 46 2 3) rfl (dm_inv_ok hO1 rfl (Nat.le_of_ble_eq_true rfl)) p1 ?_
    refine qs (f := dm_ald 29 0) rfl rfl ?_
    refine qs (f := dm_dup 30) rfl rfl ?_
    refine qs (f := dm_getf 33 1 1) rfl (dm_getf_ok hf61) ?_
    refine qs (f := dm_push 34 (.int 1)) rfl rfl ?_
    refine qs (f := dm_ii 35 (fun x y => x + y)) rfl rfl ?_
    refine qs (f := dm_putf 38 1 1 .int) (pc' := 38) (lv' := [(4, .int (nI r)), (0, .ref 61), (1, .long v), (3, .int (nI j))]) (st' := []) (M' := M1.set 61 (.inr (1, [.ref 62, .int (nI (j - r))]))) rfl ?_ ?_
    · show dm_putf 38 1 1 .int _ (.int (nI (j - (r + 1)) + 1) :: .ref 61 :: []) _ = _
      unfold dm_putf
      simp only [p2]
      rw [if_pos ⟨trivial, Nat.le_of_ble_eq_true rfl, rfl⟩, nI_1, show j - (r + 1) + 1 = j - r by omega]
      rfl
    refine qs (f := dm_iinc 41 4 (-1)) (pc' := 41) (lv' := [(4, .int (nI r - 1)), (0, .ref 61), (1, .long v), (3, .int (nI j))]) (st' := []) (M' := M1.set 61 (.inr (1, [.ref 62, .int (nI (j - r))]))) rfl ?_ ?_
    rotate_left
    · refine qs (f := dm_goto 5) rfl rfl ?_
      exact hrun N
    · show some _ = some _
      rw [show nI r - 1 = nI r + (-1) from by rw [Int32.sub_eq_add_neg]]
      rfl
set_option maxRecDepth 100000 in
theorem ad_ev : sh_fs ev_3 61 1 [.ref 62, .int 0] = true ∧ sh_fs ev_3 62 3 [.int 600, .ref 63] = true ∧ sh_t ev_3 63 = some (.int, 32) ∧ ev_3.length = 117 ∧ dm_slots ev_3 ≤ 6000000 ∧ sh_fs ev_3 68 8 im_F = true ∧ sh_t ev_3 98 = some (.boolean, 600) ∧ dm_fld ev_3 0 7 4 = some (.ref 61) ∧ dm_isO ev_3 61 1 = true := by decide +kernel
theorem ad_I0 : ad_I ev_3 0 ev_3 := ⟨sh_fs_ok ad_ev.1, Or.inl ⟨⟨sh_fs_ok ad_ev.2.1, ad_ev.2.2.1⟩, by decide, ad_ev.2.2.2.1, rfl⟩, fun _ _ _ _ _ => rfl⟩
theorem ad_600 : ∀ j : Nat, j < 65 → (0 : Int32) + nI j ≤ 600 := by decide
theorem ad_64 : ∀ j : Nat, j < 65 → ¬ (64 : Int32) < nI j := by decide
theorem ad_isO {j : Nat} {M : dm_Mem} (h : ad_I ev_3 j M) : dm_isO M 61 1 = true := by unfold dm_isO; rw [h.1]; rfl
/-- push(v, n) -/
theorem ad_push (v : Int64) (j : Nat) (hj : j ≤ 64) : ∃ M', ad_I ev_3 j M' ∧ dm_ex dm_tb dm_cd 2000000 39 8 [.ref 61, .long v, .int (nI j)] ev_3 = some (none, M') := by
  obtain ⟨M', hM', hrun⟩ := ad_loop (M0 := ev_3) v j hj j ev_3 (Nat.le_refl _) (by rw [Nat.sub_self]; exact ad_I0)
  refine ⟨M', hM', rx (Nat.le_of_ble_eq_true rfl) ?_⟩
  have hr := hrun (2000000 - (21 * j + 3) - 4)
  rw [show 2000000 - (21 * j + 3) - 4 + (21 * j + 3) = 1999996 by omega] at hr
  refine qs (f := dm_ild 1 3) rfl rfl ?_
  refine qs (f := dm_push 2 (.int 1)) rfl rfl ?_
  refine qs (f := dm_ii 3 (fun x y => x - y)) rfl rfl ?_
  refine qs (f := dm_ist 5 4) rfl rfl ?_
  exact hr
theorem ad_cls (v : Int64) (j : Nat) (hj : j ≤ 64) : ∃ M', ad_I ev_3 j M' ∧ ev_E 117 [.ref 0, .long v, .int (nI j)] ev_3 = some (some (.int (nI j)), M') := by
  obtain ⟨M', hM', hp⟩ := ad_push v j hj
  have hf : dm_fld M' 0 7 4 = some (.ref 61) := by
    have h0 := hM'.2.2 0 (by decide) (by decide) (by decide) (by decide)
    have h1 := ad_ev.2.2.2.2.2.2.2.1
    unfold dm_fld at h1 ⊢
    rw [h0]
    exact h1
  have hf1 : dm_fld M' 61 1 1 = some (.int (nI j)) := by unfold dm_fld; rw [hM'.1]; rfl
  have hf0 : dm_fld ev_3 61 1 1 = some (.int 0) := by unfold dm_fld; rw [sh_fs_ok ad_ev.1]; rfl
  refine ⟨M', hM', rx (d := 39) (Nat.le_of_ble_eq_true rfl) ?_⟩
  refine qs (f := dm_ild 1 3) rfl rfl ?_
  refine qs (f := dm_if_lt 4 25) rfl (dm_if_lt_f (nI_pos (by omega))) ?_
  refine qs (f := dm_ild 5 3) rfl rfl ?_
  refine qs (f := dm_push 7 (.int 64)) rfl rfl ?_
  refine qs (f := dm_ic_gt 10 25) rfl (dm_ic_gt_f (ad_64 j (by omega))) ?_
  refine qs (f := dm_ald 11 0) rfl rfl ?_
  refine qs (f := dm_getf 14 7 4) rfl (dm_getf_ok ad_ev.2.2.2.2.2.2.2.1) ?_
  refine qc (f := dm_inv 17 6 0 1) rfl (dm_inv_ok ad_ev.2.2.2.2.2.2.2.2 rfl (Nat.le_of_ble_eq_true rfl)) (ad_sz (N := 1999997) (d := 38) hf0) ?_
  refine qs (f := dm_ild 18 3) rfl rfl ?_
  refine qs (f := dm_ii 19 (fun x y => x + y)) rfl rfl ?_
  refine qs (f := dm_push 22 (.int 600)) rfl rfl ?_
  refine qs (f := dm_ic_le 25 27) rfl (dm_ic_le_t (ad_600 j (by omega))) ?_
  refine qs (f := dm_ald 28 0) rfl rfl ?_
  refine qs (f := dm_getf 31 7 4) rfl (dm_getf_ok ad_ev.2.2.2.2.2.2.2.1) ?_
  refine qs (f := dm_lld 32 1) rfl rfl ?_
  refine qs (f := dm_ild 33 3) rfl rfl ?_
  refine qc (f := dm_inv 36 8 2 1) rfl (dm_inv_ok ad_ev.2.2.2.2.2.2.2.2 rfl (Nat.le_of_ble_eq_true rfl)) hp ?_
  refine qs (f := dm_ald 37 0) rfl rfl ?_
  refine qs (f := dm_getf 40 7 4) rfl (dm_getf_ok hf) ?_
  refine qc (f := dm_inv 43 6 0 1) rfl (dm_inv_ok (ad_isO hM') rfl (Nat.le_of_ble_eq_true rfl)) (ad_sz (N := 1999997) (d := 38) hf1) ?_
  exact qr (f := dm_ret .int) rfl rfl
-- ===== the reference's =====
theorem am_loop {L S : Nat} (v : Int64) (j : Nat) (hj : j ≤ 64) : ∀ (r : Nat) (M : dm_Mem), r ≤ j → im_I (im_F.set 36 (.int (nI (j - r)))) [(98, .boolean, 600)] L S M → ∃ M', M'.length = L ∧ dm_slots M' = S ∧ ∀ N, 25 * r + 5 ≤ N → dm_run (dm_ex dm_tb dm_cd 2000000 39) (dm_cd 196) N (34, [(4, .int (nI r - 1)), (0, .ref 68), (1, .long v), (3, .int (nI j))], []) M = some (some (.int (nI j)), M') := by
  intro r
  induction r with
  | zero =>
    intro M hr hM
    refine ⟨M, hM.2.2.1, hM.2.2.2, fun N hN => ?_⟩
    obtain ⟨m, rfl⟩ : ∃ m, N = m + 5 := ⟨N - 5, by omega⟩
    refine qs (f := dm_ild 36 4) rfl rfl ?_
    refine qs (f := dm_if_lt 39 80) rfl (dm_if_lt_t (by decide)) ?_
    refine qs (f := dm_ald 81 0) rfl rfl ?_
    refine qs (f := dm_getf 84 8 36) rfl (dm_getf_ok (im_fld hM (w := .int (nI j)) (by rw [Nat.sub_zero]; exact List.getElem?_set_self (by decide)))) ?_
    exact qr (f := dm_ret .int) rfl rfl
  | succ r ih =>
    intro M hr hM
    have key : ∀ w : Int32, ∃ x, sh_c x = some (.boolean, 600) ∧ dm_bast 64 [(4, .int (nI r)), (0, .ref 68), (1, .long v), (3, .int (nI j))] (.int w :: .int (nI (j - (r + 1))) :: .ref 98 :: []) M = some (.inl ((64, [(4, .int (nI r)), (0, .ref 68), (1, .long v), (3, .int (nI j))], []), M.set 98 x)) := fun w => sh_stZ (hM.2.1 _ List.mem_cons_self) (by omega) (by decide)
    have f35 : dm_fld M 68 8 35 = some (.ref 98) := im_fld hM (by rw [List.getElem?_set_ne (by decide)]; rfl)
    have f36 : dm_fld M 68 8 36 = some (.int (nI (j - (r + 1)))) := im_fld hM (List.getElem?_set_self (by decide))
    -- behind the store: one more bit, then the loop's head
    have tail : ∀ w : Int32, ∃ M', M'.length = L ∧ dm_slots M' = S ∧ ∀ m, 25 * r + 5 ≤ m → dm_run (dm_ex dm_tb dm_cd 2000000 39) (dm_cd 196) (m + 9) (63, [(4, .int (nI r)), (0, .ref 68), (1, .long v), (3, .int (nI j))], (.int w :: .int (nI (j - (r + 1))) :: .ref 98 :: [])) M = some (some (.int (nI j)), M') := by
      intro w
      obtain ⟨x, hx, hst⟩ := key w
      have hM1 := im_set hM (a := 98) List.mem_cons_self hx (by decide)
      obtain ⟨M2, hM2, hp⟩ := im_put (p := 74) (k := 36) (ty := .int) (w := .int (nI (j - r))) (lv := [(4, .int (nI r)), (0, .ref 68), (1, .long v), (3, .int (nI j))]) (r := []) hM1 (by decide) (by rw [List.length_set]; decide) rfl
      rw [List.set_set] at hM2
      obtain ⟨M', b1, b2, hrun⟩ := ih M2 (by omega) hM2
      refine ⟨M', b1, b2, fun m hm => ?_⟩
      refine qs (f := dm_bast 64) rfl hst ?_
      refine qs (f := dm_ald 65 0) rfl rfl ?_
      refine qs (f := dm_dup 66) rfl rfl ?_
      refine qs (f := dm_getf 69 8 36) rfl (dm_getf_ok (im_fld hM1 (w := .int (nI (j - (r + 1)))) (List.getElem?_set_self (by decide)))) ?_
      refine qs (f := dm_push 70 (.int 1)) rfl rfl ?_
      refine qs (f := dm_ii 71 (fun x y => x + y)) rfl rfl ?_
      refine qs (f := dm_putf 74 8 36 .int) (pc' := 74) (lv' := [(4, .int (nI r)), (0, .ref 68), (1, .long v), (3, .int (nI j))]) (st' := []) (M' := M2) rfl ?_ ?_
      · show dm_putf 74 8 36 .int _ (.int (nI (j - (r + 1)) + 1) :: .ref 68 :: []) _ = _
        rw [nI_1, show j - (r + 1) + 1 = j - r by omega]
        exact hp
      refine qs (f := dm_iinc 77 4 (-1)) (pc' := 77) (lv' := [(4, .int (nI r - 1)), (0, .ref 68), (1, .long v), (3, .int (nI j))]) (st' := []) (M' := M2) rfl ?_ ?_
      rotate_left
      · refine qs (f := dm_goto 34) rfl rfl ?_
        exact hrun m hm
      · show some _ = some _
        rw [show nI r - 1 = nI r + (-1) from by rw [Int32.sub_eq_add_neg]]
        rfl
    by_cases hb : ¬ lg_cmp ((v >>> ((nI r).toInt64 &&& 63)) &&& 1) 1 = 0
    · obtain ⟨M', b1, b2, ht⟩ := tail 0
      refine ⟨M', b1, b2, fun N hN => ?_⟩
      obtain ⟨m, rfl⟩ : ∃ m, N = m + 24 := ⟨N - 24, by omega⟩
      rw [nI_pred]
      refine qs (f := dm_ild 36 4) rfl rfl ?_
      refine qs (f := dm_if_lt 39 80) rfl (dm_if_lt_f (nI_pos (by omega))) ?_
      refine qs (f := dm_ald 40 0) rfl rfl ?_
      refine qs (f := dm_getf 43 8 35) rfl (dm_getf_ok f35) ?_
      refine qs (f := dm_ald 44 0) rfl rfl ?_
      refine qs (f := dm_getf 47 8 36) rfl (dm_getf_ok f36) ?_
      refine qs (f := dm_lld 48 1) rfl rfl ?_
      refine qs (f := dm_ild 50 4) rfl rfl ?_
      refine qs (f := dm_li 51 (fun x y => x >>> (y.toInt64 &&& 63))) rfl rfl ?_
      refine qs (f := dm_push 52 (.long 1)) rfl rfl ?_
      refine qs (f := dm_ll 53 (fun x y => x &&& y)) rfl rfl ?_
      refine qs (f := dm_push 54 (.long 1)) rfl rfl ?_
      refine qs (f := dm_lc 55) rfl rfl ?_
      refine qs (f := dm_if_ne 58 62) rfl (dm_if_ne_t hb) ?_
      refine qs (f := dm_push 63 (.int 0)) rfl rfl ?_
      exact ht m (by omega)
    · obtain ⟨M', b1, b2, ht⟩ := tail 1
      refine ⟨M', b1, b2, fun N hN => ?_⟩
      obtain ⟨m, rfl⟩ : ∃ m, N = m + 25 := ⟨N - 25, by omega⟩
      rw [nI_pred]
      refine qs (f := dm_ild 36 4) rfl rfl ?_
      refine qs (f := dm_if_lt 39 80) rfl (dm_if_lt_f (nI_pos (by omega))) ?_
      refine qs (f := dm_ald 40 0) rfl rfl ?_
      refine qs (f := dm_getf 43 8 35) rfl (dm_getf_ok f35) ?_
      refine qs (f := dm_ald 44 0) rfl rfl ?_
      refine qs (f := dm_getf 47 8 36) rfl (dm_getf_ok f36) ?_
      refine qs (f := dm_lld 48 1) rfl rfl ?_
      refine qs (f := dm_ild 50 4) rfl rfl ?_
      refine qs (f := dm_li 51 (fun x y => x >>> (y.toInt64 &&& 63))) rfl rfl ?_
      refine qs (f := dm_push 52 (.long 1)) rfl rfl ?_
      refine qs (f := dm_ll 53 (fun x y => x &&& y)) rfl rfl ?_
      refine qs (f := dm_push 54 (.long 1)) rfl rfl ?_
      refine qs (f := dm_lc 55) rfl rfl ?_
      refine qs (f := dm_if_ne 58 62) rfl (dm_if_ne_f hb) ?_
      refine qs (f := dm_push 59 (.int 1)) rfl rfl ?_
      refine qs (f := dm_goto 63) rfl rfl ?_
      exact ht m (by omega)
theorem ad_mod {L S : Nat} {M : dm_Mem} (v : Int64) (j : Nat) (hj : j ≤ 64) (h : im_I im_F [(98, .boolean, 600)] L S M) : ∃ M', M'.length = L ∧ dm_slots M' = S ∧ ev_E 196 [.ref 68, .long v, .int (nI j)] M = some (some (.int (nI j)), M') := by
  obtain ⟨M1, h1, hp⟩ := im_put (p := 5) (k := 40) (ty := .int) (w := .int 0) (lv := [(0, .ref 68), (1, .long v), (3, .int (nI j))]) (r := []) h (by decide) (by decide) rfl
  have h1' : im_I im_F [(98, .boolean, 600)] L S M1 := h1
  obtain ⟨M', b1, b2, hrun⟩ := am_loop (L := L) (S := S) v j hj j M1 (Nat.le_refl _) (by rw [Nat.sub_self]; exact h1')
  refine ⟨M', b1, b2, rx (d := 39) (Nat.le_of_ble_eq_true rfl) ?_⟩
  refine qs (f := dm_ald 1 0) rfl rfl ?_
  refine qs (f := dm_push 2 (.int 0)) rfl rfl ?_
  refine qs (f := dm_putf 5 8 40 .int) rfl hp ?_
  refine qs (f := dm_ild 6 3) rfl rfl ?_
  refine qs (f := dm_if_lt 9 27) rfl (dm_if_lt_f (nI_pos (by omega))) ?_
  refine qs (f := dm_ild 10 3) rfl rfl ?_
  refine qs (f := dm_push 12 (.int 64)) rfl rfl ?_
  refine qs (f := dm_ic_gt 15 27) rfl (dm_ic_gt_f (ad_64 j (by omega))) ?_
  refine qs (f := dm_ald 16 0) rfl rfl ?_
  refine qs (f := dm_getf 19 8 36) rfl (dm_getf_ok (im_fld h1' (w := .int 0) rfl)) ?_
  refine qs (f := dm_ild 20 3) rfl rfl ?_
  refine qs (f := dm_ii 21 (fun x y => x + y)) rfl rfl ?_
  refine qs (f := dm_push 24 (.int 600)) rfl rfl ?_
  refine qs (f := dm_ic_le 27 29) rfl (dm_ic_le_t (ad_600 j (by omega))) ?_
  refine qs (f := dm_ild 30 3) rfl rfl ?_
  refine qs (f := dm_push 31 (.int 1)) rfl rfl ?_
  refine qs (f := dm_ii 32 (fun x y => x - y)) rfl rfl ?_
  refine qs (f := dm_ist 34 4) rfl rfl ?_
  exact hrun _ (by omega)
theorem ad_both (v : Int64) (n : Int32) (h1 : ¬ n < 0) (h2 : ¬ 64 < n) : ∃ M1 M2, ev_E 117 [.ref 0, .long v, .int n] ev_3 = some (some (.int n), M1) ∧ dm_isO M1 68 8 = true ∧ ev_E 196 [.ref 68, .long v, .int n] M1 = some (some (.int n), M2) ∧ dm_bd M2 = true := by
  obtain ⟨j, hj, rfl⟩ := nI_of2 (M := 64) (n := 64) (by decide) h1 (Int32.not_lt.mp h2)
  obtain ⟨M1, hI, hc⟩ := ad_cls v j hj
  have e68 : M1[68]? = some (.inr (8, im_F)) := by rw [hI.2.2 68 (by decide) (by decide) (by decide) (by decide)]; exact sh_fs_ok ad_ev.2.2.2.2.2.1
  have e98 : sh_t M1 98 = some (.boolean, 600) := by
    have h1 := ad_ev.2.2.2.2.2.2.1
    unfold sh_t at h1 ⊢
    rw [hI.2.2 98 (by decide) (by decide) (by decide) (by decide)]
    exact h1
  obtain ⟨M2, b1, b2, hm⟩ := ad_mod (M := M1) (L := M1.length) (S := dm_slots M1) v j hj ⟨e68, fun x hx => by rw [List.mem_singleton.mp hx]; exact e98, rfl, rfl⟩
  refine ⟨M1, M2, hc, by unfold dm_isO; rw [e68]; rfl, hm, ?_⟩
  have hs := ad_ev.2.2.2.2.1
  unfold dm_bd
  rw [b1, b2, Bool.and_eq_true]
  rcases hI.2.1 with ⟨_, _, q1, q2⟩ | ⟨_, q1, q2⟩
  · exact ⟨decide_eq_true (by omega), decide_eq_true (by omega)⟩
  · exact ⟨decide_eq_true (by omega), decide_eq_true (by omega)⟩
