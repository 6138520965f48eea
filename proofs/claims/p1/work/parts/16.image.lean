/-! memories by the shape of their arrays -/
def sh_c : dm_Cell → Option (FieldType × Nat)
  | .inl (.long, n, .inr (.inl _)) => some (.long, n)
  | .inl (.int, n, .inl _) => some (.int, n)
  | .inl (.boolean, n, .inl _) => some (.boolean, n)
  | .inl (.byte, n, .inl _) => some (.byte, n)
  | .inl (.short, n, .inl _) => some (.short, n)
  | _ => none
def sh_t (M : dm_Mem) (a : Nat) : Option (FieldType × Nat) := match M[a]? with
  | some x => sh_c x
  | none => none
theorem sh_sz {x y : dm_Cell} {q : FieldType × Nat} (hx : sh_c x = some q) (hy : sh_c y = some q) : dm_sz x = dm_sz y := by
  have key : ∀ z : dm_Cell, sh_c z = some q → dm_sz z = q.2 := by
    intro z hz
    unfold sh_c at hz
    split at hz <;> first | (cases hz; rfl) | cases hz
  rw [key x hx, key y hy]
theorem sh_set {M : dm_Mem} {a b : Nat} {x : dm_Cell} {q : FieldType × Nat} (ha : sh_t M a = some q) (hx : sh_c x = some q) : sh_t (M.set a x) b = sh_t M b := by
  unfold sh_t at ha ⊢
  by_cases h : a = b
  · subst h
    have hl : a < M.length := by
      cases hm : M[a]? with
      | none => rw [hm] at ha; cases ha
      | some y => exact (List.getElem?_eq_some_iff.mp hm).1
    rw [List.getElem?_set_self hl]
    rw [ha]
    exact hx
  · rw [List.getElem?_set_ne h]
theorem sh_at {M : dm_Mem} {a : Nat} {q : FieldType × Nat} (h : sh_t M a = some q) : ∃ x, M[a]? = some x ∧ sh_c x = some q := by
  unfold sh_t at h
  cases hm : M[a]? with
  | none => rw [hm] at h; cases h
  | some x => rw [hm] at h; exact ⟨x, rfl, h⟩
/-- loads and stores by shape -/
theorem sh_isL {x : dm_Cell} {n : Nat} (h : sh_c x = some (.long, n)) : ∃ f : Nat → Int64, x = .inl (.long, n, .inr (.inl f)) := by
  unfold sh_c at h
  split at h <;> first | (cases h; exact ⟨_, rfl⟩) | cases h
theorem sh_ldL {M : dm_Mem} {a n k p : Nat} {lv : dm_Lv} {r : List Value} (h : sh_t M a = some (.long, n)) (hk : k < n) (hn : n < 2 ^ 31) : ∃ w : Int64, dm_lald p lv (.int (nI k) :: .ref a :: r) M = some (.inl ((p, lv, .long w :: r), M)) := by
  obtain ⟨x, e1, e2⟩ := sh_at h
  obtain ⟨f, rfl⟩ := sh_isL e2
  refine ⟨f (nI k).toNatClampNeg, ?_⟩
  unfold dm_lald
  simp only [e1]
  rw [if_neg (nI_in hk hn)]
theorem sh_stL {M : dm_Mem} {a n k p : Nat} {lv : dm_Lv} {r : List Value} {w : Int64} (h : sh_t M a = some (.long, n)) (hk : k < n) (hn : n < 2 ^ 31) : ∃ x : dm_Cell, sh_c x = some (.long, n) ∧ dm_last p lv (.long w :: .int (nI k) :: .ref a :: r) M = some (.inl ((p, lv, r), M.set a x)) := by
  obtain ⟨x, e1, e2⟩ := sh_at h
  obtain ⟨f, rfl⟩ := sh_isL e2
  refine ⟨.inl (.long, n, .inr (.inl (vp_updL f (nI k).toNatClampNeg w))), rfl, ?_⟩
  unfold dm_last
  simp only [e1]
  rw [if_neg (nI_in hk hn)]
theorem sh_isI {x : dm_Cell} {n : Nat} (h : sh_c x = some (.int, n)) : ∃ f : Nat → Int32, x = .inl (.int, n, .inl f) := by
  unfold sh_c at h
  split at h <;> first | (cases h; exact ⟨_, rfl⟩) | cases h
theorem sh_ldI {M : dm_Mem} {a n k p : Nat} {lv : dm_Lv} {r : List Value} (h : sh_t M a = some (.int, n)) (hk : k < n) (hn : n < 2 ^ 31) : ∃ w : Int32, dm_iald p lv (.int (nI k) :: .ref a :: r) M = some (.inl ((p, lv, .int w :: r), M)) := by
  obtain ⟨x, e1, e2⟩ := sh_at h
  obtain ⟨f, rfl⟩ := sh_isI e2
  refine ⟨f (nI k).toNatClampNeg, ?_⟩
  unfold dm_iald
  simp only [e1]
  rw [if_neg (nI_in hk hn)]
theorem sh_stI {M : dm_Mem} {a n k p : Nat} {lv : dm_Lv} {r : List Value} {w : Int32} (h : sh_t M a = some (.int, n)) (hk : k < n) (hn : n < 2 ^ 31) : ∃ x : dm_Cell, sh_c x = some (.int, n) ∧ dm_iast p lv (.int w :: .int (nI k) :: .ref a :: r) M = some (.inl ((p, lv, r), M.set a x)) := by
  obtain ⟨x, e1, e2⟩ := sh_at h
  obtain ⟨f, rfl⟩ := sh_isI e2
  refine ⟨.inl (.int, n, .inl (upd f (nI k).toNatClampNeg w)), rfl, ?_⟩
  unfold dm_iast
  simp only [e1]
  rw [if_neg (nI_in hk hn)]
theorem sh_isZ {x : dm_Cell} {n : Nat} (h : sh_c x = some (.boolean, n)) : ∃ f : Nat → Int32, x = .inl (.boolean, n, .inl f) := by
  unfold sh_c at h
  split at h <;> first | (cases h; exact ⟨_, rfl⟩) | cases h
theorem sh_ldZ {M : dm_Mem} {a n k p : Nat} {lv : dm_Lv} {r : List Value} (h : sh_t M a = some (.boolean, n)) (hk : k < n) (hn : n < 2 ^ 31) : ∃ w : Int32, dm_bald p lv (.int (nI k) :: .ref a :: r) M = some (.inl ((p, lv, .int w :: r), M)) := by
  obtain ⟨x, e1, e2⟩ := sh_at h
  obtain ⟨f, rfl⟩ := sh_isZ e2
  refine ⟨f (nI k).toNatClampNeg, ?_⟩
  unfold dm_bald
  simp only [e1]
  rw [if_neg (nI_in hk hn)]
theorem sh_stZ {M : dm_Mem} {a n k p : Nat} {lv : dm_Lv} {r : List Value} {w : Int32} (h : sh_t M a = some (.boolean, n)) (hk : k < n) (hn : n < 2 ^ 31) : ∃ x : dm_Cell, sh_c x = some (.boolean, n) ∧ dm_bast p lv (.int w :: .int (nI k) :: .ref a :: r) M = some (.inl ((p, lv, r), M.set a x)) := by
  obtain ⟨x, e1, e2⟩ := sh_at h
  obtain ⟨f, rfl⟩ := sh_isZ e2
  refine ⟨.inl (.boolean, n, .inl (upd f (nI k).toNatClampNeg (vp_nar .boolean w))), rfl, ?_⟩
  unfold dm_bast
  simp only [e1]
  rw [if_neg (nI_in hk hn)]
theorem sh_isB {x : dm_Cell} {n : Nat} (h : sh_c x = some (.byte, n)) : ∃ f : Nat → Int32, x = .inl (.byte, n, .inl f) := by
  unfold sh_c at h
  split at h <;> first | (cases h; exact ⟨_, rfl⟩) | cases h
theorem sh_ldB {M : dm_Mem} {a n k p : Nat} {lv : dm_Lv} {r : List Value} (h : sh_t M a = some (.byte, n)) (hk : k < n) (hn : n < 2 ^ 31) : ∃ w : Int32, dm_bald p lv (.int (nI k) :: .ref a :: r) M = some (.inl ((p, lv, .int w :: r), M)) := by
  obtain ⟨x, e1, e2⟩ := sh_at h
  obtain ⟨f, rfl⟩ := sh_isB e2
  refine ⟨f (nI k).toNatClampNeg, ?_⟩
  unfold dm_bald
  simp only [e1]
  rw [if_neg (nI_in hk hn)]
theorem sh_stB {M : dm_Mem} {a n k p : Nat} {lv : dm_Lv} {r : List Value} {w : Int32} (h : sh_t M a = some (.byte, n)) (hk : k < n) (hn : n < 2 ^ 31) : ∃ x : dm_Cell, sh_c x = some (.byte, n) ∧ dm_bast p lv (.int w :: .int (nI k) :: .ref a :: r) M = some (.inl ((p, lv, r), M.set a x)) := by
  obtain ⟨x, e1, e2⟩ := sh_at h
  obtain ⟨f, rfl⟩ := sh_isB e2
  refine ⟨.inl (.byte, n, .inl (upd f (nI k).toNatClampNeg (vp_nar .byte w))), rfl, ?_⟩
  unfold dm_bast
  simp only [e1]
  rw [if_neg (nI_in hk hn)]
theorem sh_isS {x : dm_Cell} {n : Nat} (h : sh_c x = some (.short, n)) : ∃ f : Nat → Int32, x = .inl (.short, n, .inl f) := by
  unfold sh_c at h
  split at h <;> first | (cases h; exact ⟨_, rfl⟩) | cases h
theorem sh_ldS {M : dm_Mem} {a n k p : Nat} {lv : dm_Lv} {r : List Value} (h : sh_t M a = some (.short, n)) (hk : k < n) (hn : n < 2 ^ 31) : ∃ w : Int32, dm_sald p lv (.int (nI k) :: .ref a :: r) M = some (.inl ((p, lv, .int w :: r), M)) := by
  obtain ⟨x, e1, e2⟩ := sh_at h
  obtain ⟨f, rfl⟩ := sh_isS e2
  refine ⟨f (nI k).toNatClampNeg, ?_⟩
  unfold dm_sald
  simp only [e1]
  rw [if_neg (nI_in hk hn)]
theorem sh_stS {M : dm_Mem} {a n k p : Nat} {lv : dm_Lv} {r : List Value} {w : Int32} (h : sh_t M a = some (.short, n)) (hk : k < n) (hn : n < 2 ^ 31) : ∃ x : dm_Cell, sh_c x = some (.short, n) ∧ dm_sast p lv (.int w :: .int (nI k) :: .ref a :: r) M = some (.inl ((p, lv, r), M.set a x)) := by
  obtain ⟨x, e1, e2⟩ := sh_at h
  obtain ⟨f, rfl⟩ := sh_isS e2
  refine ⟨.inl (.short, n, .inl (upd f (nI k).toNatClampNeg (vp_nar .short w))), rfl, ?_⟩
  unfold dm_sast
  simp only [e1]
  rw [if_neg (nI_in hk hn)]
/-- an object with these fields, arrays of these shapes; as many cells and slots as it had -/
def im_I (fs : List Value) (ar : List (Nat × FieldType × Nat)) (L S : Nat) (M : dm_Mem) : Prop := M[68]? = some (.inr (8, fs)) ∧ (∀ x ∈ ar, sh_t M x.1 = some x.2) ∧ M.length = L ∧ dm_slots M = S
theorem im_fld {fs : List Value} {ar : List (Nat × FieldType × Nat)} {L S : Nat} {M : dm_Mem} (h : im_I fs ar L S M) {k : Nat} {w : Value} (hk : fs[k]? = some w) : dm_fld M 68 8 k = some w := by
  unfold dm_fld
  rw [h.1]
  simp [hk]
theorem im_set {fs : List Value} {ar : List (Nat × FieldType × Nat)} {L S : Nat} {M : dm_Mem} (h : im_I fs ar L S M) {a : Nat} {q : FieldType × Nat} {x : dm_Cell} (ha : (a, q) ∈ ar) (hx : sh_c x = some q) (hne : a ≠ 68) : im_I fs ar L S (M.set a x) := by
  have h1 := h.2.1 _ ha
  obtain ⟨y, e1, e2⟩ := sh_at h1
  refine ⟨by rw [List.getElem?_set_ne hne]; exact h.1, fun z hz => by rw [sh_set h1 hx]; exact h.2.1 z hz, by rw [List.length_set]; exact h.2.2.1, ?_⟩
  rw [dm_slots_set M a y x e1 (sh_sz hx e2)]
  exact h.2.2.2
theorem im_put {fs : List Value} {ar : List (Nat × FieldType × Nat)} {L S : Nat} {M : dm_Mem} (h : im_I fs ar L S M) (har : ∀ x ∈ ar, x.1 ≠ 68) {k p : Nat} {ty : FieldType} {w : Value} {lv : dm_Lv} {r : List Value} (hk : k < fs.length) (hf : dm_fit ty w = true) : ∃ M', im_I (fs.set k w) ar L S M' ∧ dm_putf p 8 k ty lv (w :: .ref 68 :: r) M = some (.inl ((p, lv, r), M')) := by
  refine ⟨M.set 68 (.inr (8, fs.set k w)), ⟨?_, fun z hz => ?_, ?_, ?_⟩, ?_⟩
  · rw [List.getElem?_set_self (List.getElem?_eq_some_iff.mp h.1).1]
  · unfold sh_t
    rw [List.getElem?_set_ne (Ne.symm (har z hz))]
    exact h.2.1 z hz
  · rw [List.length_set]; exact h.2.2.1
  · rw [dm_slots_set M 68 _ _ h.1 (by simp [dm_sz])]; exact h.2.2.2
  · unfold dm_putf
    simp only [h.1]
    rw [if_pos ⟨trivial, hk, hf⟩]
theorem im_cpL {K : dm_K} {t : dm_Code} {pc kd ks ad sa n k L S : Nat} {fs : List Value} {ar : List (Nat × FieldType × Nat)} {M : dm_Mem} (f0 : dm_fetch t pc = some (dm_ald (pc + 1) 0)) (f1 : dm_fetch t (pc + 1) = some (dm_getf (pc + 4) 8 kd)) (f2 : dm_fetch t (pc + 4) = some (dm_ild (pc + 5) 1)) (f3 : dm_fetch t (pc + 5) = some (dm_ald (pc + 6) 0)) (f4 : dm_fetch t (pc + 6) = some (dm_getf (pc + 9) 8 ks)) (f5 : dm_fetch t (pc + 9) = some (dm_ild (pc + 10) 1)) (f6 : dm_fetch t (pc + 10) = some (dm_lald (pc + 11))) (f7 : dm_fetch t (pc + 11) = some (dm_last (pc + 12)))
    (hd : fs[kd]? = some (.ref ad)) (hs : fs[ks]? = some (.ref sa)) (md : (ad, .long, n) ∈ ar) (ms : (sa, .long, n) ∈ ar) (hne : ad ≠ 68) (hk : k < n) (hn : n < 2 ^ 31) (hM : im_I fs ar L S M) :
    ∃ M', im_I fs ar L S M' ∧ ∀ (N : Nat) (o : Option (Option Value × dm_Mem)), dm_run K t N (pc + 12, [(1, .int (nI k)), (0, .ref 68)], []) M' = o → dm_run K t (N + 8) (pc, [(1, .int (nI k)), (0, .ref 68)], []) M = o := by
  obtain ⟨w, hw⟩ := sh_ldL (p := pc + 11) (lv := [(1, .int (nI k)), (0, .ref 68)]) (r := [.int (nI k), .ref ad]) (hM.2.1 _ ms) hk hn
  obtain ⟨x, hx, hst⟩ := sh_stL (p := pc + 12) (lv := [(1, .int (nI k)), (0, .ref 68)]) (r := []) (w := w) (hM.2.1 _ md) hk hn
  refine ⟨M.set ad x, im_set hM md hx hne, fun N o h => ?_⟩
  refine qs f0 rfl ?_
  refine qs f1 (dm_getf_ok (im_fld hM hd)) ?_
  refine qs f2 rfl ?_
  refine qs f3 rfl ?_
  refine qs f4 (dm_getf_ok (im_fld hM hs)) ?_
  refine qs f5 rfl ?_
  refine qs f6 hw ?_
  exact qs f7 hst h
theorem im_cpI {K : dm_K} {t : dm_Code} {pc kd ks ad sa n k L S : Nat} {fs : List Value} {ar : List (Nat × FieldType × Nat)} {M : dm_Mem} (f0 : dm_fetch t pc = some (dm_ald (pc + 1) 0)) (f1 : dm_fetch t (pc + 1) = some (dm_getf (pc + 4) 8 kd)) (f2 : dm_fetch t (pc + 4) = some (dm_ild (pc + 5) 1)) (f3 : dm_fetch t (pc + 5) = some (dm_ald (pc + 6) 0)) (f4 : dm_fetch t (pc + 6) = some (dm_getf (pc + 9) 8 ks)) (f5 : dm_fetch t (pc + 9) = some (dm_ild (pc + 10) 1)) (f6 : dm_fetch t (pc + 10) = some (dm_iald (pc + 11))) (f7 : dm_fetch t (pc + 11) = some (dm_iast (pc + 12)))
    (hd : fs[kd]? = some (.ref ad)) (hs : fs[ks]? = some (.ref sa)) (md : (ad, .int, n) ∈ ar) (ms : (sa, .int, n) ∈ ar) (hne : ad ≠ 68) (hk : k < n) (hn : n < 2 ^ 31) (hM : im_I fs ar L S M) :
    ∃ M', im_I fs ar L S M' ∧ ∀ (N : Nat) (o : Option (Option Value × dm_Mem)), dm_run K t N (pc + 12, [(1, .int (nI k)), (0, .ref 68)], []) M' = o → dm_run K t (N + 8) (pc, [(1, .int (nI k)), (0, .ref 68)], []) M = o := by
  obtain ⟨w, hw⟩ := sh_ldI (p := pc + 11) (lv := [(1, .int (nI k)), (0, .ref 68)]) (r := [.int (nI k), .ref ad]) (hM.2.1 _ ms) hk hn
  obtain ⟨x, hx, hst⟩ := sh_stI (p := pc + 12) (lv := [(1, .int (nI k)), (0, .ref 68)]) (r := []) (w := w) (hM.2.1 _ md) hk hn
  refine ⟨M.set ad x, im_set hM md hx hne, fun N o h => ?_⟩
  refine qs f0 rfl ?_
  refine qs f1 (dm_getf_ok (im_fld hM hd)) ?_
  refine qs f2 rfl ?_
  refine qs f3 rfl ?_
  refine qs f4 (dm_getf_ok (im_fld hM hs)) ?_
  refine qs f5 rfl ?_
  refine qs f6 hw ?_
  exact qs f7 hst h
theorem im_cpZ {K : dm_K} {t : dm_Code} {pc kd ks ad sa n k L S : Nat} {fs : List Value} {ar : List (Nat × FieldType × Nat)} {M : dm_Mem} (f0 : dm_fetch t pc = some (dm_ald (pc + 1) 0)) (f1 : dm_fetch t (pc + 1) = some (dm_getf (pc + 4) 8 kd)) (f2 : dm_fetch t (pc + 4) = some (dm_ild (pc + 5) 1)) (f3 : dm_fetch t (pc + 5) = some (dm_ald (pc + 6) 0)) (f4 : dm_fetch t (pc + 6) = some (dm_getf (pc + 9) 8 ks)) (f5 : dm_fetch t (pc + 9) = some (dm_ild (pc + 10) 1)) (f6 : dm_fetch t (pc + 10) = some (dm_bald (pc + 11))) (f7 : dm_fetch t (pc + 11) = some (dm_bast (pc + 12)))
    (hd : fs[kd]? = some (.ref ad)) (hs : fs[ks]? = some (.ref sa)) (md : (ad, .boolean, n) ∈ ar) (ms : (sa, .boolean, n) ∈ ar) (hne : ad ≠ 68) (hk : k < n) (hn : n < 2 ^ 31) (hM : im_I fs ar L S M) :
    ∃ M', im_I fs ar L S M' ∧ ∀ (N : Nat) (o : Option (Option Value × dm_Mem)), dm_run K t N (pc + 12, [(1, .int (nI k)), (0, .ref 68)], []) M' = o → dm_run K t (N + 8) (pc, [(1, .int (nI k)), (0, .ref 68)], []) M = o := by
  obtain ⟨w, hw⟩ := sh_ldZ (p := pc + 11) (lv := [(1, .int (nI k)), (0, .ref 68)]) (r := [.int (nI k), .ref ad]) (hM.2.1 _ ms) hk hn
  obtain ⟨x, hx, hst⟩ := sh_stZ (p := pc + 12) (lv := [(1, .int (nI k)), (0, .ref 68)]) (r := []) (w := w) (hM.2.1 _ md) hk hn
  refine ⟨M.set ad x, im_set hM md hx hne, fun N o h => ?_⟩
  refine qs f0 rfl ?_
  refine qs f1 (dm_getf_ok (im_fld hM hd)) ?_
  refine qs f2 rfl ?_
  refine qs f3 rfl ?_
  refine qs f4 (dm_getf_ok (im_fld hM hs)) ?_
  refine qs f5 rfl ?_
  refine qs f6 hw ?_
  exact qs f7 hst h
theorem im_cpB {K : dm_K} {t : dm_Code} {pc kd ks ad sa n k L S : Nat} {fs : List Value} {ar : List (Nat × FieldType × Nat)} {M : dm_Mem} (f0 : dm_fetch t pc = some (dm_ald (pc + 1) 0)) (f1 : dm_fetch t (pc + 1) = some (dm_getf (pc + 4) 8 kd)) (f2 : dm_fetch t (pc + 4) = some (dm_ild (pc + 5) 1)) (f3 : dm_fetch t (pc + 5) = some (dm_ald (pc + 6) 0)) (f4 : dm_fetch t (pc + 6) = some (dm_getf (pc + 9) 8 ks)) (f5 : dm_fetch t (pc + 9) = some (dm_ild (pc + 10) 1)) (f6 : dm_fetch t (pc + 10) = some (dm_bald (pc + 11))) (f7 : dm_fetch t (pc + 11) = some (dm_bast (pc + 12)))
    (hd : fs[kd]? = some (.ref ad)) (hs : fs[ks]? = some (.ref sa)) (md : (ad, .byte, n) ∈ ar) (ms : (sa, .byte, n) ∈ ar) (hne : ad ≠ 68) (hk : k < n) (hn : n < 2 ^ 31) (hM : im_I fs ar L S M) :
    ∃ M', im_I fs ar L S M' ∧ ∀ (N : Nat) (o : Option (Option Value × dm_Mem)), dm_run K t N (pc + 12, [(1, .int (nI k)), (0, .ref 68)], []) M' = o → dm_run K t (N + 8) (pc, [(1, .int (nI k)), (0, .ref 68)], []) M = o := by
  obtain ⟨w, hw⟩ := sh_ldB (p := pc + 11) (lv := [(1, .int (nI k)), (0, .ref 68)]) (r := [.int (nI k), .ref ad]) (hM.2.1 _ ms) hk hn
  obtain ⟨x, hx, hst⟩ := sh_stB (p := pc + 12) (lv := [(1, .int (nI k)), (0, .ref 68)]) (r := []) (w := w) (hM.2.1 _ md) hk hn
  refine ⟨M.set ad x, im_set hM md hx hne, fun N o h => ?_⟩
  refine qs f0 rfl ?_
  refine qs f1 (dm_getf_ok (im_fld hM hd)) ?_
  refine qs f2 rfl ?_
  refine qs f3 rfl ?_
  refine qs f4 (dm_getf_ok (im_fld hM hs)) ?_
  refine qs f5 rfl ?_
  refine qs f6 hw ?_
  exact qs f7 hst h
theorem im_cpS {K : dm_K} {t : dm_Code} {pc kd ks ad sa n k L S : Nat} {fs : List Value} {ar : List (Nat × FieldType × Nat)} {M : dm_Mem} (f0 : dm_fetch t pc = some (dm_ald (pc + 1) 0)) (f1 : dm_fetch t (pc + 1) = some (dm_getf (pc + 4) 8 kd)) (f2 : dm_fetch t (pc + 4) = some (dm_ild (pc + 5) 1)) (f3 : dm_fetch t (pc + 5) = some (dm_ald (pc + 6) 0)) (f4 : dm_fetch t (pc + 6) = some (dm_getf (pc + 9) 8 ks)) (f5 : dm_fetch t (pc + 9) = some (dm_ild (pc + 10) 1)) (f6 : dm_fetch t (pc + 10) = some (dm_sald (pc + 11))) (f7 : dm_fetch t (pc + 11) = some (dm_sast (pc + 12)))
    (hd : fs[kd]? = some (.ref ad)) (hs : fs[ks]? = some (.ref sa)) (md : (ad, .short, n) ∈ ar) (ms : (sa, .short, n) ∈ ar) (hne : ad ≠ 68) (hk : k < n) (hn : n < 2 ^ 31) (hM : im_I fs ar L S M) :
    ∃ M', im_I fs ar L S M' ∧ ∀ (N : Nat) (o : Option (Option Value × dm_Mem)), dm_run K t N (pc + 12, [(1, .int (nI k)), (0, .ref 68)], []) M' = o → dm_run K t (N + 8) (pc, [(1, .int (nI k)), (0, .ref 68)], []) M = o := by
  obtain ⟨w, hw⟩ := sh_ldS (p := pc + 11) (lv := [(1, .int (nI k)), (0, .ref 68)]) (r := [.int (nI k), .ref ad]) (hM.2.1 _ ms) hk hn
  obtain ⟨x, hx, hst⟩ := sh_stS (p := pc + 12) (lv := [(1, .int (nI k)), (0, .ref 68)]) (r := []) (w := w) (hM.2.1 _ md) hk hn
  refine ⟨M.set ad x, im_set hM md hx hne, fun N o h => ?_⟩
  refine qs f0 rfl ?_
  refine qs f1 (dm_getf_ok (im_fld hM hd)) ?_
  refine qs f2 rfl ?_
  refine qs f3 rfl ?_
  refine qs f4 (dm_getf_ok (im_fld hM hs)) ?_
  refine qs f5 rfl ?_
  refine qs f6 hw ?_
  exact qs f7 hst h
def im_F : List Value := [.ref 69, .ref 70, .ref 71, .ref 72, .ref 73, .ref 74, .ref 75, .ref 76, .ref 77, .ref 78, .ref 79, .ref 80, .ref 81, .ref 82, .ref 83, .int 1, .int 0, .int 2, .ref 84, .ref 85, .ref 86, .ref 87, .ref 88, .ref 89, .ref 90, .ref 91, .int 0, .ref 92, .ref 93, .int 1, .ref 94, .ref 95, .ref 96, .ref 97, .int 1, .ref 98, .int 0, .int (-1), .long 0, .int (-1), .int 0, .int 0, .ref 99, .ref 100, .ref 101, .ref 102, .ref 103, .ref 104, .ref 105, .ref 106, .ref 107, .ref 108, .ref 109, .ref 110, .ref 111, .ref 112, .ref 113, .int 0, .int 0, .int 0, .long 0, .long 0, .ref 114, .ref 115, .int 0, .int 0, .int 0, .int 0]
def im_A : List (Nat × FieldType × Nat) := [(69, .long, 24000), (70, .int, 24000), (71, .long, 24000), (72, .long, 24000), (73, .int, 1001), (74, .int, 1001), (75, .boolean, 1000), (76, .boolean, 1000), (77, .boolean, 1000), (78, .byte, 1000), (79, .short, 1000), (80, .short, 1000), (81, .int, 1000), (82, .int, 1000), (83, .long, 16000), (84, .short, 3000), (85, .short, 3000), (86, .short, 3000), (87, .short, 3000), (88, .boolean, 3000), (89, .boolean, 3000), (90, .short, 3000), (91, .short, 3000), (92, .long, 24000), (93, .int, 24000), (94, .long, 24000), (95, .int, 24000), (96, .long, 24000), (97, .long, 24000), (98, .boolean, 600), (99, .long, 24000), (100, .int, 24000), (101, .long, 24000), (102, .long, 24000), (103, .int, 1001), (104, .int, 1001), (105, .boolean, 1000), (106, .boolean, 1000), (107, .boolean, 1000), (108, .byte, 1000), (109, .short, 1000), (110, .short, 1000), (111, .int, 1000), (112, .int, 1000), (113, .long, 16000), (114, .long, 24000), (115, .int, 24000)]
theorem im_A68 : ∀ x ∈ im_A, x.1 ≠ 68 := by decide
theorem im_l1 (K : dm_K) {fs : List Value} {L S : Nat} (h9 : ∀ k, k < 68 → k ≠ 40 → k ≠ 41 → fs[k]? = im_F[k]?) : ∀ (j k : Nat) (M : dm_Mem), k + j = 24000 → im_I fs im_A L S M → ∃ M', im_I fs im_A L S M' ∧ ∀ (N : Nat) (o : Option (Option Value × dm_Mem)), dm_run K (dm_cd 206) N (73, [(1, .int (nI 24000)), (0, .ref 68)], []) M' = o → dm_run K (dm_cd 206) (N + (37 * j + 3)) (12, [(1, .int (nI k)), (0, .ref 68)], []) M = o := by
  intro j
  induction j with
  | zero =>
    intro k M hk hM
    refine ⟨M, hM, fun N o h => ?_⟩
    have hk' : k = 24000 := by omega
    subst hk'
    refine qs (f := dm_ild 13 1) rfl rfl ?_
    refine qs (f := dm_push 16 (.int 24000)) rfl rfl ?_
    exact qs (f := dm_ic_ge 19 73) rfl (dm_ic_ge_t (by decide)) h
  | succ j ih =>
    intro k M hk hM
    have hk0 : k < 24000 := by omega
    obtain ⟨M1, hM1, r1⟩ := im_cpL (K := K) (t := dm_cd 206) (pc := 19) (kd := 42) (ks := 0) (ad := 99) (sa := 69) (n := 24000) (k := k) rfl rfl rfl rfl rfl rfl rfl rfl (by rw [h9 42 (by decide) (by decide) (by decide)]; rfl) (by rw [h9 0 (by decide) (by decide) (by decide)]; rfl) (by decide) (by decide) (by decide) hk0 (by decide) hM
    obtain ⟨M2, hM2, r2⟩ := im_cpI (K := K) (t := dm_cd 206) (pc := 31) (kd := 43) (ks := 1) (ad := 100) (sa := 70) (n := 24000) (k := k) rfl rfl rfl rfl rfl rfl rfl rfl (by rw [h9 43 (by decide) (by decide) (by decide)]; rfl) (by rw [h9 1 (by decide) (by decide) (by decide)]; rfl) (by decide) (by decide) (by decide) hk0 (by decide) hM1
    obtain ⟨M3, hM3, r3⟩ := im_cpL (K := K) (t := dm_cd 206) (pc := 43) (kd := 44) (ks := 2) (ad := 101) (sa := 71) (n := 24000) (k := k) rfl rfl rfl rfl rfl rfl rfl rfl (by rw [h9 44 (by decide) (by decide) (by decide)]; rfl) (by rw [h9 2 (by decide) (by decide) (by decide)]; rfl) (by decide) (by decide) (by decide) hk0 (by decide) hM2
    obtain ⟨M4, hM4, r4⟩ := im_cpL (K := K) (t := dm_cd 206) (pc := 55) (kd := 45) (ks := 3) (ad := 102) (sa := 72) (n := 24000) (k := k) rfl rfl rfl rfl rfl rfl rfl rfl (by rw [h9 45 (by decide) (by decide) (by decide)]; rfl) (by rw [h9 3 (by decide) (by decide) (by decide)]; rfl) (by decide) (by decide) (by decide) hk0 (by decide) hM3
    obtain ⟨M', hM', r⟩ := ih (k + 1) M4 (by omega) hM4
    refine ⟨M', hM', fun N o h => ?_⟩
    have h1 := r N o h
    rw [show N + (37 * (j + 1) + 3) = N + (37 * j + 3) + 2 + 8 + 8 + 8 + 8 + 3 by omega]
    refine qs (f := dm_ild 13 1) rfl rfl ?_
    refine qs (f := dm_push 16 (.int 24000)) rfl rfl ?_
    refine qs (f := dm_ic_ge 19 73) rfl (dm_ic_ge_f (by rw [show (24000 : Int32) = nI 24000 from rfl]; exact nI_ge hk0 (by decide))) ?_
    refine r1 _ _ ?_
    refine r2 _ _ ?_
    refine r3 _ _ ?_
    refine r4 _ _ ?_
    refine qs (f := dm_iinc 70 1 1) rfl (by show _ = some (Sum.inl ((70, [(1, Value.int (nI (k + 1))), (0, Value.ref 68)], []), _)); rw [← nI_1]; rfl) ?_
    exact qs (f := dm_goto 12) rfl rfl h1
theorem im_l2 (K : dm_K) {fs : List Value} {L S : Nat} (h9 : ∀ k, k < 68 → k ≠ 40 → k ≠ 41 → fs[k]? = im_F[k]?) : ∀ (j k : Nat) (M : dm_Mem), k + j = 1001 → im_I fs im_A L S M → ∃ M', im_I fs im_A L S M' ∧ ∀ (N : Nat) (o : Option (Option Value × dm_Mem)), dm_run K (dm_cd 206) N (112, [(1, .int (nI 1001)), (0, .ref 68)], []) M' = o → dm_run K (dm_cd 206) (N + (21 * j + 3)) (75, [(1, .int (nI k)), (0, .ref 68)], []) M = o := by
  intro j
  induction j with
  | zero =>
    intro k M hk hM
    refine ⟨M, hM, fun N o h => ?_⟩
    have hk' : k = 1001 := by omega
    subst hk'
    refine qs (f := dm_ild 76 1) rfl rfl ?_
    refine qs (f := dm_push 79 (.int 1000)) rfl rfl ?_
    exact qs (f := dm_ic_gt 82 112) rfl (dm_ic_gt_t (by decide)) h
  | succ j ih =>
    intro k M hk hM
    have hk0 : k < 1001 := by omega
    obtain ⟨M1, hM1, r1⟩ := im_cpI (K := K) (t := dm_cd 206) (pc := 82) (kd := 46) (ks := 4) (ad := 103) (sa := 73) (n := 1001) (k := k) rfl rfl rfl rfl rfl rfl rfl rfl (by rw [h9 46 (by decide) (by decide) (by decide)]; rfl) (by rw [h9 4 (by decide) (by decide) (by decide)]; rfl) (by decide) (by decide) (by decide) hk0 (by decide) hM
    obtain ⟨M2, hM2, r2⟩ := im_cpI (K := K) (t := dm_cd 206) (pc := 94) (kd := 47) (ks := 5) (ad := 104) (sa := 74) (n := 1001) (k := k) rfl rfl rfl rfl rfl rfl rfl rfl (by rw [h9 47 (by decide) (by decide) (by decide)]; rfl) (by rw [h9 5 (by decide) (by decide) (by decide)]; rfl) (by decide) (by decide) (by decide) hk0 (by decide) hM1
    obtain ⟨M', hM', r⟩ := ih (k + 1) M2 (by omega) hM2
    refine ⟨M', hM', fun N o h => ?_⟩
    have h1 := r N o h
    rw [show N + (21 * (j + 1) + 3) = N + (21 * j + 3) + 2 + 8 + 8 + 3 by omega]
    refine qs (f := dm_ild 76 1) rfl rfl ?_
    refine qs (f := dm_push 79 (.int 1000)) rfl rfl ?_
    refine qs (f := dm_ic_gt 82 112) rfl (dm_ic_gt_f (by rw [show (1000 : Int32) = nI 1000 from rfl]; exact nI_nlt (by omega) (by decide))) ?_
    refine r1 _ _ ?_
    refine r2 _ _ ?_
    refine qs (f := dm_iinc 109 1 1) rfl (by show _ = some (Sum.inl ((109, [(1, Value.int (nI (k + 1))), (0, Value.ref 68)], []), _)); rw [← nI_1]; rfl) ?_
    exact qs (f := dm_goto 75) rfl rfl h1
theorem im_l3 (K : dm_K) {fs : List Value} {L S : Nat} (h9 : ∀ k, k < 68 → k ≠ 40 → k ≠ 41 → fs[k]? = im_F[k]?) : ∀ (j k : Nat) (M : dm_Mem), k + j = 1000 → im_I fs im_A L S M → ∃ M', im_I fs im_A L S M' ∧ ∀ (N : Nat) (o : Option (Option Value × dm_Mem)), dm_run K (dm_cd 206) N (223, [(1, .int (nI 1000)), (0, .ref 68)], []) M' = o → dm_run K (dm_cd 206) (N + (69 * j + 3)) (114, [(1, .int (nI k)), (0, .ref 68)], []) M = o := by
  intro j
  induction j with
  | zero =>
    intro k M hk hM
    refine ⟨M, hM, fun N o h => ?_⟩
    have hk' : k = 1000 := by omega
    subst hk'
    refine qs (f := dm_ild 115 1) rfl rfl ?_
    refine qs (f := dm_push 118 (.int 1000)) rfl rfl ?_
    exact qs (f := dm_ic_ge 121 223) rfl (dm_ic_ge_t (by decide)) h
  | succ j ih =>
    intro k M hk hM
    have hk0 : k < 1000 := by omega
    obtain ⟨M1, hM1, r1⟩ := im_cpZ (K := K) (t := dm_cd 206) (pc := 121) (kd := 48) (ks := 6) (ad := 105) (sa := 75) (n := 1000) (k := k) rfl rfl rfl rfl rfl rfl rfl rfl (by rw [h9 48 (by decide) (by decide) (by decide)]; rfl) (by rw [h9 6 (by decide) (by decide) (by decide)]; rfl) (by decide) (by decide) (by decide) hk0 (by decide) hM
    obtain ⟨M2, hM2, r2⟩ := im_cpZ (K := K) (t := dm_cd 206) (pc := 133) (kd := 49) (ks := 7) (ad := 106) (sa := 76) (n := 1000) (k := k) rfl rfl rfl rfl rfl rfl rfl rfl (by rw [h9 49 (by decide) (by decide) (by decide)]; rfl) (by rw [h9 7 (by decide) (by decide) (by decide)]; rfl) (by decide) (by decide) (by decide) hk0 (by decide) hM1
    obtain ⟨M3, hM3, r3⟩ := im_cpZ (K := K) (t := dm_cd 206) (pc := 145) (kd := 50) (ks := 8) (ad := 107) (sa := 77) (n := 1000) (k := k) rfl rfl rfl rfl rfl rfl rfl rfl (by rw [h9 50 (by decide) (by decide) (by decide)]; rfl) (by rw [h9 8 (by decide) (by decide) (by decide)]; rfl) (by decide) (by decide) (by decide) hk0 (by decide) hM2
    obtain ⟨M4, hM4, r4⟩ := im_cpB (K := K) (t := dm_cd 206) (pc := 157) (kd := 51) (ks := 9) (ad := 108) (sa := 78) (n := 1000) (k := k) rfl rfl rfl rfl rfl rfl rfl rfl (by rw [h9 51 (by decide) (by decide) (by decide)]; rfl) (by rw [h9 9 (by decide) (by decide) (by decide)]; rfl) (by decide) (by decide) (by decide) hk0 (by decide) hM3
    obtain ⟨M5, hM5, r5⟩ := im_cpS (K := K) (t := dm_cd 206) (pc := 169) (kd := 52) (ks := 10) (ad := 109) (sa := 79) (n := 1000) (k := k) rfl rfl rfl rfl rfl rfl rfl rfl (by rw [h9 52 (by decide) (by decide) (by decide)]; rfl) (by rw [h9 10 (by decide) (by decide) (by decide)]; rfl) (by decide) (by decide) (by decide) hk0 (by decide) hM4
    obtain ⟨M6, hM6, r6⟩ := im_cpS (K := K) (t := dm_cd 206) (pc := 181) (kd := 53) (ks := 11) (ad := 110) (sa := 80) (n := 1000) (k := k) rfl rfl rfl rfl rfl rfl rfl rfl (by rw [h9 53 (by decide) (by decide) (by decide)]; rfl) (by rw [h9 11 (by decide) (by decide) (by decide)]; rfl) (by decide) (by decide) (by decide) hk0 (by decide) hM5
    obtain ⟨M7, hM7, r7⟩ := im_cpI (K := K) (t := dm_cd 206) (pc := 193) (kd := 54) (ks := 12) (ad := 111) (sa := 81) (n := 1000) (k := k) rfl rfl rfl rfl rfl rfl rfl rfl (by rw [h9 54 (by decide) (by decide) (by decide)]; rfl) (by rw [h9 12 (by decide) (by decide) (by decide)]; rfl) (by decide) (by decide) (by decide) hk0 (by decide) hM6
    obtain ⟨M8, hM8, r8⟩ := im_cpI (K := K) (t := dm_cd 206) (pc := 205) (kd := 55) (ks := 13) (ad := 112) (sa := 82) (n := 1000) (k := k) rfl rfl rfl rfl rfl rfl rfl rfl (by rw [h9 55 (by decide) (by decide) (by decide)]; rfl) (by rw [h9 13 (by decide) (by decide) (by decide)]; rfl) (by decide) (by decide) (by decide) hk0 (by decide) hM7
    obtain ⟨M', hM', r⟩ := ih (k + 1) M8 (by omega) hM8
    refine ⟨M', hM', fun N o h => ?_⟩
    have h1 := r N o h
    rw [show N + (69 * (j + 1) + 3) = N + (69 * j + 3) + 2 + 8 + 8 + 8 + 8 + 8 + 8 + 8 + 8 + 3 by omega]
    refine qs (f := dm_ild 115 1) rfl rfl ?_
    refine qs (f := dm_push 118 (.int 1000)) rfl rfl ?_
    refine qs (f := dm_ic_ge 121 223) rfl (dm_ic_ge_f (by rw [show (1000 : Int32) = nI 1000 from rfl]; exact nI_ge hk0 (by decide))) ?_
    refine r1 _ _ ?_
    refine r2 _ _ ?_
    refine r3 _ _ ?_
    refine r4 _ _ ?_
    refine r5 _ _ ?_
    refine r6 _ _ ?_
    refine r7 _ _ ?_
    refine r8 _ _ ?_
    refine qs (f := dm_iinc 220 1 1) rfl (by show _ = some (Sum.inl ((220, [(1, Value.int (nI (k + 1))), (0, Value.ref 68)], []), _)); rw [← nI_1]; rfl) ?_
    exact qs (f := dm_goto 114) rfl rfl h1
theorem im_l4 (K : dm_K) {fs : List Value} {L S : Nat} (h9 : ∀ k, k < 68 → k ≠ 40 → k ≠ 41 → fs[k]? = im_F[k]?) : ∀ (j k : Nat) (M : dm_Mem), k + j = 16000 → im_I fs im_A L S M → ∃ M', im_I fs im_A L S M' ∧ ∀ (N : Nat) (o : Option (Option Value × dm_Mem)), dm_run K (dm_cd 206) N (250, [(1, .int (nI 16000)), (0, .ref 68)], []) M' = o → dm_run K (dm_cd 206) (N + (13 * j + 3)) (225, [(1, .int (nI k)), (0, .ref 68)], []) M = o := by
  intro j
  induction j with
  | zero =>
    intro k M hk hM
    refine ⟨M, hM, fun N o h => ?_⟩
    have hk' : k = 16000 := by omega
    subst hk'
    refine qs (f := dm_ild 226 1) rfl rfl ?_
    refine qs (f := dm_push 229 (.int 16000)) rfl rfl ?_
    exact qs (f := dm_ic_ge 232 250) rfl (dm_ic_ge_t (by decide)) h
  | succ j ih =>
    intro k M hk hM
    have hk0 : k < 16000 := by omega
    obtain ⟨M1, hM1, r1⟩ := im_cpL (K := K) (t := dm_cd 206) (pc := 232) (kd := 56) (ks := 14) (ad := 113) (sa := 83) (n := 16000) (k := k) rfl rfl rfl rfl rfl rfl rfl rfl (by rw [h9 56 (by decide) (by decide) (by decide)]; rfl) (by rw [h9 14 (by decide) (by decide) (by decide)]; rfl) (by decide) (by decide) (by decide) hk0 (by decide) hM
    obtain ⟨M', hM', r⟩ := ih (k + 1) M1 (by omega) hM1
    refine ⟨M', hM', fun N o h => ?_⟩
    have h1 := r N o h
    rw [show N + (13 * (j + 1) + 3) = N + (13 * j + 3) + 2 + 8 + 3 by omega]
    refine qs (f := dm_ild 226 1) rfl rfl ?_
    refine qs (f := dm_push 229 (.int 16000)) rfl rfl ?_
    refine qs (f := dm_ic_ge 232 250) rfl (dm_ic_ge_f (by rw [show (16000 : Int32) = nI 16000 from rfl]; exact nI_ge hk0 (by decide))) ?_
    refine r1 _ _ ?_
    refine qs (f := dm_iinc 247 1 1) rfl (by show _ = some (Sum.inl ((247, [(1, Value.int (nI (k + 1))), (0, Value.ref 68)], []), _)); rw [← nI_1]; rfl) ?_
    exact qs (f := dm_goto 225) rfl rfl h1
theorem im_all (K : dm_K) {L S : Nat} {M : dm_Mem} (hM : im_I im_F im_A L S M) : ∃ (M' : dm_Mem) (fs : List Value), im_I fs im_A L S M' ∧ dm_run K (dm_cd 206) 2000000 (0, [(0, .ref 68)], []) M = some (some (.int 1), M') := by
  have c1 : im_F.set 40 (.int 0) = im_F := rfl
  obtain ⟨Ma, hMa, ra⟩ := im_put (p := 5) (k := 40) (ty := .int) (w := .int 0) (lv := [(0, .ref 68)]) (r := []) hM im_A68 (by decide) rfl
  obtain ⟨Mb, hMb, rb⟩ := im_put (p := 10) (k := 41) (ty := .boolean) (w := .int 1) (lv := [(0, .ref 68)]) (r := []) hMa im_A68 (by decide) rfl
  have h9 : ∀ k, k < 68 → k ≠ 40 → k ≠ 41 → ((im_F.set 40 (.int 0)).set 41 (.int 1))[k]? = im_F[k]? := by
    intro k _ h1 h2
    rw [List.getElem?_set_ne (Ne.symm h2), List.getElem?_set_ne (Ne.symm h1)]
  obtain ⟨M1, hM1, r1⟩ := im_l1 K h9 24000 0 Mb rfl hMb
  obtain ⟨M2, hM2, r2⟩ := im_l2 K h9 1001 0 M1 rfl hM1
  obtain ⟨M3, hM3, r3⟩ := im_l3 K h9 1000 0 M2 rfl hM2
  obtain ⟨M4, hM4, r4⟩ := im_l4 K h9 16000 0 M3 rfl hM3
  obtain ⟨Mc, hMc, rc⟩ := im_put (p := 258) (k := 57) (ty := .int) (w := .int 1) (lv := [(1, .int (nI 16000)), (0, .ref 68)]) (r := []) hM4 im_A68 (by decide) rfl
  obtain ⟨Md, hMd, rd⟩ := im_put (p := 266) (k := 58) (ty := .int) (w := .int 0) (lv := [(1, .int (nI 16000)), (0, .ref 68)]) (r := []) hMc im_A68 (by decide) rfl
  obtain ⟨Me, hMe, re⟩ := im_put (p := 274) (k := 59) (ty := .int) (w := .int 2) (lv := [(1, .int (nI 16000)), (0, .ref 68)]) (r := []) hMd im_A68 (by decide) rfl
  refine ⟨Me, _, hMe, ?_⟩
  refine qs (f := dm_ald 1 0) rfl (rfl) ?_
  refine qs (f := dm_push 2 (.int 0)) rfl (rfl) ?_
  refine qs (f := dm_putf 5 8 40 .int) rfl (ra) ?_
  refine qs (f := dm_ald 6 0) rfl (rfl) ?_
  refine qs (f := dm_push 7 (.int 1)) rfl (rfl) ?_
  refine qs (f := dm_putf 10 8 41 .boolean) rfl (rb) ?_
  refine qs (f := dm_push 11 (.int 0)) rfl (rfl) ?_
  refine qs (f := dm_ist 12 1) rfl (rfl) ?_
  refine r1 1111989 _ ?_
  refine qs (f := dm_push 74 (.int 0)) rfl rfl ?_
  refine qs (f := dm_ist 75 1) rfl rfl ?_
  refine r2 1090963 _ ?_
  refine qs (f := dm_push 113 (.int 0)) rfl rfl ?_
  refine qs (f := dm_ist 114 1) rfl rfl ?_
  refine r3 1021958 _ ?_
  refine qs (f := dm_push 224 (.int 0)) rfl rfl ?_
  refine qs (f := dm_ist 225 1) rfl rfl ?_
  refine r4 813953 _ ?_
  refine qs (f := dm_ald 251 0) rfl rfl ?_
  refine qs (f := dm_ald 252 0) rfl rfl ?_
  refine qs (f := dm_getf 255 8 15) rfl (dm_getf_ok (im_fld hM4 rfl)) ?_
  refine qs (f := dm_putf 258 8 57 .int) rfl rc ?_
  refine qs (f := dm_ald 259 0) rfl rfl ?_
  refine qs (f := dm_ald 260 0) rfl rfl ?_
  refine qs (f := dm_getf 263 8 16) rfl (dm_getf_ok (im_fld hMc rfl)) ?_
  refine qs (f := dm_putf 266 8 58 .int) rfl rd ?_
  refine qs (f := dm_ald 267 0) rfl rfl ?_
  refine qs (f := dm_ald 268 0) rfl rfl ?_
  refine qs (f := dm_getf 271 8 17) rfl (dm_getf_ok (im_fld hMd rfl)) ?_
  refine qs (f := dm_putf 274 8 59 .int) rfl re ?_
  refine qs (f := dm_push 275 (.int 1)) rfl rfl ?_
  exact qr (f := dm_ret .boolean) rfl rfl
def sh_fs (M : dm_Mem) (a ci : Nat) (fs : List Value) : Bool := match M[a]? with
  | some (.inr o) => decide (o.1 = ci) && decide (o.2 = fs)
  | _ => false
theorem sh_fs_ok {M : dm_Mem} {a ci : Nat} {fs : List Value} (h : sh_fs M a ci fs = true) : M[a]? = some (.inr (ci, fs)) := by
  unfold sh_fs at h
  split at h
  · rename_i q e1
    rw [Bool.and_eq_true] at h
    obtain ⟨h1, h2⟩ := h
    obtain ⟨q1, q2⟩ := q
    rw [e1]
    have e2 : q1 = ci := of_decide_eq_true h1
    have e3 : q2 = fs := of_decide_eq_true h2
    rw [e2, e3]
  · cases h
noncomputable def im_M : dm_Mem := ev_M (ev_E 121 [.ref 0] ev_3)
set_option maxRecDepth 100000 in
theorem im_c : (ev_E 121 [.ref 0] ev_3).map (fun q => q.1) = some (some (.int 1)) ∧ sh_fs im_M 68 8 im_F = true ∧ (∀ x ∈ im_A, sh_t im_M x.1 = some x.2) ∧ dm_bd im_M = true ∧ dm_isO im_M 68 8 = true := by decide +kernel
theorem im_ev : ∃ M', ev_E 206 [.ref 68] im_M = some (some (.int 1), M') ∧ dm_bd M' = true := by
  obtain ⟨M', fs, hI, hr⟩ := im_all (dm_ex dm_tb dm_cd 2000000 39) (M := im_M) ⟨sh_fs_ok im_c.2.1, im_c.2.2.1, rfl, rfl⟩
  refine ⟨M', rx (Nat.le_of_ble_eq_true rfl) hr, ?_⟩
  have hb := im_c.2.2.2.1
  unfold dm_bd at hb ⊢
  rw [hI.2.2.1, hI.2.2.2]
  exact hb
