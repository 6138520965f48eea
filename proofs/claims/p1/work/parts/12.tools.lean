/-! branches that are known, arrays and fields by what the memory shows -/
theorem qs {K : dm_K} {t : dm_Code} {n : Nat} {f : dm_Sem} {pc pc' : Nat} {lv lv' : dm_Lv} {st st' : List Value} {M M' : dm_Mem} {o : Option (Option Value × dm_Mem)} (hf : dm_fetch t pc = some f) (hs : f lv st M = some (.inl ((pc', lv', st'), M'))) (h : dm_run K t n (pc', lv', st') M' = o) : dm_run K t (n + 1) (pc, lv, st) M = o := rs hf hs h
theorem qc {K : dm_K} {t : dm_Code} {n : Nat} {f : dm_Sem} {pc pc' : Nat} {lv lv' : dm_Lv} {st st' : List Value} {M M' : dm_Mem} {mi : Nat} {as : List Value} {r : Option Value} {o : Option (Option Value × dm_Mem)} (hf : dm_fetch t pc = some f) (hs : f lv st M = some (.inr (.inl (mi, as, (pc', lv', st'))))) (hk : K mi as M = some (r, M')) (h : dm_run K t n (pc', lv', r.toList ++ st') M' = o) : dm_run K t (n + 1) (pc, lv, st) M = o := rc hf hs hk h
theorem qr {K : dm_K} {t : dm_Code} {n : Nat} {f : dm_Sem} {pc : Nat} {lv : dm_Lv} {st : List Value} {M : dm_Mem} {v : Option Value} (hf : dm_fetch t pc = some f) (hs : f lv st M = some (.inr (.inr v))) : dm_run K t (n + 1) (pc, lv, st) M = some (v, M) := rr hf hs
theorem dm_if_eq_t {n t : Nat} {lv : dm_Lv} {r : List Value} {M : dm_Mem} {x : Int32} (h : x = 0) : dm_if_eq n t lv (.int x :: r) M = some (.inl ((t, lv, r), M)) := by
  unfold dm_if_eq
  simp only [if_pos h]
theorem dm_if_eq_f {n t : Nat} {lv : dm_Lv} {r : List Value} {M : dm_Mem} {x : Int32} (h : ¬ (x = 0)) : dm_if_eq n t lv (.int x :: r) M = some (.inl ((n, lv, r), M)) := by
  unfold dm_if_eq
  simp only [if_neg h]
theorem dm_if_ne_t {n t : Nat} {lv : dm_Lv} {r : List Value} {M : dm_Mem} {x : Int32} (h : ¬ x = 0) : dm_if_ne n t lv (.int x :: r) M = some (.inl ((t, lv, r), M)) := by
  unfold dm_if_ne
  simp only [if_pos h]
theorem dm_if_ne_f {n t : Nat} {lv : dm_Lv} {r : List Value} {M : dm_Mem} {x : Int32} (h : ¬ (¬ x = 0)) : dm_if_ne n t lv (.int x :: r) M = some (.inl ((n, lv, r), M)) := by
  unfold dm_if_ne
  simp only [if_neg h]
theorem dm_if_lt_t {n t : Nat} {lv : dm_Lv} {r : List Value} {M : dm_Mem} {x : Int32} (h : x < 0) : dm_if_lt n t lv (.int x :: r) M = some (.inl ((t, lv, r), M)) := by
  unfold dm_if_lt
  simp only [if_pos h]
theorem dm_if_lt_f {n t : Nat} {lv : dm_Lv} {r : List Value} {M : dm_Mem} {x : Int32} (h : ¬ (x < 0)) : dm_if_lt n t lv (.int x :: r) M = some (.inl ((n, lv, r), M)) := by
  unfold dm_if_lt
  simp only [if_neg h]
theorem dm_if_ge_t {n t : Nat} {lv : dm_Lv} {r : List Value} {M : dm_Mem} {x : Int32} (h : 0 ≤ x) : dm_if_ge n t lv (.int x :: r) M = some (.inl ((t, lv, r), M)) := by
  unfold dm_if_ge
  simp only [if_pos h]
theorem dm_if_ge_f {n t : Nat} {lv : dm_Lv} {r : List Value} {M : dm_Mem} {x : Int32} (h : ¬ (0 ≤ x)) : dm_if_ge n t lv (.int x :: r) M = some (.inl ((n, lv, r), M)) := by
  unfold dm_if_ge
  simp only [if_neg h]
theorem dm_if_gt_t {n t : Nat} {lv : dm_Lv} {r : List Value} {M : dm_Mem} {x : Int32} (h : 0 < x) : dm_if_gt n t lv (.int x :: r) M = some (.inl ((t, lv, r), M)) := by
  unfold dm_if_gt
  simp only [if_pos h]
theorem dm_if_gt_f {n t : Nat} {lv : dm_Lv} {r : List Value} {M : dm_Mem} {x : Int32} (h : ¬ (0 < x)) : dm_if_gt n t lv (.int x :: r) M = some (.inl ((n, lv, r), M)) := by
  unfold dm_if_gt
  simp only [if_neg h]
theorem dm_if_le_t {n t : Nat} {lv : dm_Lv} {r : List Value} {M : dm_Mem} {x : Int32} (h : x ≤ 0) : dm_if_le n t lv (.int x :: r) M = some (.inl ((t, lv, r), M)) := by
  unfold dm_if_le
  simp only [if_pos h]
theorem dm_if_le_f {n t : Nat} {lv : dm_Lv} {r : List Value} {M : dm_Mem} {x : Int32} (h : ¬ (x ≤ 0)) : dm_if_le n t lv (.int x :: r) M = some (.inl ((n, lv, r), M)) := by
  unfold dm_if_le
  simp only [if_neg h]
theorem dm_ic_eq_t {n t : Nat} {lv : dm_Lv} {r : List Value} {M : dm_Mem} {x y : Int32} (h : x = y) : dm_ic_eq n t lv (.int y :: .int x :: r) M = some (.inl ((t, lv, r), M)) := by
  unfold dm_ic_eq
  simp only [if_pos h]
theorem dm_ic_eq_f {n t : Nat} {lv : dm_Lv} {r : List Value} {M : dm_Mem} {x y : Int32} (h : ¬ (x = y)) : dm_ic_eq n t lv (.int y :: .int x :: r) M = some (.inl ((n, lv, r), M)) := by
  unfold dm_ic_eq
  simp only [if_neg h]
theorem dm_ic_ne_t {n t : Nat} {lv : dm_Lv} {r : List Value} {M : dm_Mem} {x y : Int32} (h : ¬ x = y) : dm_ic_ne n t lv (.int y :: .int x :: r) M = some (.inl ((t, lv, r), M)) := by
  unfold dm_ic_ne
  simp only [if_pos h]
theorem dm_ic_ne_f {n t : Nat} {lv : dm_Lv} {r : List Value} {M : dm_Mem} {x y : Int32} (h : ¬ (¬ x = y)) : dm_ic_ne n t lv (.int y :: .int x :: r) M = some (.inl ((n, lv, r), M)) := by
  unfold dm_ic_ne
  simp only [if_neg h]
theorem dm_ic_lt_t {n t : Nat} {lv : dm_Lv} {r : List Value} {M : dm_Mem} {x y : Int32} (h : x < y) : dm_ic_lt n t lv (.int y :: .int x :: r) M = some (.inl ((t, lv, r), M)) := by
  unfold dm_ic_lt
  simp only [if_pos h]
theorem dm_ic_lt_f {n t : Nat} {lv : dm_Lv} {r : List Value} {M : dm_Mem} {x y : Int32} (h : ¬ (x < y)) : dm_ic_lt n t lv (.int y :: .int x :: r) M = some (.inl ((n, lv, r), M)) := by
  unfold dm_ic_lt
  simp only [if_neg h]
theorem dm_ic_ge_t {n t : Nat} {lv : dm_Lv} {r : List Value} {M : dm_Mem} {x y : Int32} (h : y ≤ x) : dm_ic_ge n t lv (.int y :: .int x :: r) M = some (.inl ((t, lv, r), M)) := by
  unfold dm_ic_ge
  simp only [if_pos h]
theorem dm_ic_ge_f {n t : Nat} {lv : dm_Lv} {r : List Value} {M : dm_Mem} {x y : Int32} (h : ¬ (y ≤ x)) : dm_ic_ge n t lv (.int y :: .int x :: r) M = some (.inl ((n, lv, r), M)) := by
  unfold dm_ic_ge
  simp only [if_neg h]
theorem dm_ic_gt_t {n t : Nat} {lv : dm_Lv} {r : List Value} {M : dm_Mem} {x y : Int32} (h : y < x) : dm_ic_gt n t lv (.int y :: .int x :: r) M = some (.inl ((t, lv, r), M)) := by
  unfold dm_ic_gt
  simp only [if_pos h]
theorem dm_ic_gt_f {n t : Nat} {lv : dm_Lv} {r : List Value} {M : dm_Mem} {x y : Int32} (h : ¬ (y < x)) : dm_ic_gt n t lv (.int y :: .int x :: r) M = some (.inl ((n, lv, r), M)) := by
  unfold dm_ic_gt
  simp only [if_neg h]
theorem dm_ic_le_t {n t : Nat} {lv : dm_Lv} {r : List Value} {M : dm_Mem} {x y : Int32} (h : x ≤ y) : dm_ic_le n t lv (.int y :: .int x :: r) M = some (.inl ((t, lv, r), M)) := by
  unfold dm_ic_le
  simp only [if_pos h]
theorem dm_ic_le_f {n t : Nat} {lv : dm_Lv} {r : List Value} {M : dm_Mem} {x y : Int32} (h : ¬ (x ≤ y)) : dm_ic_le n t lv (.int y :: .int x :: r) M = some (.inl ((n, lv, r), M)) := by
  unfold dm_ic_le
  simp only [if_neg h]
theorem dm_tsw_d {lo hi : Int} {d : Nat} {ts : List Nat} {lv : dm_Lv} {r : List Value} {M : dm_Mem} {x : Int32} (h : x.toInt < lo ∨ hi < x.toInt) : dm_tsw lo hi d ts lv (.int x :: r) M = some (.inl ((d, lv, r), M)) := by
  unfold dm_tsw
  simp only [if_pos h]
def dm_ari (M : dm_Mem) (a : Nat) (i : Int32) : Option Int32 := match M[a]? with
  | some (.inl (.int, k, .inl f)) => if i < 0 ∨ k ≤ i.toNatClampNeg then none else some (f i.toNatClampNeg)
  | _ => none
theorem dm_iald_ok {n a : Nat} {i w : Int32} {lv : dm_Lv} {r : List Value} {M : dm_Mem} (h : dm_ari M a i = some w) : dm_iald n lv (.int i :: .ref a :: r) M = some (.inl ((n, lv, .int w :: r), M)) := by
  unfold dm_ari at h
  unfold dm_iald
  split at h
  · rename_i k f e1
    split at h
    · cases h
    · rename_i hc
      simp only [e1, if_neg hc]
      cases h
      rfl
  · cases h
def dm_arl (M : dm_Mem) (a : Nat) (i : Int32) : Option Int64 := match M[a]? with
  | some (.inl (.long, k, .inr (.inl f))) => if i < 0 ∨ k ≤ i.toNatClampNeg then none else some (f i.toNatClampNeg)
  | _ => none
theorem dm_lald_ok {n a : Nat} {i : Int32} {w : Int64} {lv : dm_Lv} {r : List Value} {M : dm_Mem} (h : dm_arl M a i = some w) : dm_lald n lv (.int i :: .ref a :: r) M = some (.inl ((n, lv, .long w :: r), M)) := by
  unfold dm_arl at h
  unfold dm_lald
  split at h
  · rename_i k f e1
    split at h
    · cases h
    · rename_i hc
      simp only [e1, if_neg hc]
      cases h
      rfl
  · cases h
def dm_put (M : dm_Mem) (a ci k : Nat) (v : Value) : dm_Mem := match M[a]? with
  | some (.inr o) => M.set a (.inr (ci, o.2.set k v))
  | _ => M
theorem dm_putf_new {n ci k a : Nat} {ty : FieldType} {lv : dm_Lv} {r : List Value} {M : dm_Mem} {v w : Value} (h : dm_fld M a ci k = some w) (hf : dm_fit ty v = true) : dm_putf n ci k ty lv (v :: .ref a :: r) M = some (.inl ((n, lv, r), dm_put M a ci k v)) := by
  unfold dm_fld at h
  unfold dm_putf dm_put
  split at h
  · rename_i o e1
    split at h
    · rename_i e2
      obtain ⟨h1, h2⟩ := List.getElem?_eq_some_iff.mp h
      simp only [e1, e2, h1, hf, and_self, if_true]
    · cases h
  · cases h
theorem i_01 {s : Int32} (h1 : ¬ s < 0) (h2 : ¬ s = 0) : (1 : Int32) ≤ s := by
  rw [Int32.le_iff_toInt_le]
  rw [Int32.lt_iff_toInt_lt] at h1
  have h3 : s.toInt ≠ (0 : Int32).toInt := fun q => h2 (Int32.toInt_inj.mp q)
  have h4 : (0 : Int32).toInt = 0 := by decide
  have h5 : (1 : Int32).toInt = 1 := by decide
  rw [h4] at h1 h3
  rw [h5]
  omega
theorem i_00 {s : Int32} (h1 : ¬ s < 0) : (0 : Int32) ≤ s := Int32.not_lt.mp h1
theorem i_0n {s : Int32} (h1 : ¬ s < 0) (h2 : ¬ s = 0) : ¬ s ≤ 0 := by
  intro q
  have h3 := i_01 h1 h2
  rw [Int32.le_iff_toInt_le] at q h3
  have h4 : (0 : Int32).toInt = 0 := by decide
  have h5 : (1 : Int32).toInt = 1 := by decide
  rw [h4] at q
  rw [h5] at h3
  omega
theorem i_60 : ∀ j : Nat, j < 61 → ¬ (nI j - 1 < nI j - 60) := by decide
theorem i_n60 {n : Int32} (h1 : ¬ n < 0) (h2 : ¬ 60 < n) : ¬ (n - 1 < n - 60) := by
  obtain ⟨j, hj, rfl⟩ := nI_of2 (M := 60) (n := 60) (by decide) h1 (Int32.not_lt.mp h2)
  exact i_60 j (by omega)
/-- a place, as both sides test it -/
def okP (w : Int64) (n : Int32) : Prop := ¬ n < 0 ∧ ¬ 60 < n ∧ ¬ lg_cmp w 0 < 0 ∧ ¬ (0 : Int32) ≤ lg_cmp w ((1 : Int64) <<< (n.toInt64 &&& 63))
