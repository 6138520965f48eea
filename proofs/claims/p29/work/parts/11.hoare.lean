/-! runs with unknown values: what a frame, a method comes to, with enough steps a frame; rules -/
theorem dm_run_mono {K K' : dm_K} {t : dm_Code} (hK : ∀ mj as M o, K mj as M = some o → K' mj as M = some o) : ∀ (n n' : Nat) (g : dm_Fr) (M : dm_Mem) (o : Option Value × dm_Mem), n ≤ n' → dm_run K t n g M = some o → dm_run K' t n' g M = some o := by
  intro n
  induction n with
  | zero => intro n' g M o _ h; cases h
  | succ n ih =>
    intro n' g M o hn h
    obtain ⟨m, rfl⟩ : ∃ m, n' = m + 1 := ⟨n' - 1, by omega⟩
    rw [dm_run_succ] at h ⊢
    obtain ⟨f, e1, h | h | h⟩ := dm_step_cases h
    · obtain ⟨g', M', e2, e3⟩ := h
      unfold dm_step
      rw [e1]
      simp only [e2]
      exact ih m g' M' o (by omega) e3
    · obtain ⟨mi, as, g', r, M', e2, e3, e4⟩ := h
      unfold dm_step
      rw [e1]
      simp only [e2, hK _ _ _ _ e3]
      exact ih m _ M' o (by omega) e4
    · obtain ⟨v, e2, e3⟩ := h
      unfold dm_step
      rw [e1]
      simp only [e2]
      rw [e3]
theorem dm_ex_mono {tb : Nat → dm_Me} {cd : Nat → dm_Code} {N N' : Nat} (hN : N ≤ N') : ∀ (d d' mi : Nat) (as : List Value) (M : dm_Mem) (o : Option Value × dm_Mem), d ≤ d' → dm_ex tb cd N d mi as M = some o → dm_ex tb cd N' d' mi as M = some o := by
  intro d
  induction d with
  | zero => intro d' mi as M o _ h; cases h
  | succ d ih =>
    intro d' mi as M o hd h
    obtain ⟨m, rfl⟩ : ∃ m, d' = m + 1 := ⟨d' - 1, by omega⟩
    rw [dm_ex_succ] at h ⊢
    split at h
    · rename_i hl
      rw [if_pos hl]
      exact dm_run_mono (fun mj as M o h => ih m mj as M o (by omega) h) N N' _ M o hN h
    · cases h
/-- the method mi comes, d calls deep, to an answer and a memory with Q -/
def hT (d mi : Nat) (as : List Value) (M : dm_Mem) (Q : Option Value → dm_Mem → Prop) : Prop := ∃ (N : Nat) (r : Option Value) (M' : dm_Mem), dm_ex dm_tb dm_cd N d mi as M = some (r, M') ∧ Q r M'
/-- the frame at pc with lv and st comes to an answer and a memory with Q -/
def hG (d : Nat) (t : dm_Code) (pc : Nat) (lv : dm_Lv) (st : List Value) (M : dm_Mem) (Q : Option Value → dm_Mem → Prop) : Prop := ∃ (N n : Nat) (r : Option Value) (M' : dm_Mem), dm_run (dm_ex dm_tb dm_cd N d) t n (pc, lv, st) M = some (r, M') ∧ Q r M'
theorem hT_mono {d d' mi : Nat} {as : List Value} {M : dm_Mem} {Q Q' : Option Value → dm_Mem → Prop} (hd : d ≤ d') (h : hT d mi as M Q) (hQ : ∀ r M', Q r M' → Q' r M') : hT d' mi as M Q' := by
  obtain ⟨N, r, M', h1, h2⟩ := h
  exact ⟨N, r, M', dm_ex_mono (Nat.le_refl _) _ _ _ _ _ _ hd h1, hQ _ _ h2⟩
theorem hG_mono {d d' : Nat} {t : dm_Code} {pc : Nat} {lv : dm_Lv} {st : List Value} {M : dm_Mem} {Q Q' : Option Value → dm_Mem → Prop} (hd : d ≤ d') (h : hG d t pc lv st M Q) (hQ : ∀ r M', Q r M' → Q' r M') : hG d' t pc lv st M Q' := by
  obtain ⟨N, n, r, M', h1, h2⟩ := h
  exact ⟨N, n, r, M', dm_run_mono (fun mj as M o h => dm_ex_mono (Nat.le_refl _) _ _ _ _ _ _ hd h) n n _ _ _ (Nat.le_refl _) h1, hQ _ _ h2⟩
theorem hs {d : Nat} {t : dm_Code} {f : dm_Sem} {pc pc' : Nat} {lv lv' : dm_Lv} {st st' : List Value} {M M' : dm_Mem} {Q : Option Value → dm_Mem → Prop} (hf : dm_fetch t pc = some f) (hs : f lv st M = some (.inl ((pc', lv', st'), M'))) (h : hG d t pc' lv' st' M' Q) : hG d t pc lv st M Q := by
  obtain ⟨N, n, r, M2, h1, h2⟩ := h
  exact ⟨N, n + 1, r, M2, rs hf hs h1, h2⟩
theorem hc {d : Nat} {t : dm_Code} {f : dm_Sem} {pc pc' : Nat} {lv lv' : dm_Lv} {st st' : List Value} {M : dm_Mem} {mj : Nat} {as : List Value} {Q : Option Value → dm_Mem → Prop} (hf : dm_fetch t pc = some f) (hs : f lv st M = some (.inr (.inl (mj, as, (pc', lv', st'))))) (h : hT d mj as M (fun r M1 => hG d t pc' lv' (r.toList ++ st') M1 Q)) : hG d t pc lv st M Q := by
  obtain ⟨N1, r1, M1, e1, N2, n, r2, M2, e2, hq⟩ := h
  exact ⟨max N1 N2, n + 1, r2, M2, rc hf hs (dm_ex_mono (Nat.le_max_left _ _) _ _ _ _ _ _ (Nat.le_refl _) e1) (dm_run_mono (fun mj as M o h => dm_ex_mono (Nat.le_max_right _ _) _ _ _ _ _ _ (Nat.le_refl _) h) n n _ _ _ (Nat.le_refl _) e2), hq⟩
theorem hr {d : Nat} {t : dm_Code} {f : dm_Sem} {pc : Nat} {lv : dm_Lv} {st : List Value} {M : dm_Mem} {v : Option Value} {Q : Option Value → dm_Mem → Prop} (hf : dm_fetch t pc = some f) (hs : f lv st M = some (.inr (.inr v))) (h : Q v M) : hG d t pc lv st M Q := ⟨0, 1, v, M, rr hf hs, h⟩
theorem hx {d mi : Nat} {t : dm_Code} {as : List Value} {lv : dm_Lv} {M : dm_Mem} {Q : Option Value → dm_Mem → Prop} (hc : dm_cd mi = t) (hl : (lg_sl as).length ≤ (dm_tb mi).2.2.1) (hv : lv_args 0 as = lv) (h : hG d t 0 lv [] M Q) : hT (d + 1) mi as M Q := by
  obtain ⟨N, n, r, M', h1, h2⟩ := h
  refine ⟨max N n, r, M', ?_, h2⟩
  rw [dm_ex_succ, if_pos hl, hc, hv]
  exact dm_run_mono (fun mj as M o h => dm_ex_mono (Nat.le_max_left _ _) _ _ _ _ _ _ (Nat.le_refl _) h) n _ _ _ _ (Nat.le_max_right _ _) h1
theorem h_if_eq {d : Nat} {t : dm_Code} {pc n tt : Nat} {lv : dm_Lv} {r : List Value} {M : dm_Mem} {Q : Option Value → dm_Mem → Prop} {x : Int32} (hf : dm_fetch t pc = some (dm_if_eq n tt)) (h1 : x = 0 → hG d t tt lv r M Q) (h2 : ¬ (x = 0) → hG d t n lv r M Q) : hG d t pc lv (.int x :: r) M Q := by
  by_cases h : x = 0
  · refine hs (pc' := tt) (lv' := lv) (st' := r) (M' := M) hf ?_ (h1 h)
    unfold dm_if_eq
    simp only [if_pos h]
  · refine hs (pc' := n) (lv' := lv) (st' := r) (M' := M) hf ?_ (h2 h)
    unfold dm_if_eq
    simp only [if_neg h]
theorem h_if_ne {d : Nat} {t : dm_Code} {pc n tt : Nat} {lv : dm_Lv} {r : List Value} {M : dm_Mem} {Q : Option Value → dm_Mem → Prop} {x : Int32} (hf : dm_fetch t pc = some (dm_if_ne n tt)) (h1 : ¬ x = 0 → hG d t tt lv r M Q) (h2 : ¬ (¬ x = 0) → hG d t n lv r M Q) : hG d t pc lv (.int x :: r) M Q := by
  by_cases h : ¬ x = 0
  · refine hs (pc' := tt) (lv' := lv) (st' := r) (M' := M) hf ?_ (h1 h)
    unfold dm_if_ne
    simp only [if_pos h]
  · refine hs (pc' := n) (lv' := lv) (st' := r) (M' := M) hf ?_ (h2 h)
    unfold dm_if_ne
    simp only [if_neg h]
theorem h_if_lt {d : Nat} {t : dm_Code} {pc n tt : Nat} {lv : dm_Lv} {r : List Value} {M : dm_Mem} {Q : Option Value → dm_Mem → Prop} {x : Int32} (hf : dm_fetch t pc = some (dm_if_lt n tt)) (h1 : x < 0 → hG d t tt lv r M Q) (h2 : ¬ (x < 0) → hG d t n lv r M Q) : hG d t pc lv (.int x :: r) M Q := by
  by_cases h : x < 0
  · refine hs (pc' := tt) (lv' := lv) (st' := r) (M' := M) hf ?_ (h1 h)
    unfold dm_if_lt
    simp only [if_pos h]
  · refine hs (pc' := n) (lv' := lv) (st' := r) (M' := M) hf ?_ (h2 h)
    unfold dm_if_lt
    simp only [if_neg h]
theorem h_if_ge {d : Nat} {t : dm_Code} {pc n tt : Nat} {lv : dm_Lv} {r : List Value} {M : dm_Mem} {Q : Option Value → dm_Mem → Prop} {x : Int32} (hf : dm_fetch t pc = some (dm_if_ge n tt)) (h1 : 0 ≤ x → hG d t tt lv r M Q) (h2 : ¬ (0 ≤ x) → hG d t n lv r M Q) : hG d t pc lv (.int x :: r) M Q := by
  by_cases h : 0 ≤ x
  · refine hs (pc' := tt) (lv' := lv) (st' := r) (M' := M) hf ?_ (h1 h)
    unfold dm_if_ge
    simp only [if_pos h]
  · refine hs (pc' := n) (lv' := lv) (st' := r) (M' := M) hf ?_ (h2 h)
    unfold dm_if_ge
    simp only [if_neg h]
theorem h_if_gt {d : Nat} {t : dm_Code} {pc n tt : Nat} {lv : dm_Lv} {r : List Value} {M : dm_Mem} {Q : Option Value → dm_Mem → Prop} {x : Int32} (hf : dm_fetch t pc = some (dm_if_gt n tt)) (h1 : 0 < x → hG d t tt lv r M Q) (h2 : ¬ (0 < x) → hG d t n lv r M Q) : hG d t pc lv (.int x :: r) M Q := by
  by_cases h : 0 < x
  · refine hs (pc' := tt) (lv' := lv) (st' := r) (M' := M) hf ?_ (h1 h)
    unfold dm_if_gt
    simp only [if_pos h]
  · refine hs (pc' := n) (lv' := lv) (st' := r) (M' := M) hf ?_ (h2 h)
    unfold dm_if_gt
    simp only [if_neg h]
theorem h_if_le {d : Nat} {t : dm_Code} {pc n tt : Nat} {lv : dm_Lv} {r : List Value} {M : dm_Mem} {Q : Option Value → dm_Mem → Prop} {x : Int32} (hf : dm_fetch t pc = some (dm_if_le n tt)) (h1 : x ≤ 0 → hG d t tt lv r M Q) (h2 : ¬ (x ≤ 0) → hG d t n lv r M Q) : hG d t pc lv (.int x :: r) M Q := by
  by_cases h : x ≤ 0
  · refine hs (pc' := tt) (lv' := lv) (st' := r) (M' := M) hf ?_ (h1 h)
    unfold dm_if_le
    simp only [if_pos h]
  · refine hs (pc' := n) (lv' := lv) (st' := r) (M' := M) hf ?_ (h2 h)
    unfold dm_if_le
    simp only [if_neg h]
theorem h_ic_eq {d : Nat} {t : dm_Code} {pc n tt : Nat} {lv : dm_Lv} {r : List Value} {M : dm_Mem} {Q : Option Value → dm_Mem → Prop} {x y : Int32} (hf : dm_fetch t pc = some (dm_ic_eq n tt)) (h1 : x = y → hG d t tt lv r M Q) (h2 : ¬ (x = y) → hG d t n lv r M Q) : hG d t pc lv (.int y :: .int x :: r) M Q := by
  by_cases h : x = y
  · refine hs (pc' := tt) (lv' := lv) (st' := r) (M' := M) hf ?_ (h1 h)
    unfold dm_ic_eq
    simp only [if_pos h]
  · refine hs (pc' := n) (lv' := lv) (st' := r) (M' := M) hf ?_ (h2 h)
    unfold dm_ic_eq
    simp only [if_neg h]
theorem h_ic_ne {d : Nat} {t : dm_Code} {pc n tt : Nat} {lv : dm_Lv} {r : List Value} {M : dm_Mem} {Q : Option Value → dm_Mem → Prop} {x y : Int32} (hf : dm_fetch t pc = some (dm_ic_ne n tt)) (h1 : ¬ x = y → hG d t tt lv r M Q) (h2 : ¬ (¬ x = y) → hG d t n lv r M Q) : hG d t pc lv (.int y :: .int x :: r) M Q := by
  by_cases h : ¬ x = y
  · refine hs (pc' := tt) (lv' := lv) (st' := r) (M' := M) hf ?_ (h1 h)
    unfold dm_ic_ne
    simp only [if_pos h]
  · refine hs (pc' := n) (lv' := lv) (st' := r) (M' := M) hf ?_ (h2 h)
    unfold dm_ic_ne
    simp only [if_neg h]
theorem h_ic_lt {d : Nat} {t : dm_Code} {pc n tt : Nat} {lv : dm_Lv} {r : List Value} {M : dm_Mem} {Q : Option Value → dm_Mem → Prop} {x y : Int32} (hf : dm_fetch t pc = some (dm_ic_lt n tt)) (h1 : x < y → hG d t tt lv r M Q) (h2 : ¬ (x < y) → hG d t n lv r M Q) : hG d t pc lv (.int y :: .int x :: r) M Q := by
  by_cases h : x < y
  · refine hs (pc' := tt) (lv' := lv) (st' := r) (M' := M) hf ?_ (h1 h)
    unfold dm_ic_lt
    simp only [if_pos h]
  · refine hs (pc' := n) (lv' := lv) (st' := r) (M' := M) hf ?_ (h2 h)
    unfold dm_ic_lt
    simp only [if_neg h]
theorem h_ic_ge {d : Nat} {t : dm_Code} {pc n tt : Nat} {lv : dm_Lv} {r : List Value} {M : dm_Mem} {Q : Option Value → dm_Mem → Prop} {x y : Int32} (hf : dm_fetch t pc = some (dm_ic_ge n tt)) (h1 : y ≤ x → hG d t tt lv r M Q) (h2 : ¬ (y ≤ x) → hG d t n lv r M Q) : hG d t pc lv (.int y :: .int x :: r) M Q := by
  by_cases h : y ≤ x
  · refine hs (pc' := tt) (lv' := lv) (st' := r) (M' := M) hf ?_ (h1 h)
    unfold dm_ic_ge
    simp only [if_pos h]
  · refine hs (pc' := n) (lv' := lv) (st' := r) (M' := M) hf ?_ (h2 h)
    unfold dm_ic_ge
    simp only [if_neg h]
theorem h_ic_gt {d : Nat} {t : dm_Code} {pc n tt : Nat} {lv : dm_Lv} {r : List Value} {M : dm_Mem} {Q : Option Value → dm_Mem → Prop} {x y : Int32} (hf : dm_fetch t pc = some (dm_ic_gt n tt)) (h1 : y < x → hG d t tt lv r M Q) (h2 : ¬ (y < x) → hG d t n lv r M Q) : hG d t pc lv (.int y :: .int x :: r) M Q := by
  by_cases h : y < x
  · refine hs (pc' := tt) (lv' := lv) (st' := r) (M' := M) hf ?_ (h1 h)
    unfold dm_ic_gt
    simp only [if_pos h]
  · refine hs (pc' := n) (lv' := lv) (st' := r) (M' := M) hf ?_ (h2 h)
    unfold dm_ic_gt
    simp only [if_neg h]
theorem h_ic_le {d : Nat} {t : dm_Code} {pc n tt : Nat} {lv : dm_Lv} {r : List Value} {M : dm_Mem} {Q : Option Value → dm_Mem → Prop} {x y : Int32} (hf : dm_fetch t pc = some (dm_ic_le n tt)) (h1 : x ≤ y → hG d t tt lv r M Q) (h2 : ¬ (x ≤ y) → hG d t n lv r M Q) : hG d t pc lv (.int y :: .int x :: r) M Q := by
  by_cases h : x ≤ y
  · refine hs (pc' := tt) (lv' := lv) (st' := r) (M' := M) hf ?_ (h1 h)
    unfold dm_ic_le
    simp only [if_pos h]
  · refine hs (pc' := n) (lv' := lv) (st' := r) (M' := M) hf ?_ (h2 h)
    unfold dm_ic_le
    simp only [if_neg h]
def hal (P : Nat → Prop) : List Nat → Prop
  | [] => True
  | q :: r => P q ∧ hal P r
theorem hal_at {P : Nat → Prop} : ∀ {l : List Nat}, hal P l → ∀ (k q : Nat), l[k]? = some q → P q := by
  intro l
  induction l with
  | nil => intro _ k q h; simp at h
  | cons x l ih =>
    intro h k q hk
    cases k with
    | zero => simp at hk; subst hk; exact h.1
    | succ k => exact ih h.2 k q (by simpa using hk)
theorem hal_c {P : Nat → Prop} {q : Nat} {r : List Nat} (h : P q) (h2 : hal P r) : hal P (q :: r) := ⟨h, h2⟩
theorem hal_n {P : Nat → Prop} : hal P [] := trivial
theorem h_tsw {d : Nat} {t : dm_Code} {pc df : Nat} {lo hi : Int} {ts : List Nat} {lv : dm_Lv} {r : List Value} {M : dm_Mem} {Q : Option Value → dm_Mem → Prop} {x : Int32} (hf : dm_fetch t pc = some (dm_tsw lo hi df ts)) (hl : (hi - lo).toNat < ts.length) (h0 : hG d t df lv r M Q) (h1 : hal (fun q => hG d t q lv r M Q) ts) : hG d t pc lv (.int x :: r) M Q := by
  by_cases h : x.toInt < lo ∨ hi < x.toInt
  · refine hs (pc' := df) (lv' := lv) (st' := r) (M' := M) hf ?_ h0
    unfold dm_tsw
    simp only [if_pos h]
  · have h2 : (x.toInt - lo).toNat < ts.length := by omega
    have h3 := List.getElem?_eq_getElem h2
    refine hs (pc' := ts[(x.toInt - lo).toNat]) (lv' := lv) (st' := r) (M' := M) hf ?_ (hal_at h1 _ _ h3)
    unfold dm_tsw
    simp only [if_neg h, h3]
/-- measures of loops and of depths -/
def mU (i : Int32) : Nat := (2147483647 - i.toInt).toNat
def mD (i : Int32) : Nat := (i.toInt + 1).toNat
def mR (i : Int32) : Nat := (60 - i.toInt).toNat
theorem i_rng (i : Int32) : -2147483648 ≤ i.toInt ∧ i.toInt ≤ 2147483647 := ⟨Int32.le_toInt i, Int32.toInt_le i⟩
theorem i_add1 {i : Int32} (h : i.toInt < 2147483647) : (i + 1).toInt = i.toInt + 1 := by
  have h1 := i_rng i
  rw [Int32.toInt_add, show (1 : Int32).toInt = 1 from by decide]
  exact Int.bmod_eq_of_le (by omega) (by omega)
theorem i_sub1 {i : Int32} (h : -2147483648 < i.toInt) : (i + (-1)).toInt = i.toInt - 1 := by
  have h1 := i_rng i
  rw [Int32.toInt_add, show (-1 : Int32).toInt = -1 from by decide]
  exact Int.bmod_eq_of_le (by omega) (by omega)
theorem mU_lt {i b : Int32} (h : ¬ b ≤ i) : mU (i + 1) < mU i := by
  have h1 := i_rng i
  have h2 := i_rng b
  rw [Int32.le_iff_toInt_le] at h
  unfold mU
  rw [i_add1 (by omega)]
  omega
theorem mD_lt {i : Int32} (h : ¬ i < 0) : mD (i + (-1)) < mD i := by
  rw [Int32.lt_iff_toInt_lt, show (0 : Int32).toInt = 0 from by decide] at h
  unfold mD
  rw [i_sub1 (by omega)]
  omega
theorem mR_lt {i : Int32} (h : ¬ (60 : Int32) ≤ i) : mR (i + 1) < mR i := by
  rw [Int32.le_iff_toInt_le, show (60 : Int32).toInt = 60 from by decide] at h
  unfold mR
  rw [i_add1 (by omega)]
  omega
theorem mR_0 : mR 0 = 60 := by decide
def isB (x : Int32) : Prop := x = 0 ∨ x = 1
theorem isB_0 : isB 0 := Or.inl rfl
theorem isB_1 : isB 1 := Or.inr rfl
theorem isB_fit {x : Int32} (h : isB x) : dm_rfit .boolean x = true := by
  rcases h with rfl | rfl <;> rfl
theorem h_retB {d : Nat} {t : dm_Code} {pc : Nat} {lv : dm_Lv} {M : dm_Mem} {Q : Option Value → dm_Mem → Prop} {x : Int32} (hf : dm_fetch t pc = some (dm_ret .boolean)) (hb : isB x) (h : Q (some (.int x)) M) : hG d t pc lv [.int x] M Q := by
  refine hr hf ?_ h
  unfold dm_ret
  simp only [isB_fit hb, if_true]
theorem i_ofNat {L : Nat} (h : L ≤ 1000000) : (Int32.ofNat L).toInt = L := by
  rw [Int32.toInt_ofNat']
  have h1 : Int32.size = 4294967296 := rfl
  exact Int.bmod_eq_of_le (by omega) (by omega)
theorem i_clamp {i : Int32} (h : 0 ≤ i.toInt) : (i.toNatClampNeg : Int) = i.toInt := by
  unfold Int32.toNatClampNeg
  omega
theorem i_nn {i : Int32} (h : ¬ i < 0) : 0 ≤ i.toInt := by
  rw [Int32.lt_iff_toInt_lt, show (0 : Int32).toInt = 0 from by decide] at h
  omega
theorem i_in {i : Int32} {L : Nat} (hL : L ≤ 1000000) (h0 : ¬ i < 0) (h1 : ¬ Int32.ofNat L ≤ i) : ¬ (i < 0 ∨ L ≤ i.toNatClampNeg) := by
  have h2 := i_nn h0
  rw [Int32.le_iff_toInt_le, i_ofNat hL] at h1
  have h3 := i_clamp h2
  rintro (h | h)
  · exact h0 h
  · omega
