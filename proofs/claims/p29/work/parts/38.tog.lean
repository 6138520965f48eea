/-! two rows brought together -/
def seg (a : Nat → Int64) (b : Int) : Nat → Int64 := fun i => a (b + i).toNat
theorem rB_seg {a : Nat → Int64} {b i : Int} (hi : 0 ≤ i) : rB (seg a b) i = rB a (b + i) := by
  unfold rB seg
  rw [show ((i.toNat : Nat) : Int) = i by omega]
def layL (l : List (Int64 × Int32)) (p : Int64) (v : Int32) : List (Int64 × Int32) := match l.getLast? with
  | some z => if z.2.toInt = v.toInt then l else l ++ [(p, v)]
  | none => l ++ [(p, v)]
def eF (st : Nat → Int64) (i e : Int) : Int64 := if i + 1 < e then st (i + 1).toNat else 1152921504606846976
def mxF (a b : Int32) : Int32 := if b.toInt < a.toInt then a else b
def mnF (a b : Int64) : Int64 := if a.toInt < b.toInt then a else b
def tgL (st : Nat → Int64) (ht : Nat → Int32) (ea eb : Int) : Nat → Int → Int → Int64 → List (Int64 × Int32) → List (Int64 × Int32)
  | 0, _, _, _, l => l
  | d + 1, i, j, p, l => if p.toInt < 1152921504606846976 then tgL st ht ea eb d (if (eF st i ea).toInt = (mnF (eF st i ea) (eF st j eb)).toInt then i + 1 else i) (if (eF st j eb).toInt = (mnF (eF st i ea) (eF st j eb)).toInt then j + 1 else j) (mnF (eF st i ea) (eF st j eb)) (layL l p (mxF (ht i.toNat) (ht j.toNat))) else l
theorem tg_go {st : Nat → Int64} {ht : Nat → Int32} {ea eb i j : Int} {d : Nat} {p : Int64} {l : List (Int64 × Int32)} (hp : p.toInt < 1152921504606846976) : tgL st ht ea eb (d + 1) i j p l = tgL st ht ea eb d (if (eF st i ea).toInt = (mnF (eF st i ea) (eF st j eb)).toInt then i + 1 else i) (if (eF st j eb).toInt = (mnF (eF st i ea) (eF st j eb)).toInt then j + 1 else j) (mnF (eF st i ea) (eF st j eb)) (layL l p (mxF (ht i.toNat) (ht j.toNat))) := by
  rw [tgL, if_pos hp]
theorem tg_end {st : Nat → Int64} {ht : Nat → Int32} {ea eb i j : Int} {d : Nat} {p : Int64} {l : List (Int64 × Int32)} (hp : ¬ p.toInt < 1152921504606846976) : tgL st ht ea eb d i j p l = l := by
  cases d with
  | zero => rfl
  | succ d => rw [tgL, if_neg hp]
/-- the row that is laid, as a list -/
def rowL (x : Nat → Int64) (g : Nat → Int32) (n : Int) (l : List (Int64 × Int32)) : Prop := n = l.length ∧ ∀ k : Nat, ∀ z, l[k]? = some z → x k = z.1 ∧ g k = z.2
theorem rowL_nil {x : Nat → Int64} {g : Nat → Int32} : rowL x g 0 [] := ⟨rfl, fun k z h => by simp at h⟩
theorem rowL_skip {x : Nat → Int64} {g : Nat → Int32} {n : Int} {l : List (Int64 × Int32)} {p : Int64} {v : Int32} (h : rowL x g n l) (h0 : 0 < n) (hv : rA g (n - 1) = v.toInt) : layL l p v = l := by
  unfold layL
  have hl : l ≠ [] := fun e => by rw [e] at h; have := h.1; simp at this; omega
  rw [List.getLast?_eq_some_getLast hl]
  have h1 : l[l.length - 1]? = some (l.getLast hl) := by
    rw [List.getLast_eq_getElem]
    exact List.getElem?_eq_getElem _
  have h2 := (h.2 (l.length - 1) _ h1).2
  have h3 : rA g (n - 1) = (l.getLast hl).2.toInt := by
    unfold rA
    rw [← h2]
    congr 2
    have := h.1
    omega
  simp only
  rw [if_pos (by omega)]
theorem rowL_lay {x : Nat → Int64} {g : Nat → Int32} {n : Int} {l : List (Int64 × Int32)} {p : Int64} {v : Int32} {m : Nat} (h : rowL x g n l) (hm : n = m) (hv : 0 < n → ¬ rA g (n - 1) = v.toInt) : rowL (vp_updL x m p) (upd g m v) (n + 1) (layL l p v) := by
  have hll : layL l p v = l ++ [(p, v)] := by
    unfold layL
    by_cases hl : l = []
    · subst hl; rfl
    · rw [List.getLast?_eq_some_getLast hl]
      have h1 : l[l.length - 1]? = some (l.getLast hl) := by
        rw [List.getLast_eq_getElem]
        exact List.getElem?_eq_getElem _
      have h2 := (h.2 (l.length - 1) _ h1).2
      have hlen : 0 < l.length := List.length_pos_iff.mpr hl
      have h3 : rA g (n - 1) = (l.getLast hl).2.toInt := by
        unfold rA
        rw [← h2]
        congr 2
        have := h.1
        omega
      simp only
      rw [if_neg]
      intro q
      exact hv (by have := h.1; omega) (by omega)
  rw [hll]
  refine ⟨by simp; have := h.1; omega, fun k z hk => ?_⟩
  have hml : m = l.length := by have := h.1; omega
  by_cases e : k = m
  · subst e
    rw [hml, List.getElem?_append_right (Nat.le_refl _)] at hk
    simp at hk
    subst hk
    unfold vp_updL upd
    simp
  · have hk2 : l[k]? = some z := by
      by_cases q : k < l.length
      · rw [List.getElem?_append_left q] at hk
        exact hk
      · rw [List.getElem?_append_right (by omega)] at hk
        have : k - l.length ≠ 0 := by omega
        obtain ⟨c, hc⟩ : ∃ c, k - l.length = c + 1 := ⟨k - l.length - 1, by omega⟩
        rw [hc] at hk
        simp at hk
    unfold vp_updL upd
    rw [if_neg e, if_neg e]
    exact h.2 k z hk2
/-- rising places, each 0 or a step of one of the two -/
def tI (st : Nat → Int64) (sa ea sb eb : Int) (x : Nat → Int64) (n P : Int) : Prop :=
  (∀ i : Int, 0 ≤ i → i + 1 < n → rB x i < rB x (i + 1)) ∧ (0 < n → rB x 0 = 0) ∧ (∀ i : Int, 0 ≤ i → i < n → rB x i < P ∧ (rB x i = 0 ∨ (∃ k, sa ≤ k ∧ k < ea ∧ rB x i = rB st k) ∨ ∃ k, sb ≤ k ∧ k < eb ∧ rB x i = rB st k))
theorem tI_up {st : Nat → Int64} {sa ea sb eb : Int} {x : Nat → Int64} {n P P' : Int} (h : tI st sa ea sb eb x n P) (hP : P ≤ P') : tI st sa ea sb eb x n P' := ⟨h.1, h.2.1, fun i i0 i1 => ⟨by have := (h.2.2 i i0 i1).1; omega, (h.2.2 i i0 i1).2⟩⟩
theorem tI_nil {st : Nat → Int64} {sa ea sb eb : Int} {x : Nat → Int64} {P : Int} : tI st sa ea sb eb x 0 P := ⟨fun i i0 i1 => by omega, fun h => by omega, fun i i0 i1 => by omega⟩
theorem tI_lay {st : Nat → Int64} {sa ea sb eb : Int} {x : Nat → Int64} {n P P' : Int} {m : Nat} {p : Int64} (h : tI st sa ea sb eb x n P) (hm : n = m) (hP : P ≤ p.toInt) (hP' : p.toInt < P') (h0 : n = 0 → p.toInt = 0) (ha : p.toInt = 0 ∨ (∃ k, sa ≤ k ∧ k < ea ∧ p.toInt = rB st k) ∨ ∃ k, sb ≤ k ∧ k < eb ∧ p.toInt = rB st k) : tI st sa ea sb eb (vp_updL x m p) (n + 1) P' := by
  obtain ⟨h1, h2, h3⟩ := h
  refine ⟨fun i i0 i1 => ?_, fun _ => ?_, fun i i0 i1 => ?_⟩
  · rw [rB_upd i0, rB_upd (by omega)]
    by_cases e : i + 1 = m
    · rw [if_pos e, if_neg (by omega)]
      have := (h3 i i0 (by omega)).1
      omega
    · rw [if_neg e, if_neg (by omega)]
      exact h1 i i0 (by omega)
  · rw [rB_upd (by omega)]
    by_cases e : (0 : Int) = m
    · rw [if_pos e]
      exact h0 (by omega)
    · rw [if_neg e]
      exact h2 (by omega)
  · rw [rB_upd i0]
    by_cases e : i = m
    · rw [if_pos e]
      exact ⟨hP', ha⟩
    · rw [if_neg e]
      have := h3 i i0 (by omega)
      exact ⟨by omega, this.2⟩
theorem tI_wS {st : Nat → Int64} {sa ea sb eb : Int} {x y : Nat → Int64} {n : Int} (h : tI st sa ea sb eb x n 1152921504606846976) (hn : 1 ≤ n) (he : ∀ i : Int, 0 ≤ i → i < n → y i.toNat = x i.toNat) : wS y n := by
  have he2 : ∀ i : Int, 0 ≤ i → i < n → rB y i = rB x i := fun i i0 i1 => by unfold rB; rw [he i i0 i1]
  refine ⟨hn, ?_, fun i i0 i1 => ?_, fun i i0 i1 => ?_⟩
  · rw [he2 0 (by omega) (by omega)]
    exact h.2.1 (by omega)
  · rw [he2 i i0 (by omega), he2 (i + 1) (by omega) i1]
    exact h.1 i i0 i1
  · rw [he2 i i0 i1]
    exact (h.2.2 i i0 i1).1
theorem tI_flat {st : Nat → Int64} {sa ea sb eb : Int} {x y : Nat → Int64} {n : Int} (h : tI st sa ea sb eb x n 1152921504606846976) (he : ∀ i : Int, 0 ≤ i → i < n → y i.toNat = x i.toNat) : ∀ (i : Nat) (g : Int), dy i g → flat (seg st sa) (ea - sa) g (2 ^ i) → flat (seg st sb) (eb - sb) g (2 ^ i) → flat y n g (2 ^ i) := by
  intro i g hg h1 h2 k k0 k1 hk
  have he2 : rB y k = rB x k := by unfold rB; rw [he k k0 k1]
  rw [he2] at hk
  rcases (h.2.2 k k0 k1).2 with e | ⟨m, m0, m1, e⟩ | ⟨m, m0, m1, e⟩
  · rw [e] at hk
    exact dy_no0 hg hk
  · rw [e] at hk
    exact h1 (m - sa) (by omega) (by omega) (by rw [rB_seg (by omega), show sa + (m - sa) = m by omega]; exact hk)
  · rw [e] at hk
    exact h2 (m - sb) (by omega) (by omega) (by rw [rB_seg (by omega), show sb + (m - sb) = m by omega]; exact hk)
theorem eF_in {st : Nat → Int64} {i e : Int} (h : i + 1 < e) : (eF st i e).toInt = rB st (i + 1) := by unfold eF rB; rw [if_pos h]
theorem eF_out {st : Nat → Int64} {i e : Int} (h : ¬ i + 1 < e) : (eF st i e).toInt = 1152921504606846976 := by unfold eF; rw [if_neg h]; rfl
theorem mnF_int (a b : Int64) : (mnF a b).toInt = a.toInt ∧ a.toInt < b.toInt ∨ (mnF a b).toInt = b.toInt ∧ b.toInt ≤ a.toInt := by
  unfold mnF
  by_cases h : a.toInt < b.toInt
  · rw [if_pos h]; exact Or.inl ⟨rfl, h⟩
  · rw [if_neg h]; exact Or.inr ⟨rfl, by omega⟩
/-- the next place: where one of the two rows has it -/
theorem eF_step {st : Nat → Int64} {s e i : Int} {p p2 : Int} (hw : wS (seg st s) (e - s)) (h0 : s ≤ i) (h1 : i < e) (h2 : rB st i ≤ p) (h3 : p < p2) (h4 : p2 ≤ (eF st i e).toInt) (hp : p2 < 1152921504606846976) :
    (((eF st i e).toInt = p2 → i + 1 < e ∧ rB st (i + 1) = p2 ∧ p2 < (eF st (i + 1) e).toInt) ∧ (¬ (eF st i e).toInt = p2 → rB st i ≤ p2 ∧ p2 < (eF st i e).toInt)) := by
  refine ⟨fun h => ?_, fun h => ⟨by omega, by omega⟩⟩
  by_cases q : i + 1 < e
  · rw [eF_in q] at h
    refine ⟨q, h, ?_⟩
    by_cases q2 : i + 1 + 1 < e
    · rw [eF_in q2, ← h]
      have h5 := hw.2.2.1 (i + 1 - s) (by omega) (by omega)
      rw [rB_seg (by omega), rB_seg (by omega), show s + (i + 1 - s) = i + 1 by omega, show s + (i + 1 - s + 1) = i + 1 + 1 by omega] at h5
      exact h5
    · rw [eF_out q2]
      omega
  · rw [eF_out q] at h
    omega
theorem eF_gt {st : Nat → Int64} {s e i : Int} (hw : wS (seg st s) (e - s)) (h0 : s ≤ i) (h1 : i < e) : rB st i < (eF st i e).toInt ∧ (eF st i e).toInt ≤ 1152921504606846976 := by
  by_cases q : i + 1 < e
  · rw [eF_in q]
    have h5 := hw.2.2.1 (i - s) (by omega) (by omega)
    rw [rB_seg (by omega), rB_seg (by omega), show s + (i - s) = i by omega, show s + (i - s + 1) = i + 1 by omega] at h5
    have h6 := hw.2.2.2 (i + 1 - s) (by omega) (by omega)
    rw [rB_seg (by omega), show s + (i + 1 - s) = i + 1 by omega] at h6
    omega
  · rw [eF_out q]
    have h6 := hw.2.2.2 (i - s) (by omega) (by omega)
    rw [rB_seg (by omega), show s + (i - s) = i by omega] at h6
    omega
theorem tg_dec {e i f j : Int} {nn : Nat} (hm : (e - i).toNat + (f - j).toNat = nn) (h : i < e) (h2 : j < f) : (e - (i + 1)).toNat + (f - j).toNat < nn ∧ (e - i).toNat + (f - (j + 1)).toNat < nn ∧ (e - (i + 1)).toNat + (f - (j + 1)).toNat < nn := by omega
theorem tg_le {e i f j : Int} {dd : Nat} (hm : (e - i).toNat + (f - j).toNat ≤ dd + 1) (h : i < e) (h2 : j < f) : (e - (i + 1)).toNat + (f - j).toNat ≤ dd ∧ (e - i).toNat + (f - (j + 1)).toNat ≤ dd ∧ (e - (i + 1)).toNat + (f - (j + 1)).toNat ≤ dd := by omega
theorem mx_l {h : Nat → Int32} {i j : Int} (z : rA h j < rA h i) : mxF (h i.toNat) (h j.toNat) = h i.toNat := if_pos z
theorem mx_r {h : Nat → Int32} {i j : Int} (z : ¬ rA h j < rA h i) : mxF (h i.toNat) (h j.toNat) = h j.toNat := if_neg z
set_option maxHeartbeats 8000000 in
theorem r_163 {X : dm_Mem} {q : rS} {M : dm_Mem} (hM : Rm X q M) (a b : Int32) (a0 : 0 ≤ a.toInt ∧ a.toInt < 1000) (b0 : 0 ≤ b.toInt ∧ b.toInt < 1000) (h0a : 0 ≤ rA (q.2.2.1 73) a.toInt) (h1a : rA (q.2.2.1 73) a.toInt < rA (q.2.2.1 73) (a.toInt + 1)) (h2a : rA (q.2.2.1 73) (a.toInt + 1) ≤ 24000) (h0b : 0 ≤ rA (q.2.2.1 73) b.toInt) (h1b : rA (q.2.2.1 73) b.toInt < rA (q.2.2.1 73) (b.toInt + 1)) (h2b : rA (q.2.2.1 73) (b.toInt + 1) ≤ 24000) (hwa : wS (seg (q.2.2.2 69) (rA (q.2.2.1 73) a.toInt)) (rA (q.2.2.1 73) (a.toInt + 1) - rA (q.2.2.1 73) a.toInt)) (hwb : wS (seg (q.2.2.2 69) (rA (q.2.2.1 73) b.toInt)) (rA (q.2.2.1 73) (b.toInt + 1) - rA (q.2.2.1 73) b.toInt)) (hlen : (rA (q.2.2.1 73) (a.toInt + 1) - rA (q.2.2.1 73) a.toInt) + (rA (q.2.2.1 73) (b.toInt + 1) - rA (q.2.2.1 73) b.toInt) ≤ 22000) : hT 2 163 [.ref 68, .int a, .int b] M (fun r M' => r = none ∧ ∃ (n : Int32) (b92 b94 : Nat → Int64) (b93 b95 : Nat → Int32), wS b92 n.toInt ∧ n.toInt ≤ (rA (q.2.2.1 73) (a.toInt + 1) - rA (q.2.2.1 73) a.toInt) + (rA (q.2.2.1 73) (b.toInt + 1) - rA (q.2.2.1 73) b.toInt) ∧ rowL b92 b93 n.toInt (tgL (q.2.2.2 69) (q.2.2.1 70) (rA (q.2.2.1 73) (a.toInt + 1)) (rA (q.2.2.1 73) (b.toInt + 1)) ((rA (q.2.2.1 73) (a.toInt + 1) - rA (q.2.2.1 73) a.toInt).toNat + (rA (q.2.2.1 73) (b.toInt + 1) - rA (q.2.2.1 73) b.toInt).toNat) (rA (q.2.2.1 73) a.toInt) (rA (q.2.2.1 73) b.toInt) 0 []) ∧ (∀ (i : Nat) (g : Int), dy i g → flat (seg (q.2.2.2 69) (rA (q.2.2.1 73) a.toInt)) (rA (q.2.2.1 73) (a.toInt + 1) - rA (q.2.2.1 73) a.toInt) g (2 ^ i) → flat (seg (q.2.2.2 69) (rA (q.2.2.1 73) b.toInt)) (rA (q.2.2.1 73) (b.toInt + 1) - rA (q.2.2.1 73) b.toInt) g (2 ^ i) → flat b92 n.toInt g (2 ^ i)) ∧ Rm X (sA (sA (sB (sB (sF q 29 n) 92 b92) 94 b94) 93 b93) 95 b95) M') := by
  have j21 : ∀ (nn : Nat), (∀ (n i j : Int32) (p e8 e10 : Int64) (b94 : Nat → Int64) (b95 : Nat → Int32) (M : dm_Mem), Rm X (sA (sB q 94 b94) 95 b95) M → (rA (q.2.2.1 73) a.toInt ≤ i.toInt) → (i.toInt ≤ rA (q.2.2.1 73) (a.toInt + 1)) → (rA (q.2.2.1 73) b.toInt ≤ j.toInt) → (j.toInt ≤ rA (q.2.2.1 73) (b.toInt + 1)) → (0 ≤ p.toInt ∧ p.toInt ≤ 1152921504606846976) → (p.toInt < 1152921504606846976 → i.toInt < rA (q.2.2.1 73) (a.toInt + 1) ∧ rB (q.2.2.2 69) i.toInt ≤ p.toInt ∧ p.toInt < (eF (q.2.2.2 69) i.toInt (rA (q.2.2.1 73) (a.toInt + 1))).toInt) → (p.toInt < 1152921504606846976 → j.toInt < rA (q.2.2.1 73) (b.toInt + 1) ∧ rB (q.2.2.2 69) j.toInt ≤ p.toInt ∧ p.toInt < (eF (q.2.2.2 69) j.toInt (rA (q.2.2.1 73) (b.toInt + 1))).toInt) → (p.toInt < 1152921504606846976 → (p.toInt = 0 ∨ (∃ k, rA (q.2.2.1 73) a.toInt ≤ k ∧ k < rA (q.2.2.1 73) (a.toInt + 1) ∧ p.toInt = rB (q.2.2.2 69) k) ∨ ∃ k, rA (q.2.2.1 73) b.toInt ≤ k ∧ k < rA (q.2.2.1 73) (b.toInt + 1) ∧ p.toInt = rB (q.2.2.2 69) k)) → (0 ≤ n.toInt ∧ n.toInt ≤ (i.toInt - rA (q.2.2.1 73) a.toInt) + (j.toInt - rA (q.2.2.1 73) b.toInt)) → (1 ≤ n.toInt ∨ p.toInt = 0) → (∃ l d, rowL b94 b95 n.toInt l ∧ (rA (q.2.2.1 73) (a.toInt + 1) - i.toInt).toNat + (rA (q.2.2.1 73) (b.toInt + 1) - j.toInt).toNat ≤ d ∧ tgL (q.2.2.2 69) (q.2.2.1 70) (rA (q.2.2.1 73) (a.toInt + 1)) (rA (q.2.2.1 73) (b.toInt + 1)) d i.toInt j.toInt p l = (tgL (q.2.2.2 69) (q.2.2.1 70) (rA (q.2.2.1 73) (a.toInt + 1)) (rA (q.2.2.1 73) (b.toInt + 1)) ((rA (q.2.2.1 73) (a.toInt + 1) - rA (q.2.2.1 73) a.toInt).toNat + (rA (q.2.2.1 73) (b.toInt + 1) - rA (q.2.2.1 73) b.toInt).toNat) (rA (q.2.2.1 73) a.toInt) (rA (q.2.2.1 73) b.toInt) 0 [])) → (tI (q.2.2.2 69) (rA (q.2.2.1 73) a.toInt) (rA (q.2.2.1 73) (a.toInt + 1)) (rA (q.2.2.1 73) b.toInt) (rA (q.2.2.1 73) (b.toInt + 1)) b94 n.toInt p.toInt) → ((rA (q.2.2.1 73) (a.toInt + 1) - i.toInt).toNat + (rA (q.2.2.1 73) (b.toInt + 1) - j.toInt).toNat) = nn → hG 1 cd_163 21 [(6, .long p), (5, .int j), (4, .int i), (3, .int n), (0, .ref 68), (1, .int a), (2, .int b)] [] M (fun r M' => r = none ∧ ∃ (n : Int32) (b92 b94 : Nat → Int64) (b93 b95 : Nat → Int32), wS b92 n.toInt ∧ n.toInt ≤ (rA (q.2.2.1 73) (a.toInt + 1) - rA (q.2.2.1 73) a.toInt) + (rA (q.2.2.1 73) (b.toInt + 1) - rA (q.2.2.1 73) b.toInt) ∧ rowL b92 b93 n.toInt (tgL (q.2.2.2 69) (q.2.2.1 70) (rA (q.2.2.1 73) (a.toInt + 1)) (rA (q.2.2.1 73) (b.toInt + 1)) ((rA (q.2.2.1 73) (a.toInt + 1) - rA (q.2.2.1 73) a.toInt).toNat + (rA (q.2.2.1 73) (b.toInt + 1) - rA (q.2.2.1 73) b.toInt).toNat) (rA (q.2.2.1 73) a.toInt) (rA (q.2.2.1 73) b.toInt) 0 []) ∧ (∀ (i : Nat) (g : Int), dy i g → flat (seg (q.2.2.2 69) (rA (q.2.2.1 73) a.toInt)) (rA (q.2.2.1 73) (a.toInt + 1) - rA (q.2.2.1 73) a.toInt) g (2 ^ i) → flat (seg (q.2.2.2 69) (rA (q.2.2.1 73) b.toInt)) (rA (q.2.2.1 73) (b.toInt + 1) - rA (q.2.2.1 73) b.toInt) g (2 ^ i) → flat b92 n.toInt g (2 ^ i)) ∧ Rm X (sA (sA (sB (sB (sF q 29 n) 92 b92) 94 b94) 93 b93) 95 b95) M')) ∧ (∀ (n i j : Int32) (p e8 e10 : Int64) (b94 : Nat → Int64) (b95 : Nat → Int32) (M : dm_Mem), Rm X (sA (sB q 94 b94) 95 b95) M → (rA (q.2.2.1 73) a.toInt ≤ i.toInt) → (i.toInt ≤ rA (q.2.2.1 73) (a.toInt + 1)) → (rA (q.2.2.1 73) b.toInt ≤ j.toInt) → (j.toInt ≤ rA (q.2.2.1 73) (b.toInt + 1)) → (0 ≤ p.toInt ∧ p.toInt ≤ 1152921504606846976) → (p.toInt < 1152921504606846976 → i.toInt < rA (q.2.2.1 73) (a.toInt + 1) ∧ rB (q.2.2.2 69) i.toInt ≤ p.toInt ∧ p.toInt < (eF (q.2.2.2 69) i.toInt (rA (q.2.2.1 73) (a.toInt + 1))).toInt) → (p.toInt < 1152921504606846976 → j.toInt < rA (q.2.2.1 73) (b.toInt + 1) ∧ rB (q.2.2.2 69) j.toInt ≤ p.toInt ∧ p.toInt < (eF (q.2.2.2 69) j.toInt (rA (q.2.2.1 73) (b.toInt + 1))).toInt) → (p.toInt < 1152921504606846976 → (p.toInt = 0 ∨ (∃ k, rA (q.2.2.1 73) a.toInt ≤ k ∧ k < rA (q.2.2.1 73) (a.toInt + 1) ∧ p.toInt = rB (q.2.2.2 69) k) ∨ ∃ k, rA (q.2.2.1 73) b.toInt ≤ k ∧ k < rA (q.2.2.1 73) (b.toInt + 1) ∧ p.toInt = rB (q.2.2.2 69) k)) → (0 ≤ n.toInt ∧ n.toInt ≤ (i.toInt - rA (q.2.2.1 73) a.toInt) + (j.toInt - rA (q.2.2.1 73) b.toInt)) → (1 ≤ n.toInt ∨ p.toInt = 0) → (∃ l d, rowL b94 b95 n.toInt l ∧ (rA (q.2.2.1 73) (a.toInt + 1) - i.toInt).toNat + (rA (q.2.2.1 73) (b.toInt + 1) - j.toInt).toNat ≤ d ∧ tgL (q.2.2.2 69) (q.2.2.1 70) (rA (q.2.2.1 73) (a.toInt + 1)) (rA (q.2.2.1 73) (b.toInt + 1)) d i.toInt j.toInt p l = (tgL (q.2.2.2 69) (q.2.2.1 70) (rA (q.2.2.1 73) (a.toInt + 1)) (rA (q.2.2.1 73) (b.toInt + 1)) ((rA (q.2.2.1 73) (a.toInt + 1) - rA (q.2.2.1 73) a.toInt).toNat + (rA (q.2.2.1 73) (b.toInt + 1) - rA (q.2.2.1 73) b.toInt).toNat) (rA (q.2.2.1 73) a.toInt) (rA (q.2.2.1 73) b.toInt) 0 [])) → (tI (q.2.2.2 69) (rA (q.2.2.1 73) a.toInt) (rA (q.2.2.1 73) (a.toInt + 1)) (rA (q.2.2.1 73) b.toInt) (rA (q.2.2.1 73) (b.toInt + 1)) b94 n.toInt p.toInt) → ((rA (q.2.2.1 73) (a.toInt + 1) - i.toInt).toNat + (rA (q.2.2.1 73) (b.toInt + 1) - j.toInt).toNat) = nn → hG 1 cd_163 21 [(4, .int i), (6, .long p), (10, .long e10), (8, .long e8), (3, .int n), (5, .int j), (0, .ref 68), (1, .int a), (2, .int b)] [] M (fun r M' => r = none ∧ ∃ (n : Int32) (b92 b94 : Nat → Int64) (b93 b95 : Nat → Int32), wS b92 n.toInt ∧ n.toInt ≤ (rA (q.2.2.1 73) (a.toInt + 1) - rA (q.2.2.1 73) a.toInt) + (rA (q.2.2.1 73) (b.toInt + 1) - rA (q.2.2.1 73) b.toInt) ∧ rowL b92 b93 n.toInt (tgL (q.2.2.2 69) (q.2.2.1 70) (rA (q.2.2.1 73) (a.toInt + 1)) (rA (q.2.2.1 73) (b.toInt + 1)) ((rA (q.2.2.1 73) (a.toInt + 1) - rA (q.2.2.1 73) a.toInt).toNat + (rA (q.2.2.1 73) (b.toInt + 1) - rA (q.2.2.1 73) b.toInt).toNat) (rA (q.2.2.1 73) a.toInt) (rA (q.2.2.1 73) b.toInt) 0 []) ∧ (∀ (i : Nat) (g : Int), dy i g → flat (seg (q.2.2.2 69) (rA (q.2.2.1 73) a.toInt)) (rA (q.2.2.1 73) (a.toInt + 1) - rA (q.2.2.1 73) a.toInt) g (2 ^ i) → flat (seg (q.2.2.2 69) (rA (q.2.2.1 73) b.toInt)) (rA (q.2.2.1 73) (b.toInt + 1) - rA (q.2.2.1 73) b.toInt) g (2 ^ i) → flat b92 n.toInt g (2 ^ i)) ∧ Rm X (sA (sA (sB (sB (sF q 29 n) 92 b92) 94 b94) 93 b93) 95 b95) M')) ∧ (∀ (n i j : Int32) (p e8 e10 : Int64) (b94 : Nat → Int64) (b95 : Nat → Int32) (M : dm_Mem), Rm X (sA (sB q 94 b94) 95 b95) M → (rA (q.2.2.1 73) a.toInt ≤ i.toInt) → (i.toInt ≤ rA (q.2.2.1 73) (a.toInt + 1)) → (rA (q.2.2.1 73) b.toInt ≤ j.toInt) → (j.toInt ≤ rA (q.2.2.1 73) (b.toInt + 1)) → (0 ≤ p.toInt ∧ p.toInt ≤ 1152921504606846976) → (p.toInt < 1152921504606846976 → i.toInt < rA (q.2.2.1 73) (a.toInt + 1) ∧ rB (q.2.2.2 69) i.toInt ≤ p.toInt ∧ p.toInt < (eF (q.2.2.2 69) i.toInt (rA (q.2.2.1 73) (a.toInt + 1))).toInt) → (p.toInt < 1152921504606846976 → j.toInt < rA (q.2.2.1 73) (b.toInt + 1) ∧ rB (q.2.2.2 69) j.toInt ≤ p.toInt ∧ p.toInt < (eF (q.2.2.2 69) j.toInt (rA (q.2.2.1 73) (b.toInt + 1))).toInt) → (p.toInt < 1152921504606846976 → (p.toInt = 0 ∨ (∃ k, rA (q.2.2.1 73) a.toInt ≤ k ∧ k < rA (q.2.2.1 73) (a.toInt + 1) ∧ p.toInt = rB (q.2.2.2 69) k) ∨ ∃ k, rA (q.2.2.1 73) b.toInt ≤ k ∧ k < rA (q.2.2.1 73) (b.toInt + 1) ∧ p.toInt = rB (q.2.2.2 69) k)) → (0 ≤ n.toInt ∧ n.toInt ≤ (i.toInt - rA (q.2.2.1 73) a.toInt) + (j.toInt - rA (q.2.2.1 73) b.toInt)) → (1 ≤ n.toInt ∨ p.toInt = 0) → (∃ l d, rowL b94 b95 n.toInt l ∧ (rA (q.2.2.1 73) (a.toInt + 1) - i.toInt).toNat + (rA (q.2.2.1 73) (b.toInt + 1) - j.toInt).toNat ≤ d ∧ tgL (q.2.2.2 69) (q.2.2.1 70) (rA (q.2.2.1 73) (a.toInt + 1)) (rA (q.2.2.1 73) (b.toInt + 1)) d i.toInt j.toInt p l = (tgL (q.2.2.2 69) (q.2.2.1 70) (rA (q.2.2.1 73) (a.toInt + 1)) (rA (q.2.2.1 73) (b.toInt + 1)) ((rA (q.2.2.1 73) (a.toInt + 1) - rA (q.2.2.1 73) a.toInt).toNat + (rA (q.2.2.1 73) (b.toInt + 1) - rA (q.2.2.1 73) b.toInt).toNat) (rA (q.2.2.1 73) a.toInt) (rA (q.2.2.1 73) b.toInt) 0 [])) → (tI (q.2.2.2 69) (rA (q.2.2.1 73) a.toInt) (rA (q.2.2.1 73) (a.toInt + 1)) (rA (q.2.2.1 73) b.toInt) (rA (q.2.2.1 73) (b.toInt + 1)) b94 n.toInt p.toInt) → ((rA (q.2.2.1 73) (a.toInt + 1) - i.toInt).toNat + (rA (q.2.2.1 73) (b.toInt + 1) - j.toInt).toNat) = nn → hG 1 cd_163 21 [(5, .int j), (6, .long p), (10, .long e10), (8, .long e8), (3, .int n), (4, .int i), (0, .ref 68), (1, .int a), (2, .int b)] [] M (fun r M' => r = none ∧ ∃ (n : Int32) (b92 b94 : Nat → Int64) (b93 b95 : Nat → Int32), wS b92 n.toInt ∧ n.toInt ≤ (rA (q.2.2.1 73) (a.toInt + 1) - rA (q.2.2.1 73) a.toInt) + (rA (q.2.2.1 73) (b.toInt + 1) - rA (q.2.2.1 73) b.toInt) ∧ rowL b92 b93 n.toInt (tgL (q.2.2.2 69) (q.2.2.1 70) (rA (q.2.2.1 73) (a.toInt + 1)) (rA (q.2.2.1 73) (b.toInt + 1)) ((rA (q.2.2.1 73) (a.toInt + 1) - rA (q.2.2.1 73) a.toInt).toNat + (rA (q.2.2.1 73) (b.toInt + 1) - rA (q.2.2.1 73) b.toInt).toNat) (rA (q.2.2.1 73) a.toInt) (rA (q.2.2.1 73) b.toInt) 0 []) ∧ (∀ (i : Nat) (g : Int), dy i g → flat (seg (q.2.2.2 69) (rA (q.2.2.1 73) a.toInt)) (rA (q.2.2.1 73) (a.toInt + 1) - rA (q.2.2.1 73) a.toInt) g (2 ^ i) → flat (seg (q.2.2.2 69) (rA (q.2.2.1 73) b.toInt)) (rA (q.2.2.1 73) (b.toInt + 1) - rA (q.2.2.1 73) b.toInt) g (2 ^ i) → flat b92 n.toInt g (2 ^ i)) ∧ Rm X (sA (sA (sB (sB (sF q 29 n) 92 b92) 94 b94) 93 b93) 95 b95) M')) ∧ (∀ (n i j : Int32) (p e8 e10 : Int64) (b94 : Nat → Int64) (b95 : Nat → Int32) (M : dm_Mem), Rm X (sA (sB q 94 b94) 95 b95) M → (rA (q.2.2.1 73) a.toInt ≤ i.toInt) → (i.toInt ≤ rA (q.2.2.1 73) (a.toInt + 1)) → (rA (q.2.2.1 73) b.toInt ≤ j.toInt) → (j.toInt ≤ rA (q.2.2.1 73) (b.toInt + 1)) → (0 ≤ p.toInt ∧ p.toInt ≤ 1152921504606846976) → (p.toInt < 1152921504606846976 → i.toInt < rA (q.2.2.1 73) (a.toInt + 1) ∧ rB (q.2.2.2 69) i.toInt ≤ p.toInt ∧ p.toInt < (eF (q.2.2.2 69) i.toInt (rA (q.2.2.1 73) (a.toInt + 1))).toInt) → (p.toInt < 1152921504606846976 → j.toInt < rA (q.2.2.1 73) (b.toInt + 1) ∧ rB (q.2.2.2 69) j.toInt ≤ p.toInt ∧ p.toInt < (eF (q.2.2.2 69) j.toInt (rA (q.2.2.1 73) (b.toInt + 1))).toInt) → (p.toInt < 1152921504606846976 → (p.toInt = 0 ∨ (∃ k, rA (q.2.2.1 73) a.toInt ≤ k ∧ k < rA (q.2.2.1 73) (a.toInt + 1) ∧ p.toInt = rB (q.2.2.2 69) k) ∨ ∃ k, rA (q.2.2.1 73) b.toInt ≤ k ∧ k < rA (q.2.2.1 73) (b.toInt + 1) ∧ p.toInt = rB (q.2.2.2 69) k)) → (0 ≤ n.toInt ∧ n.toInt ≤ (i.toInt - rA (q.2.2.1 73) a.toInt) + (j.toInt - rA (q.2.2.1 73) b.toInt)) → (1 ≤ n.toInt ∨ p.toInt = 0) → (∃ l d, rowL b94 b95 n.toInt l ∧ (rA (q.2.2.1 73) (a.toInt + 1) - i.toInt).toNat + (rA (q.2.2.1 73) (b.toInt + 1) - j.toInt).toNat ≤ d ∧ tgL (q.2.2.2 69) (q.2.2.1 70) (rA (q.2.2.1 73) (a.toInt + 1)) (rA (q.2.2.1 73) (b.toInt + 1)) d i.toInt j.toInt p l = (tgL (q.2.2.2 69) (q.2.2.1 70) (rA (q.2.2.1 73) (a.toInt + 1)) (rA (q.2.2.1 73) (b.toInt + 1)) ((rA (q.2.2.1 73) (a.toInt + 1) - rA (q.2.2.1 73) a.toInt).toNat + (rA (q.2.2.1 73) (b.toInt + 1) - rA (q.2.2.1 73) b.toInt).toNat) (rA (q.2.2.1 73) a.toInt) (rA (q.2.2.1 73) b.toInt) 0 [])) → (tI (q.2.2.2 69) (rA (q.2.2.1 73) a.toInt) (rA (q.2.2.1 73) (a.toInt + 1)) (rA (q.2.2.1 73) b.toInt) (rA (q.2.2.1 73) (b.toInt + 1)) b94 n.toInt p.toInt) → ((rA (q.2.2.1 73) (a.toInt + 1) - i.toInt).toNat + (rA (q.2.2.1 73) (b.toInt + 1) - j.toInt).toNat) = nn → hG 1 cd_163 21 [(5, .int j), (4, .int i), (6, .long p), (10, .long e10), (8, .long e8), (3, .int n), (0, .ref 68), (1, .int a), (2, .int b)] [] M (fun r M' => r = none ∧ ∃ (n : Int32) (b92 b94 : Nat → Int64) (b93 b95 : Nat → Int32), wS b92 n.toInt ∧ n.toInt ≤ (rA (q.2.2.1 73) (a.toInt + 1) - rA (q.2.2.1 73) a.toInt) + (rA (q.2.2.1 73) (b.toInt + 1) - rA (q.2.2.1 73) b.toInt) ∧ rowL b92 b93 n.toInt (tgL (q.2.2.2 69) (q.2.2.1 70) (rA (q.2.2.1 73) (a.toInt + 1)) (rA (q.2.2.1 73) (b.toInt + 1)) ((rA (q.2.2.1 73) (a.toInt + 1) - rA (q.2.2.1 73) a.toInt).toNat + (rA (q.2.2.1 73) (b.toInt + 1) - rA (q.2.2.1 73) b.toInt).toNat) (rA (q.2.2.1 73) a.toInt) (rA (q.2.2.1 73) b.toInt) 0 []) ∧ (∀ (i : Nat) (g : Int), dy i g → flat (seg (q.2.2.2 69) (rA (q.2.2.1 73) a.toInt)) (rA (q.2.2.1 73) (a.toInt + 1) - rA (q.2.2.1 73) a.toInt) g (2 ^ i) → flat (seg (q.2.2.2 69) (rA (q.2.2.1 73) b.toInt)) (rA (q.2.2.1 73) (b.toInt + 1) - rA (q.2.2.1 73) b.toInt) g (2 ^ i) → flat b92 n.toInt g (2 ^ i)) ∧ Rm X (sA (sA (sB (sB (sF q 29 n) 92 b92) 94 b94) 93 b93) 95 b95) M')) := by
    intro nn
    induction nn using Nat.strongRecOn with
    | ind nn IH =>
      refine ⟨?_, ?_, ?_, ?_⟩
      · skip
        intro n i j p e8 e10 b94 b95 M hM i0 i1 j0 j1 p0 hpi hpj hpa n0 n1 hl hx hms
        refine hs (f := dm_lld 23 6) rfl rfl ?_
        refine hs (f := dm_push 26 (.long 1152921504606846976)) rfl rfl ?_
        refine g_lc_ge (x := p) (y := (1152921504606846976 : Int64)) (m := 27) (n := 30) (tt := 178) rfl rfl (fun h1 => ?_) (fun h1 => ?_)
        · skip
          have h1 : p.toInt ≥ 1152921504606846976 := h1
          refine hs (f := dm_ald 179 0) rfl rfl ?_
          refine hs (f := dm_ild 180 3) rfl rfl ?_
          obtain ⟨l, d9, hrw, hd9, hl2⟩ := hl
          rw [tg_end (by omega)] at hl2
          rw [hl2] at hrw
          refine r_inv rfl hM rfl (as := [.ref 68, .int n]) rfl (Nat.le_of_ble_eq_true rfl) (hT_mono (by decide) (r_149 hM n (by omega) (by omega)) (fun r1 M2 w => ?_))
          obtain ⟨rfl, b1, b2, hb, hM2⟩ := w
          replace hM2 := rm_to (q' := (sA (sA (sB (sB (sF q 29 n) 92 b1) 94 b94) 93 b2) 95 b95)) hM2 (Eq.trans (congrArg (fun z => sA z 93 b2) (Eq.trans (congrArg (fun z => sB z 92 b1) (show sF (sA (sB q 94 b94) 95 b95) 29 n = (sA (sB (sF q 29 n) 94 b94) 95 b95) from (congrArg (fun z => (sA (sB z 94 b94) 95 b95)) (show sF q 29 n = (sF q 29 n) from rfl)))) (show sB (sA (sB (sF q 29 n) 94 b94) 95 b95) 92 b1 = (sA (sB (sB (sF q 29 n) 92 b1) 94 b94) 95 b95) from (congrArg (fun z => (sA z 95 b95)) (show sB (sB (sF q 29 n) 94 b94) 92 b1 = (sB (sB (sF q 29 n) 92 b1) 94 b94) from Eq.trans (show sB (sB (sF q 29 n) 94 b94) 92 b1 = sB (sB (sF q 29 n) 92 b1) 94 b94 from sB_cm (by decide)) (congrArg (fun z => sB z 94 b94) (show sB (sF q 29 n) 92 b1 = (sB (sF q 29 n) 92 b1) from rfl))))))) (show sA (sA (sB (sB (sF q 29 n) 92 b1) 94 b94) 95 b95) 93 b2 = (sA (sA (sB (sB (sF q 29 n) 92 b1) 94 b94) 93 b2) 95 b95) from (show sA (sA (sB (sB (sF q 29 n) 92 b1) 94 b94) 95 b95) 93 b2 = (sA (sA (sB (sB (sF q 29 n) 92 b1) 94 b94) 93 b2) 95 b95) from Eq.trans (show sA (sA (sB (sB (sF q 29 n) 92 b1) 94 b94) 95 b95) 93 b2 = sA (sA (sB (sB (sF q 29 n) 92 b1) 94 b94) 93 b2) 95 b95 from sA_cm (by decide)) (congrArg (fun z => sA z 95 b95) (show sA (sB (sB (sF q 29 n) 92 b1) 94 b94) 93 b2 = (sA (sB (sB (sF q 29 n) 92 b1) 94 b94) 93 b2) from rfl)))))
          exact hr (f := dm_vret) rfl rfl (⟨rfl, n, b1, b94, b2, b95, tI_wS (tI_up hx (by omega)) (by omega) (fun i i0 i1 => (hb i i0 i1).1), by omega, ⟨hrw.1, fun k z hk => by
                have hk2 := (List.getElem?_eq_some_iff.mp hk).1
                have hk3 := hrw.1
                have hb2 := hb k (by omega) (by omega)
                have hb3 := hrw.2 k z hk
                exact ⟨hb2.1.trans hb3.1, hb2.2.trans hb3.2⟩⟩, tI_flat (tI_up hx (by omega)) (fun i i0 i1 => (hb i i0 i1).1), hM2⟩)
        · skip
          have h1 : p.toInt < 1152921504606846976 := h1
          obtain ⟨i2, i3, i4⟩ := hpi (by omega)
          obtain ⟨j2, j3, j4⟩ := hpj (by omega)
          have hpa := hpa (by omega)
          obtain ⟨l, d9, hrw, hd9, hl2⟩ := hl
          obtain ⟨dd, rfl⟩ : ∃ dd, d9 = dd + 1 := ⟨d9 - 1, by omega⟩
          rw [tg_go (by omega)] at hl2
          have ega := eF_gt hwa i0 i2
          have egb := eF_gt hwb j0 j2
          have j151 : ∀ (m : Int32) (c94 : Nat → Int64) (c95 : Nat → Int32) (ei ej p2 : Int64) (M : dm_Mem), Rm X (sA (sB q 94 c94) 95 c95) M → (1 ≤ m.toInt ∧ m.toInt ≤ (i.toInt - rA (q.2.2.1 73) a.toInt) + (j.toInt - rA (q.2.2.1 73) b.toInt) + 1) → (rowL c94 c95 m.toInt (layL l p (mxF ((q.2.2.1 70) i.toInt.toNat) ((q.2.2.1 70) j.toInt.toNat)))) → (tI (q.2.2.2 69) (rA (q.2.2.1 73) a.toInt) (rA (q.2.2.1 73) (a.toInt + 1)) (rA (q.2.2.1 73) b.toInt) (rA (q.2.2.1 73) (b.toInt + 1)) c94 m.toInt (p.toInt + 1)) → (ei = eF (q.2.2.2 69) i.toInt (rA (q.2.2.1 73) (a.toInt + 1))) → (ej = eF (q.2.2.2 69) j.toInt (rA (q.2.2.1 73) (b.toInt + 1))) → (p2 = mnF (eF (q.2.2.2 69) i.toInt (rA (q.2.2.1 73) (a.toInt + 1))) (eF (q.2.2.2 69) j.toInt (rA (q.2.2.1 73) (b.toInt + 1)))) → hG 1 cd_163 151 [(10, .long ej), (8, .long ei), (3, .int m), (6, .long p), (5, .int j), (4, .int i), (0, .ref 68), (1, .int a), (2, .int b)] [.long p2] M (fun r M' => r = none ∧ ∃ (n : Int32) (b92 b94 : Nat → Int64) (b93 b95 : Nat → Int32), wS b92 n.toInt ∧ n.toInt ≤ (rA (q.2.2.1 73) (a.toInt + 1) - rA (q.2.2.1 73) a.toInt) + (rA (q.2.2.1 73) (b.toInt + 1) - rA (q.2.2.1 73) b.toInt) ∧ rowL b92 b93 n.toInt (tgL (q.2.2.2 69) (q.2.2.1 70) (rA (q.2.2.1 73) (a.toInt + 1)) (rA (q.2.2.1 73) (b.toInt + 1)) ((rA (q.2.2.1 73) (a.toInt + 1) - rA (q.2.2.1 73) a.toInt).toNat + (rA (q.2.2.1 73) (b.toInt + 1) - rA (q.2.2.1 73) b.toInt).toNat) (rA (q.2.2.1 73) a.toInt) (rA (q.2.2.1 73) b.toInt) 0 []) ∧ (∀ (i : Nat) (g : Int), dy i g → flat (seg (q.2.2.2 69) (rA (q.2.2.1 73) a.toInt)) (rA (q.2.2.1 73) (a.toInt + 1) - rA (q.2.2.1 73) a.toInt) g (2 ^ i) → flat (seg (q.2.2.2 69) (rA (q.2.2.1 73) b.toInt)) (rA (q.2.2.1 73) (b.toInt + 1) - rA (q.2.2.1 73) b.toInt) g (2 ^ i) → flat b92 n.toInt g (2 ^ i)) ∧ Rm X (sA (sA (sB (sB (sF q 29 n) 92 b92) 94 b94) 93 b93) 95 b95) M') := by
            intro m c94 c95 ei ej p2 M hM m0 hr2 hx2 hei hej hp2
            have hmn := mnF_int (eF (q.2.2.2 69) i.toInt (rA (q.2.2.1 73) (a.toInt + 1))) (eF (q.2.2.2 69) j.toInt (rA (q.2.2.1 73) (b.toInt + 1)))
            rw [← hei, ← hej] at hmn
            rw [← hei] at ega i4
            rw [← hej] at egb j4
            rw [← hei, ← hej] at hp2
            rw [← hp2] at hmn
            rw [← hei, ← hej, ← hp2] at hl2
            have stI : p2.toInt < 1152921504606846976 → _ := fun z => eF_step (p := p.toInt) (p2 := p2.toInt) hwa i0 i2 i3 (by omega) (by rw [← hei]; omega) z
            have stJ : p2.toInt < 1152921504606846976 → _ := fun z => eF_step (p := p.toInt) (p2 := p2.toInt) hwb j0 j2 j3 (by omega) (by rw [← hej]; omega) z
            rw [← hei] at stI
            rw [← hej] at stJ
            refine hs (f := dm_lst 153 6) (lv' := [(6, .long p2), (10, .long ej), (8, .long ei), (3, .int m), (5, .int j), (4, .int i), (0, .ref 68), (1, .int a), (2, .int b)]) rfl rfl ?_
            refine hs (f := dm_lld 155 8) rfl rfl ?_
            refine hs (f := dm_lld 157 6) rfl rfl ?_
            refine g_lc_ne (x := ei) (y := p2) (m := 158) (n := 161) (tt := 164) rfl rfl (fun h3 => ?_) (fun h3 => ?_)
            · skip
              have h3 : ¬ ei.toInt = p2.toInt := h3
              refine hs (f := dm_lld 166 10) rfl rfl ?_
              refine hs (f := dm_lld 168 6) rfl rfl ?_
              refine g_lc_ne (x := ej) (y := p2) (m := 169) (n := 172) (tt := 175) rfl rfl (fun h4 => ?_) (fun h4 => ?_)
              · skip
                have h4 : ¬ ej.toInt = p2.toInt := h4
                refine hs (f := dm_goto 21) rfl rfl ?_
                exfalso
                omega
              · skip
                have h4 : ej.toInt = p2.toInt := h4
                have e5 : (j + 1).toInt = j.toInt + 1 := by have w := i_addc (x := j) (y := 1) 1 rfl (by omega) (by omega); omega
                refine hs (f := dm_iinc 175 5 1) (lv' := [(5, .int (j + 1)), (6, .long p2), (10, .long ej), (8, .long ei), (3, .int m), (4, .int i), (0, .ref 68), (1, .int a), (2, .int b)]) rfl rfl ?_
                refine hs (f := dm_goto 21) rfl rfl ?_
                have hdec : (rA (q.2.2.1 73) (a.toInt + 1) - i.toInt).toNat + (rA (q.2.2.1 73) (b.toInt + 1) - (j + 1).toInt).toNat < nn := by rw [e5]; exact (tg_dec hms i2 j2).2.1
                exact (IH _ hdec).2.2.1 m i (j + 1) p2 ei ej c94 c95 _ hM (by omega) (by omega) (by omega) (by omega) (by omega) (by intro z; have z1 := stI z; exact ⟨by omega, (z1.2 h3).1, by rw [← hei]; exact (z1.2 h3).2⟩) (by intro z; have z1 := stJ z; rw [e5]; exact ⟨(z1.1 h4).1, by rw [(z1.1 h4).2.1]; omega, (z1.1 h4).2.2⟩) (by intro z; exact Or.inr (Or.inr ⟨j.toInt + 1, by omega, ((stJ z).1 h4).1, ((stJ z).1 h4).2.1.symm⟩)) (by omega) (Or.inl (by omega)) ⟨_, dd, hr2, by rw [e5]; exact (tg_le hd9 i2 j2).2.1, by have z := hl2; rw [if_neg h3, if_pos h4] at z; rw [e5]; exact z⟩ (tI_up hx2 (by omega)) rfl
            · skip
              have h3 : ei.toInt = p2.toInt := h3
              have e6 : (i + 1).toInt = i.toInt + 1 := by have w := i_addc (x := i) (y := 1) 1 rfl (by omega) (by omega); omega
              refine hs (f := dm_iinc 164 4 1) (lv' := [(4, .int (i + 1)), (6, .long p2), (10, .long ej), (8, .long ei), (3, .int m), (5, .int j), (0, .ref 68), (1, .int a), (2, .int b)]) rfl rfl ?_
              refine hs (f := dm_lld 166 10) rfl rfl ?_
              refine hs (f := dm_lld 168 6) rfl rfl ?_
              refine g_lc_ne (x := ej) (y := p2) (m := 169) (n := 172) (tt := 175) rfl rfl (fun h7 => ?_) (fun h7 => ?_)
              · skip
                have h7 : ¬ ej.toInt = p2.toInt := h7
                refine hs (f := dm_goto 21) rfl rfl ?_
                have hdec : (rA (q.2.2.1 73) (a.toInt + 1) - (i + 1).toInt).toNat + (rA (q.2.2.1 73) (b.toInt + 1) - j.toInt).toNat < nn := by rw [e6]; exact (tg_dec hms i2 j2).1
                exact (IH _ hdec).2.1 m (i + 1) j p2 ei ej c94 c95 _ hM (by omega) (by omega) (by omega) (by omega) (by omega) (by intro z; have z1 := stI z; rw [e6]; exact ⟨(z1.1 h3).1, by rw [(z1.1 h3).2.1]; omega, (z1.1 h3).2.2⟩) (by intro z; have z1 := stJ z; exact ⟨by omega, (z1.2 h7).1, by rw [← hej]; exact (z1.2 h7).2⟩) (by intro z; exact Or.inr (Or.inl ⟨i.toInt + 1, by omega, ((stI z).1 h3).1, ((stI z).1 h3).2.1.symm⟩)) (by omega) (Or.inl (by omega)) ⟨_, dd, hr2, by rw [e6]; exact (tg_le hd9 i2 j2).1, by have z := hl2; rw [if_pos h3, if_neg h7] at z; rw [e6]; exact z⟩ (tI_up hx2 (by omega)) rfl
              · skip
                have h7 : ej.toInt = p2.toInt := h7
                have e8 : (j + 1).toInt = j.toInt + 1 := by have w := i_addc (x := j) (y := 1) 1 rfl (by omega) (by omega); omega
                refine hs (f := dm_iinc 175 5 1) (lv' := [(5, .int (j + 1)), (4, .int (i + 1)), (6, .long p2), (10, .long ej), (8, .long ei), (3, .int m), (0, .ref 68), (1, .int a), (2, .int b)]) rfl rfl ?_
                refine hs (f := dm_goto 21) rfl rfl ?_
                have hdec : (rA (q.2.2.1 73) (a.toInt + 1) - (i + 1).toInt).toNat + (rA (q.2.2.1 73) (b.toInt + 1) - (j + 1).toInt).toNat < nn := by rw [e6, e8]; exact (tg_dec hms i2 j2).2.2
                exact (IH _ hdec).2.2.2 m (i + 1) (j + 1) p2 ei ej c94 c95 _ hM (by omega) (by omega) (by omega) (by omega) (by omega) (by intro z; have z1 := stI z; rw [e6]; exact ⟨(z1.1 h3).1, by rw [(z1.1 h3).2.1]; omega, (z1.1 h3).2.2⟩) (by intro z; have z1 := stJ z; rw [e8]; exact ⟨(z1.1 h7).1, by rw [(z1.1 h7).2.1]; omega, (z1.1 h7).2.2⟩) (by intro z; exact Or.inr (Or.inl ⟨i.toInt + 1, by omega, ((stI z).1 h3).1, ((stI z).1 h3).2.1.symm⟩)) (by omega) (Or.inl (by omega)) ⟨_, dd, hr2, by rw [e6, e8]; exact (tg_le hd9 i2 j2).2.2, by have z := hl2; rw [if_pos h3, if_pos h7] at z; rw [e6]; rw [e8]; exact z⟩ (tI_up hx2 (by omega)) rfl
          have j134 : ∀ (m : Int32) (c94 : Nat → Int64) (c95 : Nat → Int32) (ei ej : Int64) (M : dm_Mem), Rm X (sA (sB q 94 c94) 95 c95) M → (1 ≤ m.toInt ∧ m.toInt ≤ (i.toInt - rA (q.2.2.1 73) a.toInt) + (j.toInt - rA (q.2.2.1 73) b.toInt) + 1) → (rowL c94 c95 m.toInt (layL l p (mxF ((q.2.2.1 70) i.toInt.toNat) ((q.2.2.1 70) j.toInt.toNat)))) → (tI (q.2.2.2 69) (rA (q.2.2.1 73) a.toInt) (rA (q.2.2.1 73) (a.toInt + 1)) (rA (q.2.2.1 73) b.toInt) (rA (q.2.2.1 73) (b.toInt + 1)) c94 m.toInt (p.toInt + 1)) → (ei = eF (q.2.2.2 69) i.toInt (rA (q.2.2.1 73) (a.toInt + 1))) → (ej = eF (q.2.2.2 69) j.toInt (rA (q.2.2.1 73) (b.toInt + 1))) → hG 1 cd_163 134 [(8, .long ei), (3, .int m), (6, .long p), (5, .int j), (4, .int i), (0, .ref 68), (1, .int a), (2, .int b)] [.long ej] M (fun r M' => r = none ∧ ∃ (n : Int32) (b92 b94 : Nat → Int64) (b93 b95 : Nat → Int32), wS b92 n.toInt ∧ n.toInt ≤ (rA (q.2.2.1 73) (a.toInt + 1) - rA (q.2.2.1 73) a.toInt) + (rA (q.2.2.1 73) (b.toInt + 1) - rA (q.2.2.1 73) b.toInt) ∧ rowL b92 b93 n.toInt (tgL (q.2.2.2 69) (q.2.2.1 70) (rA (q.2.2.1 73) (a.toInt + 1)) (rA (q.2.2.1 73) (b.toInt + 1)) ((rA (q.2.2.1 73) (a.toInt + 1) - rA (q.2.2.1 73) a.toInt).toNat + (rA (q.2.2.1 73) (b.toInt + 1) - rA (q.2.2.1 73) b.toInt).toNat) (rA (q.2.2.1 73) a.toInt) (rA (q.2.2.1 73) b.toInt) 0 []) ∧ (∀ (i : Nat) (g : Int), dy i g → flat (seg (q.2.2.2 69) (rA (q.2.2.1 73) a.toInt)) (rA (q.2.2.1 73) (a.toInt + 1) - rA (q.2.2.1 73) a.toInt) g (2 ^ i) → flat (seg (q.2.2.2 69) (rA (q.2.2.1 73) b.toInt)) (rA (q.2.2.1 73) (b.toInt + 1) - rA (q.2.2.1 73) b.toInt) g (2 ^ i) → flat b92 n.toInt g (2 ^ i)) ∧ Rm X (sA (sA (sB (sB (sF q 29 n) 92 b92) 94 b94) 93 b93) 95 b95) M') := by
            intro m c94 c95 ei ej M hM m0 hr2 hx2 hei hej
            refine hs (f := dm_lst 136 10) (lv' := [(10, .long ej), (8, .long ei), (3, .int m), (6, .long p), (5, .int j), (4, .int i), (0, .ref 68), (1, .int a), (2, .int b)]) rfl rfl ?_
            refine hs (f := dm_lld 138 8) rfl rfl ?_
            refine hs (f := dm_lld 140 10) rfl rfl ?_
            refine g_lc_ge (x := ei) (y := ej) (m := 141) (n := 144) (tt := 149) rfl rfl (fun h9 => ?_) (fun h9 => ?_)
            · skip
              have h9 : ei.toInt ≥ ej.toInt := h9
              refine hs (f := dm_lld 151 10) rfl rfl ?_
              exact j151 m c94 c95 ei ej ej _ hM m0 hr2 hx2 hei hej (by rw [← hei, ← hej]; unfold mnF; rw [if_neg (by omega)])
            · skip
              have h9 : ei.toInt < ej.toInt := h9
              refine hs (f := dm_lld 146 8) rfl rfl ?_
              refine hs (f := dm_goto 151) rfl rfl ?_
              exact j151 m c94 c95 ei ej ei _ hM m0 hr2 hx2 hei hej (by rw [← hei, ← hej]; unfold mnF; rw [if_pos (by omega)])
          have j102 : ∀ (m : Int32) (c94 : Nat → Int64) (c95 : Nat → Int32) (ei : Int64) (M : dm_Mem), Rm X (sA (sB q 94 c94) 95 c95) M → (1 ≤ m.toInt ∧ m.toInt ≤ (i.toInt - rA (q.2.2.1 73) a.toInt) + (j.toInt - rA (q.2.2.1 73) b.toInt) + 1) → (rowL c94 c95 m.toInt (layL l p (mxF ((q.2.2.1 70) i.toInt.toNat) ((q.2.2.1 70) j.toInt.toNat)))) → (tI (q.2.2.2 69) (rA (q.2.2.1 73) a.toInt) (rA (q.2.2.1 73) (a.toInt + 1)) (rA (q.2.2.1 73) b.toInt) (rA (q.2.2.1 73) (b.toInt + 1)) c94 m.toInt (p.toInt + 1)) → (ei = eF (q.2.2.2 69) i.toInt (rA (q.2.2.1 73) (a.toInt + 1))) → hG 1 cd_163 102 [(3, .int m), (6, .long p), (5, .int j), (4, .int i), (0, .ref 68), (1, .int a), (2, .int b)] [.long ei] M (fun r M' => r = none ∧ ∃ (n : Int32) (b92 b94 : Nat → Int64) (b93 b95 : Nat → Int32), wS b92 n.toInt ∧ n.toInt ≤ (rA (q.2.2.1 73) (a.toInt + 1) - rA (q.2.2.1 73) a.toInt) + (rA (q.2.2.1 73) (b.toInt + 1) - rA (q.2.2.1 73) b.toInt) ∧ rowL b92 b93 n.toInt (tgL (q.2.2.2 69) (q.2.2.1 70) (rA (q.2.2.1 73) (a.toInt + 1)) (rA (q.2.2.1 73) (b.toInt + 1)) ((rA (q.2.2.1 73) (a.toInt + 1) - rA (q.2.2.1 73) a.toInt).toNat + (rA (q.2.2.1 73) (b.toInt + 1) - rA (q.2.2.1 73) b.toInt).toNat) (rA (q.2.2.1 73) a.toInt) (rA (q.2.2.1 73) b.toInt) 0 []) ∧ (∀ (i : Nat) (g : Int), dy i g → flat (seg (q.2.2.2 69) (rA (q.2.2.1 73) a.toInt)) (rA (q.2.2.1 73) (a.toInt + 1) - rA (q.2.2.1 73) a.toInt) g (2 ^ i) → flat (seg (q.2.2.2 69) (rA (q.2.2.1 73) b.toInt)) (rA (q.2.2.1 73) (b.toInt + 1) - rA (q.2.2.1 73) b.toInt) g (2 ^ i) → flat b92 n.toInt g (2 ^ i)) ∧ Rm X (sA (sA (sB (sB (sF q 29 n) 92 b92) 94 b94) 93 b93) 95 b95) M') := by
            intro m c94 c95 ei M hM m0 hr2 hx2 hei
            refine hs (f := dm_lst 104 8) (lv' := [(8, .long ei), (3, .int m), (6, .long p), (5, .int j), (4, .int i), (0, .ref 68), (1, .int a), (2, .int b)]) rfl rfl ?_
            refine hs (f := dm_ild 106 5) rfl rfl ?_
            refine hs (f := dm_push 107 (.int 1)) rfl rfl ?_
            have e10 : (j + (1 : Int32)).toInt = j.toInt + 1 := by have w := i_addc (x := j) (y := (1 : Int32)) 1 rfl (by omega) (by omega); omega
            refine hs (f := dm_ii 108 (fun x y => x + y)) (st' := [.int (j + (1 : Int32))]) rfl rfl ?_
            refine hs (f := dm_ald 109 0) rfl rfl ?_
            refine r_geta (c := 70) rfl hM rfl ?_
            refine hs (f := dm_ild 113 2) rfl rfl ?_
            refine hs (f := dm_push 114 (.int 1)) rfl rfl ?_
            have e11 : (b + (1 : Int32)).toInt = b.toInt + 1 := by have w := i_addc (x := b) (y := (1 : Int32)) 1 rfl (by omega) (by omega); omega
            refine hs (f := dm_ii 115 (fun x y => x + y)) (st' := [.int (b + (1 : Int32)), .ref 73, .int (j + (1 : Int32))]) rfl rfl ?_
            refine r_iald (L := 1001) (i := (b + (1 : Int32))) ((q.2.2.1 73) (b + (1 : Int32)).toInt.toNat) rfl hM rfl (by omega) rfl ?_
            generalize g13 : (q.2.2.1 73) (b + (1 : Int32)).toInt.toNat = v12
            have x14 : v12.toInt = rA (q.2.2.1 73) (b.toInt + 1) := rA_of (i := (b + (1 : Int32))) g13 e11
            refine g_ic_ge (n := 119) (tt := 131) rfl (fun h15 => ?_) (fun h15 => ?_)
            · skip
              have h15 : (j + (1 : Int32)).toInt ≥ v12.toInt := h15
              refine hs (f := dm_push 134 (.long 1152921504606846976)) rfl rfl ?_
              exact j134 m c94 c95 ei (1152921504606846976 : Int64) _ hM m0 hr2 hx2 hei (by unfold eF; rw [if_neg (by omega)])
            · skip
              have h15 : (j + (1 : Int32)).toInt < v12.toInt := h15
              refine hs (f := dm_ald 120 0) rfl rfl ?_
              refine r_geta (c := 66) rfl hM rfl ?_
              refine hs (f := dm_ild 125 5) rfl rfl ?_
              refine hs (f := dm_push 126 (.int 1)) rfl rfl ?_
              have e16 : (j + (1 : Int32)).toInt = j.toInt + 1 := by have w := i_addc (x := j) (y := (1 : Int32)) 1 rfl (by omega) (by omega); omega
              refine hs (f := dm_ii 127 (fun x y => x + y)) (st' := [.int (j + (1 : Int32)), .ref 69]) rfl rfl ?_
              refine r_lald (L := 24000) (i := (j + (1 : Int32))) ((q.2.2.2 69) (j + (1 : Int32)).toInt.toNat) rfl hM rfl (by omega) rfl ?_
              generalize g18 : (q.2.2.2 69) (j + (1 : Int32)).toInt.toNat = v17
              have x19 : v17.toInt = rB (q.2.2.2 69) (j.toInt + 1) := rB_of (i := (j + (1 : Int32))) g18 e16
              refine hs (f := dm_goto 134) rfl rfl ?_
              exact j134 m c94 c95 ei v17 _ hM m0 hr2 hx2 hei (by rw [← g18, e16]; unfold eF; rw [if_pos (by omega)])
          have j71 : ∀ (m : Int32) (c94 : Nat → Int64) (c95 : Nat → Int32) (M : dm_Mem), Rm X (sA (sB q 94 c94) 95 c95) M → (1 ≤ m.toInt ∧ m.toInt ≤ (i.toInt - rA (q.2.2.1 73) a.toInt) + (j.toInt - rA (q.2.2.1 73) b.toInt) + 1) → (rowL c94 c95 m.toInt (layL l p (mxF ((q.2.2.1 70) i.toInt.toNat) ((q.2.2.1 70) j.toInt.toNat)))) → (tI (q.2.2.2 69) (rA (q.2.2.1 73) a.toInt) (rA (q.2.2.1 73) (a.toInt + 1)) (rA (q.2.2.1 73) b.toInt) (rA (q.2.2.1 73) (b.toInt + 1)) c94 m.toInt (p.toInt + 1)) → hG 1 cd_163 71 [(6, .long p), (5, .int j), (4, .int i), (3, .int n), (0, .ref 68), (1, .int a), (2, .int b)] [.int m] M (fun r M' => r = none ∧ ∃ (n : Int32) (b92 b94 : Nat → Int64) (b93 b95 : Nat → Int32), wS b92 n.toInt ∧ n.toInt ≤ (rA (q.2.2.1 73) (a.toInt + 1) - rA (q.2.2.1 73) a.toInt) + (rA (q.2.2.1 73) (b.toInt + 1) - rA (q.2.2.1 73) b.toInt) ∧ rowL b92 b93 n.toInt (tgL (q.2.2.2 69) (q.2.2.1 70) (rA (q.2.2.1 73) (a.toInt + 1)) (rA (q.2.2.1 73) (b.toInt + 1)) ((rA (q.2.2.1 73) (a.toInt + 1) - rA (q.2.2.1 73) a.toInt).toNat + (rA (q.2.2.1 73) (b.toInt + 1) - rA (q.2.2.1 73) b.toInt).toNat) (rA (q.2.2.1 73) a.toInt) (rA (q.2.2.1 73) b.toInt) 0 []) ∧ (∀ (i : Nat) (g : Int), dy i g → flat (seg (q.2.2.2 69) (rA (q.2.2.1 73) a.toInt)) (rA (q.2.2.1 73) (a.toInt + 1) - rA (q.2.2.1 73) a.toInt) g (2 ^ i) → flat (seg (q.2.2.2 69) (rA (q.2.2.1 73) b.toInt)) (rA (q.2.2.1 73) (b.toInt + 1) - rA (q.2.2.1 73) b.toInt) g (2 ^ i) → flat b92 n.toInt g (2 ^ i)) ∧ Rm X (sA (sA (sB (sB (sF q 29 n) 92 b92) 94 b94) 93 b93) 95 b95) M') := by
            intro m c94 c95 M hM m0 hr2 hx2
            refine hs (f := dm_ist 72 3) (lv' := [(3, .int m), (6, .long p), (5, .int j), (4, .int i), (0, .ref 68), (1, .int a), (2, .int b)]) rfl rfl ?_
            refine hs (f := dm_ild 74 4) rfl rfl ?_
            refine hs (f := dm_push 75 (.int 1)) rfl rfl ?_
            have e20 : (i + (1 : Int32)).toInt = i.toInt + 1 := by have w := i_addc (x := i) (y := (1 : Int32)) 1 rfl (by omega) (by omega); omega
            refine hs (f := dm_ii 76 (fun x y => x + y)) (st' := [.int (i + (1 : Int32))]) rfl rfl ?_
            refine hs (f := dm_ald 77 0) rfl rfl ?_
            refine r_geta (c := 70) rfl hM rfl ?_
            refine hs (f := dm_ild 81 1) rfl rfl ?_
            refine hs (f := dm_push 82 (.int 1)) rfl rfl ?_
            have e21 : (a + (1 : Int32)).toInt = a.toInt + 1 := by have w := i_addc (x := a) (y := (1 : Int32)) 1 rfl (by omega) (by omega); omega
            refine hs (f := dm_ii 83 (fun x y => x + y)) (st' := [.int (a + (1 : Int32)), .ref 73, .int (i + (1 : Int32))]) rfl rfl ?_
            refine r_iald (L := 1001) (i := (a + (1 : Int32))) ((q.2.2.1 73) (a + (1 : Int32)).toInt.toNat) rfl hM rfl (by omega) rfl ?_
            generalize g23 : (q.2.2.1 73) (a + (1 : Int32)).toInt.toNat = v22
            have x24 : v22.toInt = rA (q.2.2.1 73) (a.toInt + 1) := rA_of (i := (a + (1 : Int32))) g23 e21
            refine g_ic_ge (n := 87) (tt := 99) rfl (fun h25 => ?_) (fun h25 => ?_)
            · skip
              have h25 : (i + (1 : Int32)).toInt ≥ v22.toInt := h25
              refine hs (f := dm_push 102 (.long 1152921504606846976)) rfl rfl ?_
              exact j102 m c94 c95 (1152921504606846976 : Int64) _ hM m0 hr2 hx2 (by unfold eF; rw [if_neg (by omega)])
            · skip
              have h25 : (i + (1 : Int32)).toInt < v22.toInt := h25
              refine hs (f := dm_ald 88 0) rfl rfl ?_
              refine r_geta (c := 66) rfl hM rfl ?_
              refine hs (f := dm_ild 93 4) rfl rfl ?_
              refine hs (f := dm_push 94 (.int 1)) rfl rfl ?_
              have e26 : (i + (1 : Int32)).toInt = i.toInt + 1 := by have w := i_addc (x := i) (y := (1 : Int32)) 1 rfl (by omega) (by omega); omega
              refine hs (f := dm_ii 95 (fun x y => x + y)) (st' := [.int (i + (1 : Int32)), .ref 69]) rfl rfl ?_
              refine r_lald (L := 24000) (i := (i + (1 : Int32))) ((q.2.2.2 69) (i + (1 : Int32)).toInt.toNat) rfl hM rfl (by omega) rfl ?_
              generalize g28 : (q.2.2.2 69) (i + (1 : Int32)).toInt.toNat = v27
              have x29 : v27.toInt = rB (q.2.2.2 69) (i.toInt + 1) := rB_of (i := (i + (1 : Int32))) g28 e26
              refine hs (f := dm_goto 102) rfl rfl ?_
              exact j102 m c94 c95 v27 _ hM m0 hr2 hx2 (by rw [← g28, e26]; unfold eF; rw [if_pos (by omega)])
          have j68 : ∀ (v : Int32) (M : dm_Mem), Rm X (sA (sB q 94 b94) 95 b95) M → (v = mxF ((q.2.2.1 70) i.toInt.toNat) ((q.2.2.1 70) j.toInt.toNat)) → hG 1 cd_163 68 [(6, .long p), (5, .int j), (4, .int i), (3, .int n), (0, .ref 68), (1, .int a), (2, .int b)] [.int v, .long p, .int n, .ref 68] M (fun r M' => r = none ∧ ∃ (n : Int32) (b92 b94 : Nat → Int64) (b93 b95 : Nat → Int32), wS b92 n.toInt ∧ n.toInt ≤ (rA (q.2.2.1 73) (a.toInt + 1) - rA (q.2.2.1 73) a.toInt) + (rA (q.2.2.1 73) (b.toInt + 1) - rA (q.2.2.1 73) b.toInt) ∧ rowL b92 b93 n.toInt (tgL (q.2.2.2 69) (q.2.2.1 70) (rA (q.2.2.1 73) (a.toInt + 1)) (rA (q.2.2.1 73) (b.toInt + 1)) ((rA (q.2.2.1 73) (a.toInt + 1) - rA (q.2.2.1 73) a.toInt).toNat + (rA (q.2.2.1 73) (b.toInt + 1) - rA (q.2.2.1 73) b.toInt).toNat) (rA (q.2.2.1 73) a.toInt) (rA (q.2.2.1 73) b.toInt) 0 []) ∧ (∀ (i : Nat) (g : Int), dy i g → flat (seg (q.2.2.2 69) (rA (q.2.2.1 73) a.toInt)) (rA (q.2.2.1 73) (a.toInt + 1) - rA (q.2.2.1 73) a.toInt) g (2 ^ i) → flat (seg (q.2.2.2 69) (rA (q.2.2.1 73) b.toInt)) (rA (q.2.2.1 73) (b.toInt + 1) - rA (q.2.2.1 73) b.toInt) g (2 ^ i) → flat b92 n.toInt g (2 ^ i)) ∧ Rm X (sA (sA (sB (sB (sF q 29 n) 92 b92) 94 b94) 93 b93) 95 b95) M') := by
            intro v M hM hv
            refine r_inv rfl hM rfl (as := [.ref 68, .int n, .long p, .int v]) rfl (Nat.le_of_ble_eq_true rfl) (hT_mono (by decide) (r_148 hM n p v (by omega) (by omega)) (fun r1 M30 w => ?_))
            rcases w with ⟨rfl, rfl, un, uv⟩ | ⟨rfl, uv, hM30⟩
            · skip
              have uv : rA b95 (n.toInt - 1) = v.toInt := uv
              exact j71 n b94 b95 _ hM (by omega) (by rw [← hv, rowL_skip hrw un uv]; exact hrw) (tI_up hx (by omega))
            · skip
              have uv : 0 < n.toInt → ¬ rA b95 (n.toInt - 1) = v.toInt := uv
              replace hM30 := rm_to (q' := (sA (sB q 94 (vp_updL b94 n.toInt.toNat p)) 95 (upd b95 n.toInt.toNat v))) hM30 (Eq.trans (congrArg (fun z => sA z 95 (upd b95 n.toInt.toNat v)) (show sB (sA (sB q 94 b94) 95 b95) 94 (vp_updL b94 n.toInt.toNat p) = (sA (sB q 94 (vp_updL b94 n.toInt.toNat p)) 95 b95) from (congrArg (fun z => (sA z 95 b95)) (show sB (sB q 94 b94) 94 (vp_updL b94 n.toInt.toNat p) = (sB q 94 (vp_updL b94 n.toInt.toNat p)) from sB_sB)))) (show sA (sA (sB q 94 (vp_updL b94 n.toInt.toNat p)) 95 b95) 95 (upd b95 n.toInt.toNat v) = (sA (sB q 94 (vp_updL b94 n.toInt.toNat p)) 95 (upd b95 n.toInt.toNat v)) from (show sA (sA (sB q 94 (vp_updL b94 n.toInt.toNat p)) 95 b95) 95 (upd b95 n.toInt.toNat v) = (sA (sB q 94 (vp_updL b94 n.toInt.toNat p)) 95 (upd b95 n.toInt.toNat v)) from sA_sA)))
              have e31 : (n + 1).toInt = n.toInt + 1 := i_addc 1 rfl (by omega) (by omega)
              exact j71 (n + 1) (vp_updL b94 n.toInt.toNat p) (upd b95 n.toInt.toNat v) _ hM30 (by omega) (by rw [← hv, e31]; exact rowL_lay hrw (Int.toNat_of_nonneg n0.1).symm uv) (by rw [e31]; exact tI_lay hx (Int.toNat_of_nonneg n0.1).symm (Int.le_refl _) (Int.lt_add_one_of_le (Int.le_refl _)) (fun z => n1.elim (fun y => absurd y (by rw [z]; decide)) id) hpa)
          refine hs (f := dm_ald 31 0) rfl rfl ?_
          refine hs (f := dm_ild 32 3) rfl rfl ?_
          refine hs (f := dm_lld 34 6) rfl rfl ?_
          refine hs (f := dm_ald 35 0) rfl rfl ?_
          refine r_geta (c := 67) rfl hM rfl ?_
          refine hs (f := dm_ild 40 4) rfl rfl ?_
          refine r_iald (L := 24000) (i := i) ((q.2.2.1 70) i.toInt.toNat) rfl hM rfl (by omega) rfl ?_
          generalize g33 : (q.2.2.1 70) i.toInt.toNat = v32
          have x34 : v32.toInt = rA (q.2.2.1 70) i.toInt := rA_of (i := i) g33 rfl
          refine hs (f := dm_ald 42 0) rfl rfl ?_
          refine r_geta (c := 67) rfl hM rfl ?_
          refine hs (f := dm_ild 47 5) rfl rfl ?_
          refine r_iald (L := 24000) (i := j) ((q.2.2.1 70) j.toInt.toNat) rfl hM rfl (by omega) rfl ?_
          generalize g36 : (q.2.2.1 70) j.toInt.toNat = v35
          have x37 : v35.toInt = rA (q.2.2.1 70) j.toInt := rA_of (i := j) g36 rfl
          refine g_ic_le (n := 51) (tt := 61) rfl (fun h38 => ?_) (fun h38 => ?_)
          · skip
            have h38 : v32.toInt ≤ v35.toInt := h38
            refine hs (f := dm_ald 62 0) rfl rfl ?_
            refine r_geta (c := 67) rfl hM rfl ?_
            refine hs (f := dm_ild 67 5) rfl rfl ?_
            refine r_iald (L := 24000) (i := j) ((q.2.2.1 70) j.toInt.toNat) rfl hM rfl (by omega) rfl ?_
            generalize g40 : (q.2.2.1 70) j.toInt.toNat = v39
            have x41 : v39.toInt = rA (q.2.2.1 70) j.toInt := rA_of (i := j) g40 rfl
            exact j68 v39 _ hM (by rw [← g40]; exact (mx_r (by omega)).symm)
          · skip
            have h38 : v32.toInt > v35.toInt := h38
            refine hs (f := dm_ald 52 0) rfl rfl ?_
            refine r_geta (c := 67) rfl hM rfl ?_
            refine hs (f := dm_ild 57 4) rfl rfl ?_
            refine r_iald (L := 24000) (i := i) ((q.2.2.1 70) i.toInt.toNat) rfl hM rfl (by omega) rfl ?_
            generalize g43 : (q.2.2.1 70) i.toInt.toNat = v42
            have x44 : v42.toInt = rA (q.2.2.1 70) i.toInt := rA_of (i := i) g43 rfl
            refine hs (f := dm_goto 68) rfl rfl ?_
            exact j68 v42 _ hM (by rw [← g43]; exact (mx_l (by omega)).symm)
      · skip
        intro n i j p e8 e10 b94 b95 M hM i0 i1 j0 j1 p0 hpi hpj hpa n0 n1 hl hx hms
        refine hs (f := dm_lld 23 6) rfl rfl ?_
        refine hs (f := dm_push 26 (.long 1152921504606846976)) rfl rfl ?_
        refine g_lc_ge (x := p) (y := (1152921504606846976 : Int64)) (m := 27) (n := 30) (tt := 178) rfl rfl (fun h45 => ?_) (fun h45 => ?_)
        · skip
          have h45 : p.toInt ≥ 1152921504606846976 := h45
          refine hs (f := dm_ald 179 0) rfl rfl ?_
          refine hs (f := dm_ild 180 3) rfl rfl ?_
          obtain ⟨l, d9, hrw, hd9, hl2⟩ := hl
          rw [tg_end (by omega)] at hl2
          rw [hl2] at hrw
          refine r_inv rfl hM rfl (as := [.ref 68, .int n]) rfl (Nat.le_of_ble_eq_true rfl) (hT_mono (by decide) (r_149 hM n (by omega) (by omega)) (fun r1 M46 w => ?_))
          obtain ⟨rfl, b1, b2, hb, hM46⟩ := w
          replace hM46 := rm_to (q' := (sA (sA (sB (sB (sF q 29 n) 92 b1) 94 b94) 93 b2) 95 b95)) hM46 (Eq.trans (congrArg (fun z => sA z 93 b2) (Eq.trans (congrArg (fun z => sB z 92 b1) (show sF (sA (sB q 94 b94) 95 b95) 29 n = (sA (sB (sF q 29 n) 94 b94) 95 b95) from (congrArg (fun z => (sA (sB z 94 b94) 95 b95)) (show sF q 29 n = (sF q 29 n) from rfl)))) (show sB (sA (sB (sF q 29 n) 94 b94) 95 b95) 92 b1 = (sA (sB (sB (sF q 29 n) 92 b1) 94 b94) 95 b95) from (congrArg (fun z => (sA z 95 b95)) (show sB (sB (sF q 29 n) 94 b94) 92 b1 = (sB (sB (sF q 29 n) 92 b1) 94 b94) from Eq.trans (show sB (sB (sF q 29 n) 94 b94) 92 b1 = sB (sB (sF q 29 n) 92 b1) 94 b94 from sB_cm (by decide)) (congrArg (fun z => sB z 94 b94) (show sB (sF q 29 n) 92 b1 = (sB (sF q 29 n) 92 b1) from rfl))))))) (show sA (sA (sB (sB (sF q 29 n) 92 b1) 94 b94) 95 b95) 93 b2 = (sA (sA (sB (sB (sF q 29 n) 92 b1) 94 b94) 93 b2) 95 b95) from (show sA (sA (sB (sB (sF q 29 n) 92 b1) 94 b94) 95 b95) 93 b2 = (sA (sA (sB (sB (sF q 29 n) 92 b1) 94 b94) 93 b2) 95 b95) from Eq.trans (show sA (sA (sB (sB (sF q 29 n) 92 b1) 94 b94) 95 b95) 93 b2 = sA (sA (sB (sB (sF q 29 n) 92 b1) 94 b94) 93 b2) 95 b95 from sA_cm (by decide)) (congrArg (fun z => sA z 95 b95) (show sA (sB (sB (sF q 29 n) 92 b1) 94 b94) 93 b2 = (sA (sB (sB (sF q 29 n) 92 b1) 94 b94) 93 b2) from rfl)))))
          exact hr (f := dm_vret) rfl rfl (⟨rfl, n, b1, b94, b2, b95, tI_wS (tI_up hx (by omega)) (by omega) (fun i i0 i1 => (hb i i0 i1).1), by omega, ⟨hrw.1, fun k z hk => by
                have hk2 := (List.getElem?_eq_some_iff.mp hk).1
                have hk3 := hrw.1
                have hb2 := hb k (by omega) (by omega)
                have hb3 := hrw.2 k z hk
                exact ⟨hb2.1.trans hb3.1, hb2.2.trans hb3.2⟩⟩, tI_flat (tI_up hx (by omega)) (fun i i0 i1 => (hb i i0 i1).1), hM46⟩)
        · skip
          have h45 : p.toInt < 1152921504606846976 := h45
          obtain ⟨i2, i3, i4⟩ := hpi (by omega)
          obtain ⟨j2, j3, j4⟩ := hpj (by omega)
          have hpa := hpa (by omega)
          obtain ⟨l, d9, hrw, hd9, hl2⟩ := hl
          obtain ⟨dd, rfl⟩ : ∃ dd, d9 = dd + 1 := ⟨d9 - 1, by omega⟩
          rw [tg_go (by omega)] at hl2
          have ega := eF_gt hwa i0 i2
          have egb := eF_gt hwb j0 j2
          have j151 : ∀ (m : Int32) (c94 : Nat → Int64) (c95 : Nat → Int32) (ei ej p2 : Int64) (M : dm_Mem), Rm X (sA (sB q 94 c94) 95 c95) M → (1 ≤ m.toInt ∧ m.toInt ≤ (i.toInt - rA (q.2.2.1 73) a.toInt) + (j.toInt - rA (q.2.2.1 73) b.toInt) + 1) → (rowL c94 c95 m.toInt (layL l p (mxF ((q.2.2.1 70) i.toInt.toNat) ((q.2.2.1 70) j.toInt.toNat)))) → (tI (q.2.2.2 69) (rA (q.2.2.1 73) a.toInt) (rA (q.2.2.1 73) (a.toInt + 1)) (rA (q.2.2.1 73) b.toInt) (rA (q.2.2.1 73) (b.toInt + 1)) c94 m.toInt (p.toInt + 1)) → (ei = eF (q.2.2.2 69) i.toInt (rA (q.2.2.1 73) (a.toInt + 1))) → (ej = eF (q.2.2.2 69) j.toInt (rA (q.2.2.1 73) (b.toInt + 1))) → (p2 = mnF (eF (q.2.2.2 69) i.toInt (rA (q.2.2.1 73) (a.toInt + 1))) (eF (q.2.2.2 69) j.toInt (rA (q.2.2.1 73) (b.toInt + 1)))) → hG 1 cd_163 151 [(10, .long ej), (8, .long ei), (3, .int m), (4, .int i), (6, .long p), (5, .int j), (0, .ref 68), (1, .int a), (2, .int b)] [.long p2] M (fun r M' => r = none ∧ ∃ (n : Int32) (b92 b94 : Nat → Int64) (b93 b95 : Nat → Int32), wS b92 n.toInt ∧ n.toInt ≤ (rA (q.2.2.1 73) (a.toInt + 1) - rA (q.2.2.1 73) a.toInt) + (rA (q.2.2.1 73) (b.toInt + 1) - rA (q.2.2.1 73) b.toInt) ∧ rowL b92 b93 n.toInt (tgL (q.2.2.2 69) (q.2.2.1 70) (rA (q.2.2.1 73) (a.toInt + 1)) (rA (q.2.2.1 73) (b.toInt + 1)) ((rA (q.2.2.1 73) (a.toInt + 1) - rA (q.2.2.1 73) a.toInt).toNat + (rA (q.2.2.1 73) (b.toInt + 1) - rA (q.2.2.1 73) b.toInt).toNat) (rA (q.2.2.1 73) a.toInt) (rA (q.2.2.1 73) b.toInt) 0 []) ∧ (∀ (i : Nat) (g : Int), dy i g → flat (seg (q.2.2.2 69) (rA (q.2.2.1 73) a.toInt)) (rA (q.2.2.1 73) (a.toInt + 1) - rA (q.2.2.1 73) a.toInt) g (2 ^ i) → flat (seg (q.2.2.2 69) (rA (q.2.2.1 73) b.toInt)) (rA (q.2.2.1 73) (b.toInt + 1) - rA (q.2.2.1 73) b.toInt) g (2 ^ i) → flat b92 n.toInt g (2 ^ i)) ∧ Rm X (sA (sA (sB (sB (sF q 29 n) 92 b92) 94 b94) 93 b93) 95 b95) M') := by
            intro m c94 c95 ei ej p2 M hM m0 hr2 hx2 hei hej hp2
            have hmn := mnF_int (eF (q.2.2.2 69) i.toInt (rA (q.2.2.1 73) (a.toInt + 1))) (eF (q.2.2.2 69) j.toInt (rA (q.2.2.1 73) (b.toInt + 1)))
            rw [← hei, ← hej] at hmn
            rw [← hei] at ega i4
            rw [← hej] at egb j4
            rw [← hei, ← hej] at hp2
            rw [← hp2] at hmn
            rw [← hei, ← hej, ← hp2] at hl2
            have stI : p2.toInt < 1152921504606846976 → _ := fun z => eF_step (p := p.toInt) (p2 := p2.toInt) hwa i0 i2 i3 (by omega) (by rw [← hei]; omega) z
            have stJ : p2.toInt < 1152921504606846976 → _ := fun z => eF_step (p := p.toInt) (p2 := p2.toInt) hwb j0 j2 j3 (by omega) (by rw [← hej]; omega) z
            rw [← hei] at stI
            rw [← hej] at stJ
            refine hs (f := dm_lst 153 6) (lv' := [(6, .long p2), (10, .long ej), (8, .long ei), (3, .int m), (4, .int i), (5, .int j), (0, .ref 68), (1, .int a), (2, .int b)]) rfl rfl ?_
            refine hs (f := dm_lld 155 8) rfl rfl ?_
            refine hs (f := dm_lld 157 6) rfl rfl ?_
            refine g_lc_ne (x := ei) (y := p2) (m := 158) (n := 161) (tt := 164) rfl rfl (fun h47 => ?_) (fun h47 => ?_)
            · skip
              have h47 : ¬ ei.toInt = p2.toInt := h47
              refine hs (f := dm_lld 166 10) rfl rfl ?_
              refine hs (f := dm_lld 168 6) rfl rfl ?_
              refine g_lc_ne (x := ej) (y := p2) (m := 169) (n := 172) (tt := 175) rfl rfl (fun h48 => ?_) (fun h48 => ?_)
              · skip
                have h48 : ¬ ej.toInt = p2.toInt := h48
                refine hs (f := dm_goto 21) rfl rfl ?_
                exfalso
                omega
              · skip
                have h48 : ej.toInt = p2.toInt := h48
                have e49 : (j + 1).toInt = j.toInt + 1 := by have w := i_addc (x := j) (y := 1) 1 rfl (by omega) (by omega); omega
                refine hs (f := dm_iinc 175 5 1) (lv' := [(5, .int (j + 1)), (6, .long p2), (10, .long ej), (8, .long ei), (3, .int m), (4, .int i), (0, .ref 68), (1, .int a), (2, .int b)]) rfl rfl ?_
                refine hs (f := dm_goto 21) rfl rfl ?_
                have hdec : (rA (q.2.2.1 73) (a.toInt + 1) - i.toInt).toNat + (rA (q.2.2.1 73) (b.toInt + 1) - (j + 1).toInt).toNat < nn := by rw [e49]; exact (tg_dec hms i2 j2).2.1
                exact (IH _ hdec).2.2.1 m i (j + 1) p2 ei ej c94 c95 _ hM (by omega) (by omega) (by omega) (by omega) (by omega) (by intro z; have z1 := stI z; exact ⟨by omega, (z1.2 h47).1, by rw [← hei]; exact (z1.2 h47).2⟩) (by intro z; have z1 := stJ z; rw [e49]; exact ⟨(z1.1 h48).1, by rw [(z1.1 h48).2.1]; omega, (z1.1 h48).2.2⟩) (by intro z; exact Or.inr (Or.inr ⟨j.toInt + 1, by omega, ((stJ z).1 h48).1, ((stJ z).1 h48).2.1.symm⟩)) (by omega) (Or.inl (by omega)) ⟨_, dd, hr2, by rw [e49]; exact (tg_le hd9 i2 j2).2.1, by have z := hl2; rw [if_neg h47, if_pos h48] at z; rw [e49]; exact z⟩ (tI_up hx2 (by omega)) rfl
            · skip
              have h47 : ei.toInt = p2.toInt := h47
              have e50 : (i + 1).toInt = i.toInt + 1 := by have w := i_addc (x := i) (y := 1) 1 rfl (by omega) (by omega); omega
              refine hs (f := dm_iinc 164 4 1) (lv' := [(4, .int (i + 1)), (6, .long p2), (10, .long ej), (8, .long ei), (3, .int m), (5, .int j), (0, .ref 68), (1, .int a), (2, .int b)]) rfl rfl ?_
              refine hs (f := dm_lld 166 10) rfl rfl ?_
              refine hs (f := dm_lld 168 6) rfl rfl ?_
              refine g_lc_ne (x := ej) (y := p2) (m := 169) (n := 172) (tt := 175) rfl rfl (fun h51 => ?_) (fun h51 => ?_)
              · skip
                have h51 : ¬ ej.toInt = p2.toInt := h51
                refine hs (f := dm_goto 21) rfl rfl ?_
                have hdec : (rA (q.2.2.1 73) (a.toInt + 1) - (i + 1).toInt).toNat + (rA (q.2.2.1 73) (b.toInt + 1) - j.toInt).toNat < nn := by rw [e50]; exact (tg_dec hms i2 j2).1
                exact (IH _ hdec).2.1 m (i + 1) j p2 ei ej c94 c95 _ hM (by omega) (by omega) (by omega) (by omega) (by omega) (by intro z; have z1 := stI z; rw [e50]; exact ⟨(z1.1 h47).1, by rw [(z1.1 h47).2.1]; omega, (z1.1 h47).2.2⟩) (by intro z; have z1 := stJ z; exact ⟨by omega, (z1.2 h51).1, by rw [← hej]; exact (z1.2 h51).2⟩) (by intro z; exact Or.inr (Or.inl ⟨i.toInt + 1, by omega, ((stI z).1 h47).1, ((stI z).1 h47).2.1.symm⟩)) (by omega) (Or.inl (by omega)) ⟨_, dd, hr2, by rw [e50]; exact (tg_le hd9 i2 j2).1, by have z := hl2; rw [if_pos h47, if_neg h51] at z; rw [e50]; exact z⟩ (tI_up hx2 (by omega)) rfl
              · skip
                have h51 : ej.toInt = p2.toInt := h51
                have e52 : (j + 1).toInt = j.toInt + 1 := by have w := i_addc (x := j) (y := 1) 1 rfl (by omega) (by omega); omega
                refine hs (f := dm_iinc 175 5 1) (lv' := [(5, .int (j + 1)), (4, .int (i + 1)), (6, .long p2), (10, .long ej), (8, .long ei), (3, .int m), (0, .ref 68), (1, .int a), (2, .int b)]) rfl rfl ?_
                refine hs (f := dm_goto 21) rfl rfl ?_
                have hdec : (rA (q.2.2.1 73) (a.toInt + 1) - (i + 1).toInt).toNat + (rA (q.2.2.1 73) (b.toInt + 1) - (j + 1).toInt).toNat < nn := by rw [e50, e52]; exact (tg_dec hms i2 j2).2.2
                exact (IH _ hdec).2.2.2 m (i + 1) (j + 1) p2 ei ej c94 c95 _ hM (by omega) (by omega) (by omega) (by omega) (by omega) (by intro z; have z1 := stI z; rw [e50]; exact ⟨(z1.1 h47).1, by rw [(z1.1 h47).2.1]; omega, (z1.1 h47).2.2⟩) (by intro z; have z1 := stJ z; rw [e52]; exact ⟨(z1.1 h51).1, by rw [(z1.1 h51).2.1]; omega, (z1.1 h51).2.2⟩) (by intro z; exact Or.inr (Or.inl ⟨i.toInt + 1, by omega, ((stI z).1 h47).1, ((stI z).1 h47).2.1.symm⟩)) (by omega) (Or.inl (by omega)) ⟨_, dd, hr2, by rw [e50, e52]; exact (tg_le hd9 i2 j2).2.2, by have z := hl2; rw [if_pos h47, if_pos h51] at z; rw [e50]; rw [e52]; exact z⟩ (tI_up hx2 (by omega)) rfl
          have j134 : ∀ (m : Int32) (c94 : Nat → Int64) (c95 : Nat → Int32) (ei ej : Int64) (M : dm_Mem), Rm X (sA (sB q 94 c94) 95 c95) M → (1 ≤ m.toInt ∧ m.toInt ≤ (i.toInt - rA (q.2.2.1 73) a.toInt) + (j.toInt - rA (q.2.2.1 73) b.toInt) + 1) → (rowL c94 c95 m.toInt (layL l p (mxF ((q.2.2.1 70) i.toInt.toNat) ((q.2.2.1 70) j.toInt.toNat)))) → (tI (q.2.2.2 69) (rA (q.2.2.1 73) a.toInt) (rA (q.2.2.1 73) (a.toInt + 1)) (rA (q.2.2.1 73) b.toInt) (rA (q.2.2.1 73) (b.toInt + 1)) c94 m.toInt (p.toInt + 1)) → (ei = eF (q.2.2.2 69) i.toInt (rA (q.2.2.1 73) (a.toInt + 1))) → (ej = eF (q.2.2.2 69) j.toInt (rA (q.2.2.1 73) (b.toInt + 1))) → hG 1 cd_163 134 [(8, .long ei), (3, .int m), (4, .int i), (6, .long p), (10, .long e10), (5, .int j), (0, .ref 68), (1, .int a), (2, .int b)] [.long ej] M (fun r M' => r = none ∧ ∃ (n : Int32) (b92 b94 : Nat → Int64) (b93 b95 : Nat → Int32), wS b92 n.toInt ∧ n.toInt ≤ (rA (q.2.2.1 73) (a.toInt + 1) - rA (q.2.2.1 73) a.toInt) + (rA (q.2.2.1 73) (b.toInt + 1) - rA (q.2.2.1 73) b.toInt) ∧ rowL b92 b93 n.toInt (tgL (q.2.2.2 69) (q.2.2.1 70) (rA (q.2.2.1 73) (a.toInt + 1)) (rA (q.2.2.1 73) (b.toInt + 1)) ((rA (q.2.2.1 73) (a.toInt + 1) - rA (q.2.2.1 73) a.toInt).toNat + (rA (q.2.2.1 73) (b.toInt + 1) - rA (q.2.2.1 73) b.toInt).toNat) (rA (q.2.2.1 73) a.toInt) (rA (q.2.2.1 73) b.toInt) 0 []) ∧ (∀ (i : Nat) (g : Int), dy i g → flat (seg (q.2.2.2 69) (rA (q.2.2.1 73) a.toInt)) (rA (q.2.2.1 73) (a.toInt + 1) - rA (q.2.2.1 73) a.toInt) g (2 ^ i) → flat (seg (q.2.2.2 69) (rA (q.2.2.1 73) b.toInt)) (rA (q.2.2.1 73) (b.toInt + 1) - rA (q.2.2.1 73) b.toInt) g (2 ^ i) → flat b92 n.toInt g (2 ^ i)) ∧ Rm X (sA (sA (sB (sB (sF q 29 n) 92 b92) 94 b94) 93 b93) 95 b95) M') := by
            intro m c94 c95 ei ej M hM m0 hr2 hx2 hei hej
            refine hs (f := dm_lst 136 10) (lv' := [(10, .long ej), (8, .long ei), (3, .int m), (4, .int i), (6, .long p), (5, .int j), (0, .ref 68), (1, .int a), (2, .int b)]) rfl rfl ?_
            refine hs (f := dm_lld 138 8) rfl rfl ?_
            refine hs (f := dm_lld 140 10) rfl rfl ?_
            refine g_lc_ge (x := ei) (y := ej) (m := 141) (n := 144) (tt := 149) rfl rfl (fun h53 => ?_) (fun h53 => ?_)
            · skip
              have h53 : ei.toInt ≥ ej.toInt := h53
              refine hs (f := dm_lld 151 10) rfl rfl ?_
              exact j151 m c94 c95 ei ej ej _ hM m0 hr2 hx2 hei hej (by rw [← hei, ← hej]; unfold mnF; rw [if_neg (by omega)])
            · skip
              have h53 : ei.toInt < ej.toInt := h53
              refine hs (f := dm_lld 146 8) rfl rfl ?_
              refine hs (f := dm_goto 151) rfl rfl ?_
              exact j151 m c94 c95 ei ej ei _ hM m0 hr2 hx2 hei hej (by rw [← hei, ← hej]; unfold mnF; rw [if_pos (by omega)])
          have j102 : ∀ (m : Int32) (c94 : Nat → Int64) (c95 : Nat → Int32) (ei : Int64) (M : dm_Mem), Rm X (sA (sB q 94 c94) 95 c95) M → (1 ≤ m.toInt ∧ m.toInt ≤ (i.toInt - rA (q.2.2.1 73) a.toInt) + (j.toInt - rA (q.2.2.1 73) b.toInt) + 1) → (rowL c94 c95 m.toInt (layL l p (mxF ((q.2.2.1 70) i.toInt.toNat) ((q.2.2.1 70) j.toInt.toNat)))) → (tI (q.2.2.2 69) (rA (q.2.2.1 73) a.toInt) (rA (q.2.2.1 73) (a.toInt + 1)) (rA (q.2.2.1 73) b.toInt) (rA (q.2.2.1 73) (b.toInt + 1)) c94 m.toInt (p.toInt + 1)) → (ei = eF (q.2.2.2 69) i.toInt (rA (q.2.2.1 73) (a.toInt + 1))) → hG 1 cd_163 102 [(3, .int m), (4, .int i), (6, .long p), (10, .long e10), (8, .long e8), (5, .int j), (0, .ref 68), (1, .int a), (2, .int b)] [.long ei] M (fun r M' => r = none ∧ ∃ (n : Int32) (b92 b94 : Nat → Int64) (b93 b95 : Nat → Int32), wS b92 n.toInt ∧ n.toInt ≤ (rA (q.2.2.1 73) (a.toInt + 1) - rA (q.2.2.1 73) a.toInt) + (rA (q.2.2.1 73) (b.toInt + 1) - rA (q.2.2.1 73) b.toInt) ∧ rowL b92 b93 n.toInt (tgL (q.2.2.2 69) (q.2.2.1 70) (rA (q.2.2.1 73) (a.toInt + 1)) (rA (q.2.2.1 73) (b.toInt + 1)) ((rA (q.2.2.1 73) (a.toInt + 1) - rA (q.2.2.1 73) a.toInt).toNat + (rA (q.2.2.1 73) (b.toInt + 1) - rA (q.2.2.1 73) b.toInt).toNat) (rA (q.2.2.1 73) a.toInt) (rA (q.2.2.1 73) b.toInt) 0 []) ∧ (∀ (i : Nat) (g : Int), dy i g → flat (seg (q.2.2.2 69) (rA (q.2.2.1 73) a.toInt)) (rA (q.2.2.1 73) (a.toInt + 1) - rA (q.2.2.1 73) a.toInt) g (2 ^ i) → flat (seg (q.2.2.2 69) (rA (q.2.2.1 73) b.toInt)) (rA (q.2.2.1 73) (b.toInt + 1) - rA (q.2.2.1 73) b.toInt) g (2 ^ i) → flat b92 n.toInt g (2 ^ i)) ∧ Rm X (sA (sA (sB (sB (sF q 29 n) 92 b92) 94 b94) 93 b93) 95 b95) M') := by
            intro m c94 c95 ei M hM m0 hr2 hx2 hei
            refine hs (f := dm_lst 104 8) (lv' := [(8, .long ei), (3, .int m), (4, .int i), (6, .long p), (10, .long e10), (5, .int j), (0, .ref 68), (1, .int a), (2, .int b)]) rfl rfl ?_
            refine hs (f := dm_ild 106 5) rfl rfl ?_
            refine hs (f := dm_push 107 (.int 1)) rfl rfl ?_
            have e54 : (j + (1 : Int32)).toInt = j.toInt + 1 := by have w := i_addc (x := j) (y := (1 : Int32)) 1 rfl (by omega) (by omega); omega
            refine hs (f := dm_ii 108 (fun x y => x + y)) (st' := [.int (j + (1 : Int32))]) rfl rfl ?_
            refine hs (f := dm_ald 109 0) rfl rfl ?_
            refine r_geta (c := 70) rfl hM rfl ?_
            refine hs (f := dm_ild 113 2) rfl rfl ?_
            refine hs (f := dm_push 114 (.int 1)) rfl rfl ?_
            have e55 : (b + (1 : Int32)).toInt = b.toInt + 1 := by have w := i_addc (x := b) (y := (1 : Int32)) 1 rfl (by omega) (by omega); omega
            refine hs (f := dm_ii 115 (fun x y => x + y)) (st' := [.int (b + (1 : Int32)), .ref 73, .int (j + (1 : Int32))]) rfl rfl ?_
            refine r_iald (L := 1001) (i := (b + (1 : Int32))) ((q.2.2.1 73) (b + (1 : Int32)).toInt.toNat) rfl hM rfl (by omega) rfl ?_
            generalize g57 : (q.2.2.1 73) (b + (1 : Int32)).toInt.toNat = v56
            have x58 : v56.toInt = rA (q.2.2.1 73) (b.toInt + 1) := rA_of (i := (b + (1 : Int32))) g57 e55
            refine g_ic_ge (n := 119) (tt := 131) rfl (fun h59 => ?_) (fun h59 => ?_)
            · skip
              have h59 : (j + (1 : Int32)).toInt ≥ v56.toInt := h59
              refine hs (f := dm_push 134 (.long 1152921504606846976)) rfl rfl ?_
              exact j134 m c94 c95 ei (1152921504606846976 : Int64) _ hM m0 hr2 hx2 hei (by unfold eF; rw [if_neg (by omega)])
            · skip
              have h59 : (j + (1 : Int32)).toInt < v56.toInt := h59
              refine hs (f := dm_ald 120 0) rfl rfl ?_
              refine r_geta (c := 66) rfl hM rfl ?_
              refine hs (f := dm_ild 125 5) rfl rfl ?_
              refine hs (f := dm_push 126 (.int 1)) rfl rfl ?_
              have e60 : (j + (1 : Int32)).toInt = j.toInt + 1 := by have w := i_addc (x := j) (y := (1 : Int32)) 1 rfl (by omega) (by omega); omega
              refine hs (f := dm_ii 127 (fun x y => x + y)) (st' := [.int (j + (1 : Int32)), .ref 69]) rfl rfl ?_
              refine r_lald (L := 24000) (i := (j + (1 : Int32))) ((q.2.2.2 69) (j + (1 : Int32)).toInt.toNat) rfl hM rfl (by omega) rfl ?_
              generalize g62 : (q.2.2.2 69) (j + (1 : Int32)).toInt.toNat = v61
              have x63 : v61.toInt = rB (q.2.2.2 69) (j.toInt + 1) := rB_of (i := (j + (1 : Int32))) g62 e60
              refine hs (f := dm_goto 134) rfl rfl ?_
              exact j134 m c94 c95 ei v61 _ hM m0 hr2 hx2 hei (by rw [← g62, e60]; unfold eF; rw [if_pos (by omega)])
          have j71 : ∀ (m : Int32) (c94 : Nat → Int64) (c95 : Nat → Int32) (M : dm_Mem), Rm X (sA (sB q 94 c94) 95 c95) M → (1 ≤ m.toInt ∧ m.toInt ≤ (i.toInt - rA (q.2.2.1 73) a.toInt) + (j.toInt - rA (q.2.2.1 73) b.toInt) + 1) → (rowL c94 c95 m.toInt (layL l p (mxF ((q.2.2.1 70) i.toInt.toNat) ((q.2.2.1 70) j.toInt.toNat)))) → (tI (q.2.2.2 69) (rA (q.2.2.1 73) a.toInt) (rA (q.2.2.1 73) (a.toInt + 1)) (rA (q.2.2.1 73) b.toInt) (rA (q.2.2.1 73) (b.toInt + 1)) c94 m.toInt (p.toInt + 1)) → hG 1 cd_163 71 [(4, .int i), (6, .long p), (10, .long e10), (8, .long e8), (3, .int n), (5, .int j), (0, .ref 68), (1, .int a), (2, .int b)] [.int m] M (fun r M' => r = none ∧ ∃ (n : Int32) (b92 b94 : Nat → Int64) (b93 b95 : Nat → Int32), wS b92 n.toInt ∧ n.toInt ≤ (rA (q.2.2.1 73) (a.toInt + 1) - rA (q.2.2.1 73) a.toInt) + (rA (q.2.2.1 73) (b.toInt + 1) - rA (q.2.2.1 73) b.toInt) ∧ rowL b92 b93 n.toInt (tgL (q.2.2.2 69) (q.2.2.1 70) (rA (q.2.2.1 73) (a.toInt + 1)) (rA (q.2.2.1 73) (b.toInt + 1)) ((rA (q.2.2.1 73) (a.toInt + 1) - rA (q.2.2.1 73) a.toInt).toNat + (rA (q.2.2.1 73) (b.toInt + 1) - rA (q.2.2.1 73) b.toInt).toNat) (rA (q.2.2.1 73) a.toInt) (rA (q.2.2.1 73) b.toInt) 0 []) ∧ (∀ (i : Nat) (g : Int), dy i g → flat (seg (q.2.2.2 69) (rA (q.2.2.1 73) a.toInt)) (rA (q.2.2.1 73) (a.toInt + 1) - rA (q.2.2.1 73) a.toInt) g (2 ^ i) → flat (seg (q.2.2.2 69) (rA (q.2.2.1 73) b.toInt)) (rA (q.2.2.1 73) (b.toInt + 1) - rA (q.2.2.1 73) b.toInt) g (2 ^ i) → flat b92 n.toInt g (2 ^ i)) ∧ Rm X (sA (sA (sB (sB (sF q 29 n) 92 b92) 94 b94) 93 b93) 95 b95) M') := by
            intro m c94 c95 M hM m0 hr2 hx2
            refine hs (f := dm_ist 72 3) (lv' := [(3, .int m), (4, .int i), (6, .long p), (10, .long e10), (8, .long e8), (5, .int j), (0, .ref 68), (1, .int a), (2, .int b)]) rfl rfl ?_
            refine hs (f := dm_ild 74 4) rfl rfl ?_
            refine hs (f := dm_push 75 (.int 1)) rfl rfl ?_
            have e64 : (i + (1 : Int32)).toInt = i.toInt + 1 := by have w := i_addc (x := i) (y := (1 : Int32)) 1 rfl (by omega) (by omega); omega
            refine hs (f := dm_ii 76 (fun x y => x + y)) (st' := [.int (i + (1 : Int32))]) rfl rfl ?_
            refine hs (f := dm_ald 77 0) rfl rfl ?_
            refine r_geta (c := 70) rfl hM rfl ?_
            refine hs (f := dm_ild 81 1) rfl rfl ?_
            refine hs (f := dm_push 82 (.int 1)) rfl rfl ?_
            have e65 : (a + (1 : Int32)).toInt = a.toInt + 1 := by have w := i_addc (x := a) (y := (1 : Int32)) 1 rfl (by omega) (by omega); omega
            refine hs (f := dm_ii 83 (fun x y => x + y)) (st' := [.int (a + (1 : Int32)), .ref 73, .int (i + (1 : Int32))]) rfl rfl ?_
            refine r_iald (L := 1001) (i := (a + (1 : Int32))) ((q.2.2.1 73) (a + (1 : Int32)).toInt.toNat) rfl hM rfl (by omega) rfl ?_
            generalize g67 : (q.2.2.1 73) (a + (1 : Int32)).toInt.toNat = v66
            have x68 : v66.toInt = rA (q.2.2.1 73) (a.toInt + 1) := rA_of (i := (a + (1 : Int32))) g67 e65
            refine g_ic_ge (n := 87) (tt := 99) rfl (fun h69 => ?_) (fun h69 => ?_)
            · skip
              have h69 : (i + (1 : Int32)).toInt ≥ v66.toInt := h69
              refine hs (f := dm_push 102 (.long 1152921504606846976)) rfl rfl ?_
              exact j102 m c94 c95 (1152921504606846976 : Int64) _ hM m0 hr2 hx2 (by unfold eF; rw [if_neg (by omega)])
            · skip
              have h69 : (i + (1 : Int32)).toInt < v66.toInt := h69
              refine hs (f := dm_ald 88 0) rfl rfl ?_
              refine r_geta (c := 66) rfl hM rfl ?_
              refine hs (f := dm_ild 93 4) rfl rfl ?_
              refine hs (f := dm_push 94 (.int 1)) rfl rfl ?_
              have e70 : (i + (1 : Int32)).toInt = i.toInt + 1 := by have w := i_addc (x := i) (y := (1 : Int32)) 1 rfl (by omega) (by omega); omega
              refine hs (f := dm_ii 95 (fun x y => x + y)) (st' := [.int (i + (1 : Int32)), .ref 69]) rfl rfl ?_
              refine r_lald (L := 24000) (i := (i + (1 : Int32))) ((q.2.2.2 69) (i + (1 : Int32)).toInt.toNat) rfl hM rfl (by omega) rfl ?_
              generalize g72 : (q.2.2.2 69) (i + (1 : Int32)).toInt.toNat = v71
              have x73 : v71.toInt = rB (q.2.2.2 69) (i.toInt + 1) := rB_of (i := (i + (1 : Int32))) g72 e70
              refine hs (f := dm_goto 102) rfl rfl ?_
              exact j102 m c94 c95 v71 _ hM m0 hr2 hx2 (by rw [← g72, e70]; unfold eF; rw [if_pos (by omega)])
          have j68 : ∀ (v : Int32) (M : dm_Mem), Rm X (sA (sB q 94 b94) 95 b95) M → (v = mxF ((q.2.2.1 70) i.toInt.toNat) ((q.2.2.1 70) j.toInt.toNat)) → hG 1 cd_163 68 [(4, .int i), (6, .long p), (10, .long e10), (8, .long e8), (3, .int n), (5, .int j), (0, .ref 68), (1, .int a), (2, .int b)] [.int v, .long p, .int n, .ref 68] M (fun r M' => r = none ∧ ∃ (n : Int32) (b92 b94 : Nat → Int64) (b93 b95 : Nat → Int32), wS b92 n.toInt ∧ n.toInt ≤ (rA (q.2.2.1 73) (a.toInt + 1) - rA (q.2.2.1 73) a.toInt) + (rA (q.2.2.1 73) (b.toInt + 1) - rA (q.2.2.1 73) b.toInt) ∧ rowL b92 b93 n.toInt (tgL (q.2.2.2 69) (q.2.2.1 70) (rA (q.2.2.1 73) (a.toInt + 1)) (rA (q.2.2.1 73) (b.toInt + 1)) ((rA (q.2.2.1 73) (a.toInt + 1) - rA (q.2.2.1 73) a.toInt).toNat + (rA (q.2.2.1 73) (b.toInt + 1) - rA (q.2.2.1 73) b.toInt).toNat) (rA (q.2.2.1 73) a.toInt) (rA (q.2.2.1 73) b.toInt) 0 []) ∧ (∀ (i : Nat) (g : Int), dy i g → flat (seg (q.2.2.2 69) (rA (q.2.2.1 73) a.toInt)) (rA (q.2.2.1 73) (a.toInt + 1) - rA (q.2.2.1 73) a.toInt) g (2 ^ i) → flat (seg (q.2.2.2 69) (rA (q.2.2.1 73) b.toInt)) (rA (q.2.2.1 73) (b.toInt + 1) - rA (q.2.2.1 73) b.toInt) g (2 ^ i) → flat b92 n.toInt g (2 ^ i)) ∧ Rm X (sA (sA (sB (sB (sF q 29 n) 92 b92) 94 b94) 93 b93) 95 b95) M') := by
            intro v M hM hv
            refine r_inv rfl hM rfl (as := [.ref 68, .int n, .long p, .int v]) rfl (Nat.le_of_ble_eq_true rfl) (hT_mono (by decide) (r_148 hM n p v (by omega) (by omega)) (fun r1 M74 w => ?_))
            rcases w with ⟨rfl, rfl, un, uv⟩ | ⟨rfl, uv, hM74⟩
            · skip
              have uv : rA b95 (n.toInt - 1) = v.toInt := uv
              exact j71 n b94 b95 _ hM (by omega) (by rw [← hv, rowL_skip hrw un uv]; exact hrw) (tI_up hx (by omega))
            · skip
              have uv : 0 < n.toInt → ¬ rA b95 (n.toInt - 1) = v.toInt := uv
              replace hM74 := rm_to (q' := (sA (sB q 94 (vp_updL b94 n.toInt.toNat p)) 95 (upd b95 n.toInt.toNat v))) hM74 (Eq.trans (congrArg (fun z => sA z 95 (upd b95 n.toInt.toNat v)) (show sB (sA (sB q 94 b94) 95 b95) 94 (vp_updL b94 n.toInt.toNat p) = (sA (sB q 94 (vp_updL b94 n.toInt.toNat p)) 95 b95) from (congrArg (fun z => (sA z 95 b95)) (show sB (sB q 94 b94) 94 (vp_updL b94 n.toInt.toNat p) = (sB q 94 (vp_updL b94 n.toInt.toNat p)) from sB_sB)))) (show sA (sA (sB q 94 (vp_updL b94 n.toInt.toNat p)) 95 b95) 95 (upd b95 n.toInt.toNat v) = (sA (sB q 94 (vp_updL b94 n.toInt.toNat p)) 95 (upd b95 n.toInt.toNat v)) from (show sA (sA (sB q 94 (vp_updL b94 n.toInt.toNat p)) 95 b95) 95 (upd b95 n.toInt.toNat v) = (sA (sB q 94 (vp_updL b94 n.toInt.toNat p)) 95 (upd b95 n.toInt.toNat v)) from sA_sA)))
              have e75 : (n + 1).toInt = n.toInt + 1 := i_addc 1 rfl (by omega) (by omega)
              exact j71 (n + 1) (vp_updL b94 n.toInt.toNat p) (upd b95 n.toInt.toNat v) _ hM74 (by omega) (by rw [← hv, e75]; exact rowL_lay hrw (Int.toNat_of_nonneg n0.1).symm uv) (by rw [e75]; exact tI_lay hx (Int.toNat_of_nonneg n0.1).symm (Int.le_refl _) (Int.lt_add_one_of_le (Int.le_refl _)) (fun z => n1.elim (fun y => absurd y (by rw [z]; decide)) id) hpa)
          refine hs (f := dm_ald 31 0) rfl rfl ?_
          refine hs (f := dm_ild 32 3) rfl rfl ?_
          refine hs (f := dm_lld 34 6) rfl rfl ?_
          refine hs (f := dm_ald 35 0) rfl rfl ?_
          refine r_geta (c := 67) rfl hM rfl ?_
          refine hs (f := dm_ild 40 4) rfl rfl ?_
          refine r_iald (L := 24000) (i := i) ((q.2.2.1 70) i.toInt.toNat) rfl hM rfl (by omega) rfl ?_
          generalize g77 : (q.2.2.1 70) i.toInt.toNat = v76
          have x78 : v76.toInt = rA (q.2.2.1 70) i.toInt := rA_of (i := i) g77 rfl
          refine hs (f := dm_ald 42 0) rfl rfl ?_
          refine r_geta (c := 67) rfl hM rfl ?_
          refine hs (f := dm_ild 47 5) rfl rfl ?_
          refine r_iald (L := 24000) (i := j) ((q.2.2.1 70) j.toInt.toNat) rfl hM rfl (by omega) rfl ?_
          generalize g80 : (q.2.2.1 70) j.toInt.toNat = v79
          have x81 : v79.toInt = rA (q.2.2.1 70) j.toInt := rA_of (i := j) g80 rfl
          refine g_ic_le (n := 51) (tt := 61) rfl (fun h82 => ?_) (fun h82 => ?_)
          · skip
            have h82 : v76.toInt ≤ v79.toInt := h82
            refine hs (f := dm_ald 62 0) rfl rfl ?_
            refine r_geta (c := 67) rfl hM rfl ?_
            refine hs (f := dm_ild 67 5) rfl rfl ?_
            refine r_iald (L := 24000) (i := j) ((q.2.2.1 70) j.toInt.toNat) rfl hM rfl (by omega) rfl ?_
            generalize g84 : (q.2.2.1 70) j.toInt.toNat = v83
            have x85 : v83.toInt = rA (q.2.2.1 70) j.toInt := rA_of (i := j) g84 rfl
            exact j68 v83 _ hM (by rw [← g84]; exact (mx_r (by omega)).symm)
          · skip
            have h82 : v76.toInt > v79.toInt := h82
            refine hs (f := dm_ald 52 0) rfl rfl ?_
            refine r_geta (c := 67) rfl hM rfl ?_
            refine hs (f := dm_ild 57 4) rfl rfl ?_
            refine r_iald (L := 24000) (i := i) ((q.2.2.1 70) i.toInt.toNat) rfl hM rfl (by omega) rfl ?_
            generalize g87 : (q.2.2.1 70) i.toInt.toNat = v86
            have x88 : v86.toInt = rA (q.2.2.1 70) i.toInt := rA_of (i := i) g87 rfl
            refine hs (f := dm_goto 68) rfl rfl ?_
            exact j68 v86 _ hM (by rw [← g87]; exact (mx_l (by omega)).symm)
      · skip
        intro n i j p e8 e10 b94 b95 M hM i0 i1 j0 j1 p0 hpi hpj hpa n0 n1 hl hx hms
        refine hs (f := dm_lld 23 6) rfl rfl ?_
        refine hs (f := dm_push 26 (.long 1152921504606846976)) rfl rfl ?_
        refine g_lc_ge (x := p) (y := (1152921504606846976 : Int64)) (m := 27) (n := 30) (tt := 178) rfl rfl (fun h89 => ?_) (fun h89 => ?_)
        · skip
          have h89 : p.toInt ≥ 1152921504606846976 := h89
          refine hs (f := dm_ald 179 0) rfl rfl ?_
          refine hs (f := dm_ild 180 3) rfl rfl ?_
          obtain ⟨l, d9, hrw, hd9, hl2⟩ := hl
          rw [tg_end (by omega)] at hl2
          rw [hl2] at hrw
          refine r_inv rfl hM rfl (as := [.ref 68, .int n]) rfl (Nat.le_of_ble_eq_true rfl) (hT_mono (by decide) (r_149 hM n (by omega) (by omega)) (fun r1 M90 w => ?_))
          obtain ⟨rfl, b1, b2, hb, hM90⟩ := w
          replace hM90 := rm_to (q' := (sA (sA (sB (sB (sF q 29 n) 92 b1) 94 b94) 93 b2) 95 b95)) hM90 (Eq.trans (congrArg (fun z => sA z 93 b2) (Eq.trans (congrArg (fun z => sB z 92 b1) (show sF (sA (sB q 94 b94) 95 b95) 29 n = (sA (sB (sF q 29 n) 94 b94) 95 b95) from (congrArg (fun z => (sA (sB z 94 b94) 95 b95)) (show sF q 29 n = (sF q 29 n) from rfl)))) (show sB (sA (sB (sF q 29 n) 94 b94) 95 b95) 92 b1 = (sA (sB (sB (sF q 29 n) 92 b1) 94 b94) 95 b95) from (congrArg (fun z => (sA z 95 b95)) (show sB (sB (sF q 29 n) 94 b94) 92 b1 = (sB (sB (sF q 29 n) 92 b1) 94 b94) from Eq.trans (show sB (sB (sF q 29 n) 94 b94) 92 b1 = sB (sB (sF q 29 n) 92 b1) 94 b94 from sB_cm (by decide)) (congrArg (fun z => sB z 94 b94) (show sB (sF q 29 n) 92 b1 = (sB (sF q 29 n) 92 b1) from rfl))))))) (show sA (sA (sB (sB (sF q 29 n) 92 b1) 94 b94) 95 b95) 93 b2 = (sA (sA (sB (sB (sF q 29 n) 92 b1) 94 b94) 93 b2) 95 b95) from (show sA (sA (sB (sB (sF q 29 n) 92 b1) 94 b94) 95 b95) 93 b2 = (sA (sA (sB (sB (sF q 29 n) 92 b1) 94 b94) 93 b2) 95 b95) from Eq.trans (show sA (sA (sB (sB (sF q 29 n) 92 b1) 94 b94) 95 b95) 93 b2 = sA (sA (sB (sB (sF q 29 n) 92 b1) 94 b94) 93 b2) 95 b95 from sA_cm (by decide)) (congrArg (fun z => sA z 95 b95) (show sA (sB (sB (sF q 29 n) 92 b1) 94 b94) 93 b2 = (sA (sB (sB (sF q 29 n) 92 b1) 94 b94) 93 b2) from rfl)))))
          exact hr (f := dm_vret) rfl rfl (⟨rfl, n, b1, b94, b2, b95, tI_wS (tI_up hx (by omega)) (by omega) (fun i i0 i1 => (hb i i0 i1).1), by omega, ⟨hrw.1, fun k z hk => by
                have hk2 := (List.getElem?_eq_some_iff.mp hk).1
                have hk3 := hrw.1
                have hb2 := hb k (by omega) (by omega)
                have hb3 := hrw.2 k z hk
                exact ⟨hb2.1.trans hb3.1, hb2.2.trans hb3.2⟩⟩, tI_flat (tI_up hx (by omega)) (fun i i0 i1 => (hb i i0 i1).1), hM90⟩)
        · skip
          have h89 : p.toInt < 1152921504606846976 := h89
          obtain ⟨i2, i3, i4⟩ := hpi (by omega)
          obtain ⟨j2, j3, j4⟩ := hpj (by omega)
          have hpa := hpa (by omega)
          obtain ⟨l, d9, hrw, hd9, hl2⟩ := hl
          obtain ⟨dd, rfl⟩ : ∃ dd, d9 = dd + 1 := ⟨d9 - 1, by omega⟩
          rw [tg_go (by omega)] at hl2
          have ega := eF_gt hwa i0 i2
          have egb := eF_gt hwb j0 j2
          have j151 : ∀ (m : Int32) (c94 : Nat → Int64) (c95 : Nat → Int32) (ei ej p2 : Int64) (M : dm_Mem), Rm X (sA (sB q 94 c94) 95 c95) M → (1 ≤ m.toInt ∧ m.toInt ≤ (i.toInt - rA (q.2.2.1 73) a.toInt) + (j.toInt - rA (q.2.2.1 73) b.toInt) + 1) → (rowL c94 c95 m.toInt (layL l p (mxF ((q.2.2.1 70) i.toInt.toNat) ((q.2.2.1 70) j.toInt.toNat)))) → (tI (q.2.2.2 69) (rA (q.2.2.1 73) a.toInt) (rA (q.2.2.1 73) (a.toInt + 1)) (rA (q.2.2.1 73) b.toInt) (rA (q.2.2.1 73) (b.toInt + 1)) c94 m.toInt (p.toInt + 1)) → (ei = eF (q.2.2.2 69) i.toInt (rA (q.2.2.1 73) (a.toInt + 1))) → (ej = eF (q.2.2.2 69) j.toInt (rA (q.2.2.1 73) (b.toInt + 1))) → (p2 = mnF (eF (q.2.2.2 69) i.toInt (rA (q.2.2.1 73) (a.toInt + 1))) (eF (q.2.2.2 69) j.toInt (rA (q.2.2.1 73) (b.toInt + 1)))) → hG 1 cd_163 151 [(10, .long ej), (8, .long ei), (3, .int m), (5, .int j), (6, .long p), (4, .int i), (0, .ref 68), (1, .int a), (2, .int b)] [.long p2] M (fun r M' => r = none ∧ ∃ (n : Int32) (b92 b94 : Nat → Int64) (b93 b95 : Nat → Int32), wS b92 n.toInt ∧ n.toInt ≤ (rA (q.2.2.1 73) (a.toInt + 1) - rA (q.2.2.1 73) a.toInt) + (rA (q.2.2.1 73) (b.toInt + 1) - rA (q.2.2.1 73) b.toInt) ∧ rowL b92 b93 n.toInt (tgL (q.2.2.2 69) (q.2.2.1 70) (rA (q.2.2.1 73) (a.toInt + 1)) (rA (q.2.2.1 73) (b.toInt + 1)) ((rA (q.2.2.1 73) (a.toInt + 1) - rA (q.2.2.1 73) a.toInt).toNat + (rA (q.2.2.1 73) (b.toInt + 1) - rA (q.2.2.1 73) b.toInt).toNat) (rA (q.2.2.1 73) a.toInt) (rA (q.2.2.1 73) b.toInt) 0 []) ∧ (∀ (i : Nat) (g : Int), dy i g → flat (seg (q.2.2.2 69) (rA (q.2.2.1 73) a.toInt)) (rA (q.2.2.1 73) (a.toInt + 1) - rA (q.2.2.1 73) a.toInt) g (2 ^ i) → flat (seg (q.2.2.2 69) (rA (q.2.2.1 73) b.toInt)) (rA (q.2.2.1 73) (b.toInt + 1) - rA (q.2.2.1 73) b.toInt) g (2 ^ i) → flat b92 n.toInt g (2 ^ i)) ∧ Rm X (sA (sA (sB (sB (sF q 29 n) 92 b92) 94 b94) 93 b93) 95 b95) M') := by
            intro m c94 c95 ei ej p2 M hM m0 hr2 hx2 hei hej hp2
            have hmn := mnF_int (eF (q.2.2.2 69) i.toInt (rA (q.2.2.1 73) (a.toInt + 1))) (eF (q.2.2.2 69) j.toInt (rA (q.2.2.1 73) (b.toInt + 1)))
            rw [← hei, ← hej] at hmn
            rw [← hei] at ega i4
            rw [← hej] at egb j4
            rw [← hei, ← hej] at hp2
            rw [← hp2] at hmn
            rw [← hei, ← hej, ← hp2] at hl2
            have stI : p2.toInt < 1152921504606846976 → _ := fun z => eF_step (p := p.toInt) (p2 := p2.toInt) hwa i0 i2 i3 (by omega) (by rw [← hei]; omega) z
            have stJ : p2.toInt < 1152921504606846976 → _ := fun z => eF_step (p := p.toInt) (p2 := p2.toInt) hwb j0 j2 j3 (by omega) (by rw [← hej]; omega) z
            rw [← hei] at stI
            rw [← hej] at stJ
            refine hs (f := dm_lst 153 6) (lv' := [(6, .long p2), (10, .long ej), (8, .long ei), (3, .int m), (5, .int j), (4, .int i), (0, .ref 68), (1, .int a), (2, .int b)]) rfl rfl ?_
            refine hs (f := dm_lld 155 8) rfl rfl ?_
            refine hs (f := dm_lld 157 6) rfl rfl ?_
            refine g_lc_ne (x := ei) (y := p2) (m := 158) (n := 161) (tt := 164) rfl rfl (fun h91 => ?_) (fun h91 => ?_)
            · skip
              have h91 : ¬ ei.toInt = p2.toInt := h91
              refine hs (f := dm_lld 166 10) rfl rfl ?_
              refine hs (f := dm_lld 168 6) rfl rfl ?_
              refine g_lc_ne (x := ej) (y := p2) (m := 169) (n := 172) (tt := 175) rfl rfl (fun h92 => ?_) (fun h92 => ?_)
              · skip
                have h92 : ¬ ej.toInt = p2.toInt := h92
                refine hs (f := dm_goto 21) rfl rfl ?_
                exfalso
                omega
              · skip
                have h92 : ej.toInt = p2.toInt := h92
                have e93 : (j + 1).toInt = j.toInt + 1 := by have w := i_addc (x := j) (y := 1) 1 rfl (by omega) (by omega); omega
                refine hs (f := dm_iinc 175 5 1) (lv' := [(5, .int (j + 1)), (6, .long p2), (10, .long ej), (8, .long ei), (3, .int m), (4, .int i), (0, .ref 68), (1, .int a), (2, .int b)]) rfl rfl ?_
                refine hs (f := dm_goto 21) rfl rfl ?_
                have hdec : (rA (q.2.2.1 73) (a.toInt + 1) - i.toInt).toNat + (rA (q.2.2.1 73) (b.toInt + 1) - (j + 1).toInt).toNat < nn := by rw [e93]; exact (tg_dec hms i2 j2).2.1
                exact (IH _ hdec).2.2.1 m i (j + 1) p2 ei ej c94 c95 _ hM (by omega) (by omega) (by omega) (by omega) (by omega) (by intro z; have z1 := stI z; exact ⟨by omega, (z1.2 h91).1, by rw [← hei]; exact (z1.2 h91).2⟩) (by intro z; have z1 := stJ z; rw [e93]; exact ⟨(z1.1 h92).1, by rw [(z1.1 h92).2.1]; omega, (z1.1 h92).2.2⟩) (by intro z; exact Or.inr (Or.inr ⟨j.toInt + 1, by omega, ((stJ z).1 h92).1, ((stJ z).1 h92).2.1.symm⟩)) (by omega) (Or.inl (by omega)) ⟨_, dd, hr2, by rw [e93]; exact (tg_le hd9 i2 j2).2.1, by have z := hl2; rw [if_neg h91, if_pos h92] at z; rw [e93]; exact z⟩ (tI_up hx2 (by omega)) rfl
            · skip
              have h91 : ei.toInt = p2.toInt := h91
              have e94 : (i + 1).toInt = i.toInt + 1 := by have w := i_addc (x := i) (y := 1) 1 rfl (by omega) (by omega); omega
              refine hs (f := dm_iinc 164 4 1) (lv' := [(4, .int (i + 1)), (6, .long p2), (10, .long ej), (8, .long ei), (3, .int m), (5, .int j), (0, .ref 68), (1, .int a), (2, .int b)]) rfl rfl ?_
              refine hs (f := dm_lld 166 10) rfl rfl ?_
              refine hs (f := dm_lld 168 6) rfl rfl ?_
              refine g_lc_ne (x := ej) (y := p2) (m := 169) (n := 172) (tt := 175) rfl rfl (fun h95 => ?_) (fun h95 => ?_)
              · skip
                have h95 : ¬ ej.toInt = p2.toInt := h95
                refine hs (f := dm_goto 21) rfl rfl ?_
                have hdec : (rA (q.2.2.1 73) (a.toInt + 1) - (i + 1).toInt).toNat + (rA (q.2.2.1 73) (b.toInt + 1) - j.toInt).toNat < nn := by rw [e94]; exact (tg_dec hms i2 j2).1
                exact (IH _ hdec).2.1 m (i + 1) j p2 ei ej c94 c95 _ hM (by omega) (by omega) (by omega) (by omega) (by omega) (by intro z; have z1 := stI z; rw [e94]; exact ⟨(z1.1 h91).1, by rw [(z1.1 h91).2.1]; omega, (z1.1 h91).2.2⟩) (by intro z; have z1 := stJ z; exact ⟨by omega, (z1.2 h95).1, by rw [← hej]; exact (z1.2 h95).2⟩) (by intro z; exact Or.inr (Or.inl ⟨i.toInt + 1, by omega, ((stI z).1 h91).1, ((stI z).1 h91).2.1.symm⟩)) (by omega) (Or.inl (by omega)) ⟨_, dd, hr2, by rw [e94]; exact (tg_le hd9 i2 j2).1, by have z := hl2; rw [if_pos h91, if_neg h95] at z; rw [e94]; exact z⟩ (tI_up hx2 (by omega)) rfl
              · skip
                have h95 : ej.toInt = p2.toInt := h95
                have e96 : (j + 1).toInt = j.toInt + 1 := by have w := i_addc (x := j) (y := 1) 1 rfl (by omega) (by omega); omega
                refine hs (f := dm_iinc 175 5 1) (lv' := [(5, .int (j + 1)), (4, .int (i + 1)), (6, .long p2), (10, .long ej), (8, .long ei), (3, .int m), (0, .ref 68), (1, .int a), (2, .int b)]) rfl rfl ?_
                refine hs (f := dm_goto 21) rfl rfl ?_
                have hdec : (rA (q.2.2.1 73) (a.toInt + 1) - (i + 1).toInt).toNat + (rA (q.2.2.1 73) (b.toInt + 1) - (j + 1).toInt).toNat < nn := by rw [e94, e96]; exact (tg_dec hms i2 j2).2.2
                exact (IH _ hdec).2.2.2 m (i + 1) (j + 1) p2 ei ej c94 c95 _ hM (by omega) (by omega) (by omega) (by omega) (by omega) (by intro z; have z1 := stI z; rw [e94]; exact ⟨(z1.1 h91).1, by rw [(z1.1 h91).2.1]; omega, (z1.1 h91).2.2⟩) (by intro z; have z1 := stJ z; rw [e96]; exact ⟨(z1.1 h95).1, by rw [(z1.1 h95).2.1]; omega, (z1.1 h95).2.2⟩) (by intro z; exact Or.inr (Or.inl ⟨i.toInt + 1, by omega, ((stI z).1 h91).1, ((stI z).1 h91).2.1.symm⟩)) (by omega) (Or.inl (by omega)) ⟨_, dd, hr2, by rw [e94, e96]; exact (tg_le hd9 i2 j2).2.2, by have z := hl2; rw [if_pos h91, if_pos h95] at z; rw [e94]; rw [e96]; exact z⟩ (tI_up hx2 (by omega)) rfl
          have j134 : ∀ (m : Int32) (c94 : Nat → Int64) (c95 : Nat → Int32) (ei ej : Int64) (M : dm_Mem), Rm X (sA (sB q 94 c94) 95 c95) M → (1 ≤ m.toInt ∧ m.toInt ≤ (i.toInt - rA (q.2.2.1 73) a.toInt) + (j.toInt - rA (q.2.2.1 73) b.toInt) + 1) → (rowL c94 c95 m.toInt (layL l p (mxF ((q.2.2.1 70) i.toInt.toNat) ((q.2.2.1 70) j.toInt.toNat)))) → (tI (q.2.2.2 69) (rA (q.2.2.1 73) a.toInt) (rA (q.2.2.1 73) (a.toInt + 1)) (rA (q.2.2.1 73) b.toInt) (rA (q.2.2.1 73) (b.toInt + 1)) c94 m.toInt (p.toInt + 1)) → (ei = eF (q.2.2.2 69) i.toInt (rA (q.2.2.1 73) (a.toInt + 1))) → (ej = eF (q.2.2.2 69) j.toInt (rA (q.2.2.1 73) (b.toInt + 1))) → hG 1 cd_163 134 [(8, .long ei), (3, .int m), (5, .int j), (6, .long p), (10, .long e10), (4, .int i), (0, .ref 68), (1, .int a), (2, .int b)] [.long ej] M (fun r M' => r = none ∧ ∃ (n : Int32) (b92 b94 : Nat → Int64) (b93 b95 : Nat → Int32), wS b92 n.toInt ∧ n.toInt ≤ (rA (q.2.2.1 73) (a.toInt + 1) - rA (q.2.2.1 73) a.toInt) + (rA (q.2.2.1 73) (b.toInt + 1) - rA (q.2.2.1 73) b.toInt) ∧ rowL b92 b93 n.toInt (tgL (q.2.2.2 69) (q.2.2.1 70) (rA (q.2.2.1 73) (a.toInt + 1)) (rA (q.2.2.1 73) (b.toInt + 1)) ((rA (q.2.2.1 73) (a.toInt + 1) - rA (q.2.2.1 73) a.toInt).toNat + (rA (q.2.2.1 73) (b.toInt + 1) - rA (q.2.2.1 73) b.toInt).toNat) (rA (q.2.2.1 73) a.toInt) (rA (q.2.2.1 73) b.toInt) 0 []) ∧ (∀ (i : Nat) (g : Int), dy i g → flat (seg (q.2.2.2 69) (rA (q.2.2.1 73) a.toInt)) (rA (q.2.2.1 73) (a.toInt + 1) - rA (q.2.2.1 73) a.toInt) g (2 ^ i) → flat (seg (q.2.2.2 69) (rA (q.2.2.1 73) b.toInt)) (rA (q.2.2.1 73) (b.toInt + 1) - rA (q.2.2.1 73) b.toInt) g (2 ^ i) → flat b92 n.toInt g (2 ^ i)) ∧ Rm X (sA (sA (sB (sB (sF q 29 n) 92 b92) 94 b94) 93 b93) 95 b95) M') := by
            intro m c94 c95 ei ej M hM m0 hr2 hx2 hei hej
            refine hs (f := dm_lst 136 10) (lv' := [(10, .long ej), (8, .long ei), (3, .int m), (5, .int j), (6, .long p), (4, .int i), (0, .ref 68), (1, .int a), (2, .int b)]) rfl rfl ?_
            refine hs (f := dm_lld 138 8) rfl rfl ?_
            refine hs (f := dm_lld 140 10) rfl rfl ?_
            refine g_lc_ge (x := ei) (y := ej) (m := 141) (n := 144) (tt := 149) rfl rfl (fun h97 => ?_) (fun h97 => ?_)
            · skip
              have h97 : ei.toInt ≥ ej.toInt := h97
              refine hs (f := dm_lld 151 10) rfl rfl ?_
              exact j151 m c94 c95 ei ej ej _ hM m0 hr2 hx2 hei hej (by rw [← hei, ← hej]; unfold mnF; rw [if_neg (by omega)])
            · skip
              have h97 : ei.toInt < ej.toInt := h97
              refine hs (f := dm_lld 146 8) rfl rfl ?_
              refine hs (f := dm_goto 151) rfl rfl ?_
              exact j151 m c94 c95 ei ej ei _ hM m0 hr2 hx2 hei hej (by rw [← hei, ← hej]; unfold mnF; rw [if_pos (by omega)])
          have j102 : ∀ (m : Int32) (c94 : Nat → Int64) (c95 : Nat → Int32) (ei : Int64) (M : dm_Mem), Rm X (sA (sB q 94 c94) 95 c95) M → (1 ≤ m.toInt ∧ m.toInt ≤ (i.toInt - rA (q.2.2.1 73) a.toInt) + (j.toInt - rA (q.2.2.1 73) b.toInt) + 1) → (rowL c94 c95 m.toInt (layL l p (mxF ((q.2.2.1 70) i.toInt.toNat) ((q.2.2.1 70) j.toInt.toNat)))) → (tI (q.2.2.2 69) (rA (q.2.2.1 73) a.toInt) (rA (q.2.2.1 73) (a.toInt + 1)) (rA (q.2.2.1 73) b.toInt) (rA (q.2.2.1 73) (b.toInt + 1)) c94 m.toInt (p.toInt + 1)) → (ei = eF (q.2.2.2 69) i.toInt (rA (q.2.2.1 73) (a.toInt + 1))) → hG 1 cd_163 102 [(3, .int m), (5, .int j), (6, .long p), (10, .long e10), (8, .long e8), (4, .int i), (0, .ref 68), (1, .int a), (2, .int b)] [.long ei] M (fun r M' => r = none ∧ ∃ (n : Int32) (b92 b94 : Nat → Int64) (b93 b95 : Nat → Int32), wS b92 n.toInt ∧ n.toInt ≤ (rA (q.2.2.1 73) (a.toInt + 1) - rA (q.2.2.1 73) a.toInt) + (rA (q.2.2.1 73) (b.toInt + 1) - rA (q.2.2.1 73) b.toInt) ∧ rowL b92 b93 n.toInt (tgL (q.2.2.2 69) (q.2.2.1 70) (rA (q.2.2.1 73) (a.toInt + 1)) (rA (q.2.2.1 73) (b.toInt + 1)) ((rA (q.2.2.1 73) (a.toInt + 1) - rA (q.2.2.1 73) a.toInt).toNat + (rA (q.2.2.1 73) (b.toInt + 1) - rA (q.2.2.1 73) b.toInt).toNat) (rA (q.2.2.1 73) a.toInt) (rA (q.2.2.1 73) b.toInt) 0 []) ∧ (∀ (i : Nat) (g : Int), dy i g → flat (seg (q.2.2.2 69) (rA (q.2.2.1 73) a.toInt)) (rA (q.2.2.1 73) (a.toInt + 1) - rA (q.2.2.1 73) a.toInt) g (2 ^ i) → flat (seg (q.2.2.2 69) (rA (q.2.2.1 73) b.toInt)) (rA (q.2.2.1 73) (b.toInt + 1) - rA (q.2.2.1 73) b.toInt) g (2 ^ i) → flat b92 n.toInt g (2 ^ i)) ∧ Rm X (sA (sA (sB (sB (sF q 29 n) 92 b92) 94 b94) 93 b93) 95 b95) M') := by
            intro m c94 c95 ei M hM m0 hr2 hx2 hei
            refine hs (f := dm_lst 104 8) (lv' := [(8, .long ei), (3, .int m), (5, .int j), (6, .long p), (10, .long e10), (4, .int i), (0, .ref 68), (1, .int a), (2, .int b)]) rfl rfl ?_
            refine hs (f := dm_ild 106 5) rfl rfl ?_
            refine hs (f := dm_push 107 (.int 1)) rfl rfl ?_
            have e98 : (j + (1 : Int32)).toInt = j.toInt + 1 := by have w := i_addc (x := j) (y := (1 : Int32)) 1 rfl (by omega) (by omega); omega
            refine hs (f := dm_ii 108 (fun x y => x + y)) (st' := [.int (j + (1 : Int32))]) rfl rfl ?_
            refine hs (f := dm_ald 109 0) rfl rfl ?_
            refine r_geta (c := 70) rfl hM rfl ?_
            refine hs (f := dm_ild 113 2) rfl rfl ?_
            refine hs (f := dm_push 114 (.int 1)) rfl rfl ?_
            have e99 : (b + (1 : Int32)).toInt = b.toInt + 1 := by have w := i_addc (x := b) (y := (1 : Int32)) 1 rfl (by omega) (by omega); omega
            refine hs (f := dm_ii 115 (fun x y => x + y)) (st' := [.int (b + (1 : Int32)), .ref 73, .int (j + (1 : Int32))]) rfl rfl ?_
            refine r_iald (L := 1001) (i := (b + (1 : Int32))) ((q.2.2.1 73) (b + (1 : Int32)).toInt.toNat) rfl hM rfl (by omega) rfl ?_
            generalize g101 : (q.2.2.1 73) (b + (1 : Int32)).toInt.toNat = v100
            have x102 : v100.toInt = rA (q.2.2.1 73) (b.toInt + 1) := rA_of (i := (b + (1 : Int32))) g101 e99
            refine g_ic_ge (n := 119) (tt := 131) rfl (fun h103 => ?_) (fun h103 => ?_)
            · skip
              have h103 : (j + (1 : Int32)).toInt ≥ v100.toInt := h103
              refine hs (f := dm_push 134 (.long 1152921504606846976)) rfl rfl ?_
              exact j134 m c94 c95 ei (1152921504606846976 : Int64) _ hM m0 hr2 hx2 hei (by unfold eF; rw [if_neg (by omega)])
            · skip
              have h103 : (j + (1 : Int32)).toInt < v100.toInt := h103
              refine hs (f := dm_ald 120 0) rfl rfl ?_
              refine r_geta (c := 66) rfl hM rfl ?_
              refine hs (f := dm_ild 125 5) rfl rfl ?_
              refine hs (f := dm_push 126 (.int 1)) rfl rfl ?_
              have e104 : (j + (1 : Int32)).toInt = j.toInt + 1 := by have w := i_addc (x := j) (y := (1 : Int32)) 1 rfl (by omega) (by omega); omega
              refine hs (f := dm_ii 127 (fun x y => x + y)) (st' := [.int (j + (1 : Int32)), .ref 69]) rfl rfl ?_
              refine r_lald (L := 24000) (i := (j + (1 : Int32))) ((q.2.2.2 69) (j + (1 : Int32)).toInt.toNat) rfl hM rfl (by omega) rfl ?_
              generalize g106 : (q.2.2.2 69) (j + (1 : Int32)).toInt.toNat = v105
              have x107 : v105.toInt = rB (q.2.2.2 69) (j.toInt + 1) := rB_of (i := (j + (1 : Int32))) g106 e104
              refine hs (f := dm_goto 134) rfl rfl ?_
              exact j134 m c94 c95 ei v105 _ hM m0 hr2 hx2 hei (by rw [← g106, e104]; unfold eF; rw [if_pos (by omega)])
          have j71 : ∀ (m : Int32) (c94 : Nat → Int64) (c95 : Nat → Int32) (M : dm_Mem), Rm X (sA (sB q 94 c94) 95 c95) M → (1 ≤ m.toInt ∧ m.toInt ≤ (i.toInt - rA (q.2.2.1 73) a.toInt) + (j.toInt - rA (q.2.2.1 73) b.toInt) + 1) → (rowL c94 c95 m.toInt (layL l p (mxF ((q.2.2.1 70) i.toInt.toNat) ((q.2.2.1 70) j.toInt.toNat)))) → (tI (q.2.2.2 69) (rA (q.2.2.1 73) a.toInt) (rA (q.2.2.1 73) (a.toInt + 1)) (rA (q.2.2.1 73) b.toInt) (rA (q.2.2.1 73) (b.toInt + 1)) c94 m.toInt (p.toInt + 1)) → hG 1 cd_163 71 [(5, .int j), (6, .long p), (10, .long e10), (8, .long e8), (3, .int n), (4, .int i), (0, .ref 68), (1, .int a), (2, .int b)] [.int m] M (fun r M' => r = none ∧ ∃ (n : Int32) (b92 b94 : Nat → Int64) (b93 b95 : Nat → Int32), wS b92 n.toInt ∧ n.toInt ≤ (rA (q.2.2.1 73) (a.toInt + 1) - rA (q.2.2.1 73) a.toInt) + (rA (q.2.2.1 73) (b.toInt + 1) - rA (q.2.2.1 73) b.toInt) ∧ rowL b92 b93 n.toInt (tgL (q.2.2.2 69) (q.2.2.1 70) (rA (q.2.2.1 73) (a.toInt + 1)) (rA (q.2.2.1 73) (b.toInt + 1)) ((rA (q.2.2.1 73) (a.toInt + 1) - rA (q.2.2.1 73) a.toInt).toNat + (rA (q.2.2.1 73) (b.toInt + 1) - rA (q.2.2.1 73) b.toInt).toNat) (rA (q.2.2.1 73) a.toInt) (rA (q.2.2.1 73) b.toInt) 0 []) ∧ (∀ (i : Nat) (g : Int), dy i g → flat (seg (q.2.2.2 69) (rA (q.2.2.1 73) a.toInt)) (rA (q.2.2.1 73) (a.toInt + 1) - rA (q.2.2.1 73) a.toInt) g (2 ^ i) → flat (seg (q.2.2.2 69) (rA (q.2.2.1 73) b.toInt)) (rA (q.2.2.1 73) (b.toInt + 1) - rA (q.2.2.1 73) b.toInt) g (2 ^ i) → flat b92 n.toInt g (2 ^ i)) ∧ Rm X (sA (sA (sB (sB (sF q 29 n) 92 b92) 94 b94) 93 b93) 95 b95) M') := by
            intro m c94 c95 M hM m0 hr2 hx2
            refine hs (f := dm_ist 72 3) (lv' := [(3, .int m), (5, .int j), (6, .long p), (10, .long e10), (8, .long e8), (4, .int i), (0, .ref 68), (1, .int a), (2, .int b)]) rfl rfl ?_
            refine hs (f := dm_ild 74 4) rfl rfl ?_
            refine hs (f := dm_push 75 (.int 1)) rfl rfl ?_
            have e108 : (i + (1 : Int32)).toInt = i.toInt + 1 := by have w := i_addc (x := i) (y := (1 : Int32)) 1 rfl (by omega) (by omega); omega
            refine hs (f := dm_ii 76 (fun x y => x + y)) (st' := [.int (i + (1 : Int32))]) rfl rfl ?_
            refine hs (f := dm_ald 77 0) rfl rfl ?_
            refine r_geta (c := 70) rfl hM rfl ?_
            refine hs (f := dm_ild 81 1) rfl rfl ?_
            refine hs (f := dm_push 82 (.int 1)) rfl rfl ?_
            have e109 : (a + (1 : Int32)).toInt = a.toInt + 1 := by have w := i_addc (x := a) (y := (1 : Int32)) 1 rfl (by omega) (by omega); omega
            refine hs (f := dm_ii 83 (fun x y => x + y)) (st' := [.int (a + (1 : Int32)), .ref 73, .int (i + (1 : Int32))]) rfl rfl ?_
            refine r_iald (L := 1001) (i := (a + (1 : Int32))) ((q.2.2.1 73) (a + (1 : Int32)).toInt.toNat) rfl hM rfl (by omega) rfl ?_
            generalize g111 : (q.2.2.1 73) (a + (1 : Int32)).toInt.toNat = v110
            have x112 : v110.toInt = rA (q.2.2.1 73) (a.toInt + 1) := rA_of (i := (a + (1 : Int32))) g111 e109
            refine g_ic_ge (n := 87) (tt := 99) rfl (fun h113 => ?_) (fun h113 => ?_)
            · skip
              have h113 : (i + (1 : Int32)).toInt ≥ v110.toInt := h113
              refine hs (f := dm_push 102 (.long 1152921504606846976)) rfl rfl ?_
              exact j102 m c94 c95 (1152921504606846976 : Int64) _ hM m0 hr2 hx2 (by unfold eF; rw [if_neg (by omega)])
            · skip
              have h113 : (i + (1 : Int32)).toInt < v110.toInt := h113
              refine hs (f := dm_ald 88 0) rfl rfl ?_
              refine r_geta (c := 66) rfl hM rfl ?_
              refine hs (f := dm_ild 93 4) rfl rfl ?_
              refine hs (f := dm_push 94 (.int 1)) rfl rfl ?_
              have e114 : (i + (1 : Int32)).toInt = i.toInt + 1 := by have w := i_addc (x := i) (y := (1 : Int32)) 1 rfl (by omega) (by omega); omega
              refine hs (f := dm_ii 95 (fun x y => x + y)) (st' := [.int (i + (1 : Int32)), .ref 69]) rfl rfl ?_
              refine r_lald (L := 24000) (i := (i + (1 : Int32))) ((q.2.2.2 69) (i + (1 : Int32)).toInt.toNat) rfl hM rfl (by omega) rfl ?_
              generalize g116 : (q.2.2.2 69) (i + (1 : Int32)).toInt.toNat = v115
              have x117 : v115.toInt = rB (q.2.2.2 69) (i.toInt + 1) := rB_of (i := (i + (1 : Int32))) g116 e114
              refine hs (f := dm_goto 102) rfl rfl ?_
              exact j102 m c94 c95 v115 _ hM m0 hr2 hx2 (by rw [← g116, e114]; unfold eF; rw [if_pos (by omega)])
          have j68 : ∀ (v : Int32) (M : dm_Mem), Rm X (sA (sB q 94 b94) 95 b95) M → (v = mxF ((q.2.2.1 70) i.toInt.toNat) ((q.2.2.1 70) j.toInt.toNat)) → hG 1 cd_163 68 [(5, .int j), (6, .long p), (10, .long e10), (8, .long e8), (3, .int n), (4, .int i), (0, .ref 68), (1, .int a), (2, .int b)] [.int v, .long p, .int n, .ref 68] M (fun r M' => r = none ∧ ∃ (n : Int32) (b92 b94 : Nat → Int64) (b93 b95 : Nat → Int32), wS b92 n.toInt ∧ n.toInt ≤ (rA (q.2.2.1 73) (a.toInt + 1) - rA (q.2.2.1 73) a.toInt) + (rA (q.2.2.1 73) (b.toInt + 1) - rA (q.2.2.1 73) b.toInt) ∧ rowL b92 b93 n.toInt (tgL (q.2.2.2 69) (q.2.2.1 70) (rA (q.2.2.1 73) (a.toInt + 1)) (rA (q.2.2.1 73) (b.toInt + 1)) ((rA (q.2.2.1 73) (a.toInt + 1) - rA (q.2.2.1 73) a.toInt).toNat + (rA (q.2.2.1 73) (b.toInt + 1) - rA (q.2.2.1 73) b.toInt).toNat) (rA (q.2.2.1 73) a.toInt) (rA (q.2.2.1 73) b.toInt) 0 []) ∧ (∀ (i : Nat) (g : Int), dy i g → flat (seg (q.2.2.2 69) (rA (q.2.2.1 73) a.toInt)) (rA (q.2.2.1 73) (a.toInt + 1) - rA (q.2.2.1 73) a.toInt) g (2 ^ i) → flat (seg (q.2.2.2 69) (rA (q.2.2.1 73) b.toInt)) (rA (q.2.2.1 73) (b.toInt + 1) - rA (q.2.2.1 73) b.toInt) g (2 ^ i) → flat b92 n.toInt g (2 ^ i)) ∧ Rm X (sA (sA (sB (sB (sF q 29 n) 92 b92) 94 b94) 93 b93) 95 b95) M') := by
            intro v M hM hv
            refine r_inv rfl hM rfl (as := [.ref 68, .int n, .long p, .int v]) rfl (Nat.le_of_ble_eq_true rfl) (hT_mono (by decide) (r_148 hM n p v (by omega) (by omega)) (fun r1 M118 w => ?_))
            rcases w with ⟨rfl, rfl, un, uv⟩ | ⟨rfl, uv, hM118⟩
            · skip
              have uv : rA b95 (n.toInt - 1) = v.toInt := uv
              exact j71 n b94 b95 _ hM (by omega) (by rw [← hv, rowL_skip hrw un uv]; exact hrw) (tI_up hx (by omega))
            · skip
              have uv : 0 < n.toInt → ¬ rA b95 (n.toInt - 1) = v.toInt := uv
              replace hM118 := rm_to (q' := (sA (sB q 94 (vp_updL b94 n.toInt.toNat p)) 95 (upd b95 n.toInt.toNat v))) hM118 (Eq.trans (congrArg (fun z => sA z 95 (upd b95 n.toInt.toNat v)) (show sB (sA (sB q 94 b94) 95 b95) 94 (vp_updL b94 n.toInt.toNat p) = (sA (sB q 94 (vp_updL b94 n.toInt.toNat p)) 95 b95) from (congrArg (fun z => (sA z 95 b95)) (show sB (sB q 94 b94) 94 (vp_updL b94 n.toInt.toNat p) = (sB q 94 (vp_updL b94 n.toInt.toNat p)) from sB_sB)))) (show sA (sA (sB q 94 (vp_updL b94 n.toInt.toNat p)) 95 b95) 95 (upd b95 n.toInt.toNat v) = (sA (sB q 94 (vp_updL b94 n.toInt.toNat p)) 95 (upd b95 n.toInt.toNat v)) from (show sA (sA (sB q 94 (vp_updL b94 n.toInt.toNat p)) 95 b95) 95 (upd b95 n.toInt.toNat v) = (sA (sB q 94 (vp_updL b94 n.toInt.toNat p)) 95 (upd b95 n.toInt.toNat v)) from sA_sA)))
              have e119 : (n + 1).toInt = n.toInt + 1 := i_addc 1 rfl (by omega) (by omega)
              exact j71 (n + 1) (vp_updL b94 n.toInt.toNat p) (upd b95 n.toInt.toNat v) _ hM118 (by omega) (by rw [← hv, e119]; exact rowL_lay hrw (Int.toNat_of_nonneg n0.1).symm uv) (by rw [e119]; exact tI_lay hx (Int.toNat_of_nonneg n0.1).symm (Int.le_refl _) (Int.lt_add_one_of_le (Int.le_refl _)) (fun z => n1.elim (fun y => absurd y (by rw [z]; decide)) id) hpa)
          refine hs (f := dm_ald 31 0) rfl rfl ?_
          refine hs (f := dm_ild 32 3) rfl rfl ?_
          refine hs (f := dm_lld 34 6) rfl rfl ?_
          refine hs (f := dm_ald 35 0) rfl rfl ?_
          refine r_geta (c := 67) rfl hM rfl ?_
          refine hs (f := dm_ild 40 4) rfl rfl ?_
          refine r_iald (L := 24000) (i := i) ((q.2.2.1 70) i.toInt.toNat) rfl hM rfl (by omega) rfl ?_
          generalize g121 : (q.2.2.1 70) i.toInt.toNat = v120
          have x122 : v120.toInt = rA (q.2.2.1 70) i.toInt := rA_of (i := i) g121 rfl
          refine hs (f := dm_ald 42 0) rfl rfl ?_
          refine r_geta (c := 67) rfl hM rfl ?_
          refine hs (f := dm_ild 47 5) rfl rfl ?_
          refine r_iald (L := 24000) (i := j) ((q.2.2.1 70) j.toInt.toNat) rfl hM rfl (by omega) rfl ?_
          generalize g124 : (q.2.2.1 70) j.toInt.toNat = v123
          have x125 : v123.toInt = rA (q.2.2.1 70) j.toInt := rA_of (i := j) g124 rfl
          refine g_ic_le (n := 51) (tt := 61) rfl (fun h126 => ?_) (fun h126 => ?_)
          · skip
            have h126 : v120.toInt ≤ v123.toInt := h126
            refine hs (f := dm_ald 62 0) rfl rfl ?_
            refine r_geta (c := 67) rfl hM rfl ?_
            refine hs (f := dm_ild 67 5) rfl rfl ?_
            refine r_iald (L := 24000) (i := j) ((q.2.2.1 70) j.toInt.toNat) rfl hM rfl (by omega) rfl ?_
            generalize g128 : (q.2.2.1 70) j.toInt.toNat = v127
            have x129 : v127.toInt = rA (q.2.2.1 70) j.toInt := rA_of (i := j) g128 rfl
            exact j68 v127 _ hM (by rw [← g128]; exact (mx_r (by omega)).symm)
          · skip
            have h126 : v120.toInt > v123.toInt := h126
            refine hs (f := dm_ald 52 0) rfl rfl ?_
            refine r_geta (c := 67) rfl hM rfl ?_
            refine hs (f := dm_ild 57 4) rfl rfl ?_
            refine r_iald (L := 24000) (i := i) ((q.2.2.1 70) i.toInt.toNat) rfl hM rfl (by omega) rfl ?_
            generalize g131 : (q.2.2.1 70) i.toInt.toNat = v130
            have x132 : v130.toInt = rA (q.2.2.1 70) i.toInt := rA_of (i := i) g131 rfl
            refine hs (f := dm_goto 68) rfl rfl ?_
            exact j68 v130 _ hM (by rw [← g131]; exact (mx_l (by omega)).symm)
      · skip
        intro n i j p e8 e10 b94 b95 M hM i0 i1 j0 j1 p0 hpi hpj hpa n0 n1 hl hx hms
        refine hs (f := dm_lld 23 6) rfl rfl ?_
        refine hs (f := dm_push 26 (.long 1152921504606846976)) rfl rfl ?_
        refine g_lc_ge (x := p) (y := (1152921504606846976 : Int64)) (m := 27) (n := 30) (tt := 178) rfl rfl (fun h133 => ?_) (fun h133 => ?_)
        · skip
          have h133 : p.toInt ≥ 1152921504606846976 := h133
          refine hs (f := dm_ald 179 0) rfl rfl ?_
          refine hs (f := dm_ild 180 3) rfl rfl ?_
          obtain ⟨l, d9, hrw, hd9, hl2⟩ := hl
          rw [tg_end (by omega)] at hl2
          rw [hl2] at hrw
          refine r_inv rfl hM rfl (as := [.ref 68, .int n]) rfl (Nat.le_of_ble_eq_true rfl) (hT_mono (by decide) (r_149 hM n (by omega) (by omega)) (fun r1 M134 w => ?_))
          obtain ⟨rfl, b1, b2, hb, hM134⟩ := w
          replace hM134 := rm_to (q' := (sA (sA (sB (sB (sF q 29 n) 92 b1) 94 b94) 93 b2) 95 b95)) hM134 (Eq.trans (congrArg (fun z => sA z 93 b2) (Eq.trans (congrArg (fun z => sB z 92 b1) (show sF (sA (sB q 94 b94) 95 b95) 29 n = (sA (sB (sF q 29 n) 94 b94) 95 b95) from (congrArg (fun z => (sA (sB z 94 b94) 95 b95)) (show sF q 29 n = (sF q 29 n) from rfl)))) (show sB (sA (sB (sF q 29 n) 94 b94) 95 b95) 92 b1 = (sA (sB (sB (sF q 29 n) 92 b1) 94 b94) 95 b95) from (congrArg (fun z => (sA z 95 b95)) (show sB (sB (sF q 29 n) 94 b94) 92 b1 = (sB (sB (sF q 29 n) 92 b1) 94 b94) from Eq.trans (show sB (sB (sF q 29 n) 94 b94) 92 b1 = sB (sB (sF q 29 n) 92 b1) 94 b94 from sB_cm (by decide)) (congrArg (fun z => sB z 94 b94) (show sB (sF q 29 n) 92 b1 = (sB (sF q 29 n) 92 b1) from rfl))))))) (show sA (sA (sB (sB (sF q 29 n) 92 b1) 94 b94) 95 b95) 93 b2 = (sA (sA (sB (sB (sF q 29 n) 92 b1) 94 b94) 93 b2) 95 b95) from (show sA (sA (sB (sB (sF q 29 n) 92 b1) 94 b94) 95 b95) 93 b2 = (sA (sA (sB (sB (sF q 29 n) 92 b1) 94 b94) 93 b2) 95 b95) from Eq.trans (show sA (sA (sB (sB (sF q 29 n) 92 b1) 94 b94) 95 b95) 93 b2 = sA (sA (sB (sB (sF q 29 n) 92 b1) 94 b94) 93 b2) 95 b95 from sA_cm (by decide)) (congrArg (fun z => sA z 95 b95) (show sA (sB (sB (sF q 29 n) 92 b1) 94 b94) 93 b2 = (sA (sB (sB (sF q 29 n) 92 b1) 94 b94) 93 b2) from rfl)))))
          exact hr (f := dm_vret) rfl rfl (⟨rfl, n, b1, b94, b2, b95, tI_wS (tI_up hx (by omega)) (by omega) (fun i i0 i1 => (hb i i0 i1).1), by omega, ⟨hrw.1, fun k z hk => by
                have hk2 := (List.getElem?_eq_some_iff.mp hk).1
                have hk3 := hrw.1
                have hb2 := hb k (by omega) (by omega)
                have hb3 := hrw.2 k z hk
                exact ⟨hb2.1.trans hb3.1, hb2.2.trans hb3.2⟩⟩, tI_flat (tI_up hx (by omega)) (fun i i0 i1 => (hb i i0 i1).1), hM134⟩)
        · skip
          have h133 : p.toInt < 1152921504606846976 := h133
          obtain ⟨i2, i3, i4⟩ := hpi (by omega)
          obtain ⟨j2, j3, j4⟩ := hpj (by omega)
          have hpa := hpa (by omega)
          obtain ⟨l, d9, hrw, hd9, hl2⟩ := hl
          obtain ⟨dd, rfl⟩ : ∃ dd, d9 = dd + 1 := ⟨d9 - 1, by omega⟩
          rw [tg_go (by omega)] at hl2
          have ega := eF_gt hwa i0 i2
          have egb := eF_gt hwb j0 j2
          have j151 : ∀ (m : Int32) (c94 : Nat → Int64) (c95 : Nat → Int32) (ei ej p2 : Int64) (M : dm_Mem), Rm X (sA (sB q 94 c94) 95 c95) M → (1 ≤ m.toInt ∧ m.toInt ≤ (i.toInt - rA (q.2.2.1 73) a.toInt) + (j.toInt - rA (q.2.2.1 73) b.toInt) + 1) → (rowL c94 c95 m.toInt (layL l p (mxF ((q.2.2.1 70) i.toInt.toNat) ((q.2.2.1 70) j.toInt.toNat)))) → (tI (q.2.2.2 69) (rA (q.2.2.1 73) a.toInt) (rA (q.2.2.1 73) (a.toInt + 1)) (rA (q.2.2.1 73) b.toInt) (rA (q.2.2.1 73) (b.toInt + 1)) c94 m.toInt (p.toInt + 1)) → (ei = eF (q.2.2.2 69) i.toInt (rA (q.2.2.1 73) (a.toInt + 1))) → (ej = eF (q.2.2.2 69) j.toInt (rA (q.2.2.1 73) (b.toInt + 1))) → (p2 = mnF (eF (q.2.2.2 69) i.toInt (rA (q.2.2.1 73) (a.toInt + 1))) (eF (q.2.2.2 69) j.toInt (rA (q.2.2.1 73) (b.toInt + 1)))) → hG 1 cd_163 151 [(10, .long ej), (8, .long ei), (3, .int m), (5, .int j), (4, .int i), (6, .long p), (0, .ref 68), (1, .int a), (2, .int b)] [.long p2] M (fun r M' => r = none ∧ ∃ (n : Int32) (b92 b94 : Nat → Int64) (b93 b95 : Nat → Int32), wS b92 n.toInt ∧ n.toInt ≤ (rA (q.2.2.1 73) (a.toInt + 1) - rA (q.2.2.1 73) a.toInt) + (rA (q.2.2.1 73) (b.toInt + 1) - rA (q.2.2.1 73) b.toInt) ∧ rowL b92 b93 n.toInt (tgL (q.2.2.2 69) (q.2.2.1 70) (rA (q.2.2.1 73) (a.toInt + 1)) (rA (q.2.2.1 73) (b.toInt + 1)) ((rA (q.2.2.1 73) (a.toInt + 1) - rA (q.2.2.1 73) a.toInt).toNat + (rA (q.2.2.1 73) (b.toInt + 1) - rA (q.2.2.1 73) b.toInt).toNat) (rA (q.2.2.1 73) a.toInt) (rA (q.2.2.1 73) b.toInt) 0 []) ∧ (∀ (i : Nat) (g : Int), dy i g → flat (seg (q.2.2.2 69) (rA (q.2.2.1 73) a.toInt)) (rA (q.2.2.1 73) (a.toInt + 1) - rA (q.2.2.1 73) a.toInt) g (2 ^ i) → flat (seg (q.2.2.2 69) (rA (q.2.2.1 73) b.toInt)) (rA (q.2.2.1 73) (b.toInt + 1) - rA (q.2.2.1 73) b.toInt) g (2 ^ i) → flat b92 n.toInt g (2 ^ i)) ∧ Rm X (sA (sA (sB (sB (sF q 29 n) 92 b92) 94 b94) 93 b93) 95 b95) M') := by
            intro m c94 c95 ei ej p2 M hM m0 hr2 hx2 hei hej hp2
            have hmn := mnF_int (eF (q.2.2.2 69) i.toInt (rA (q.2.2.1 73) (a.toInt + 1))) (eF (q.2.2.2 69) j.toInt (rA (q.2.2.1 73) (b.toInt + 1)))
            rw [← hei, ← hej] at hmn
            rw [← hei] at ega i4
            rw [← hej] at egb j4
            rw [← hei, ← hej] at hp2
            rw [← hp2] at hmn
            rw [← hei, ← hej, ← hp2] at hl2
            have stI : p2.toInt < 1152921504606846976 → _ := fun z => eF_step (p := p.toInt) (p2 := p2.toInt) hwa i0 i2 i3 (by omega) (by rw [← hei]; omega) z
            have stJ : p2.toInt < 1152921504606846976 → _ := fun z => eF_step (p := p.toInt) (p2 := p2.toInt) hwb j0 j2 j3 (by omega) (by rw [← hej]; omega) z
            rw [← hei] at stI
            rw [← hej] at stJ
            refine hs (f := dm_lst 153 6) (lv' := [(6, .long p2), (10, .long ej), (8, .long ei), (3, .int m), (5, .int j), (4, .int i), (0, .ref 68), (1, .int a), (2, .int b)]) rfl rfl ?_
            refine hs (f := dm_lld 155 8) rfl rfl ?_
            refine hs (f := dm_lld 157 6) rfl rfl ?_
            refine g_lc_ne (x := ei) (y := p2) (m := 158) (n := 161) (tt := 164) rfl rfl (fun h135 => ?_) (fun h135 => ?_)
            · skip
              have h135 : ¬ ei.toInt = p2.toInt := h135
              refine hs (f := dm_lld 166 10) rfl rfl ?_
              refine hs (f := dm_lld 168 6) rfl rfl ?_
              refine g_lc_ne (x := ej) (y := p2) (m := 169) (n := 172) (tt := 175) rfl rfl (fun h136 => ?_) (fun h136 => ?_)
              · skip
                have h136 : ¬ ej.toInt = p2.toInt := h136
                refine hs (f := dm_goto 21) rfl rfl ?_
                exfalso
                omega
              · skip
                have h136 : ej.toInt = p2.toInt := h136
                have e137 : (j + 1).toInt = j.toInt + 1 := by have w := i_addc (x := j) (y := 1) 1 rfl (by omega) (by omega); omega
                refine hs (f := dm_iinc 175 5 1) (lv' := [(5, .int (j + 1)), (6, .long p2), (10, .long ej), (8, .long ei), (3, .int m), (4, .int i), (0, .ref 68), (1, .int a), (2, .int b)]) rfl rfl ?_
                refine hs (f := dm_goto 21) rfl rfl ?_
                have hdec : (rA (q.2.2.1 73) (a.toInt + 1) - i.toInt).toNat + (rA (q.2.2.1 73) (b.toInt + 1) - (j + 1).toInt).toNat < nn := by rw [e137]; exact (tg_dec hms i2 j2).2.1
                exact (IH _ hdec).2.2.1 m i (j + 1) p2 ei ej c94 c95 _ hM (by omega) (by omega) (by omega) (by omega) (by omega) (by intro z; have z1 := stI z; exact ⟨by omega, (z1.2 h135).1, by rw [← hei]; exact (z1.2 h135).2⟩) (by intro z; have z1 := stJ z; rw [e137]; exact ⟨(z1.1 h136).1, by rw [(z1.1 h136).2.1]; omega, (z1.1 h136).2.2⟩) (by intro z; exact Or.inr (Or.inr ⟨j.toInt + 1, by omega, ((stJ z).1 h136).1, ((stJ z).1 h136).2.1.symm⟩)) (by omega) (Or.inl (by omega)) ⟨_, dd, hr2, by rw [e137]; exact (tg_le hd9 i2 j2).2.1, by have z := hl2; rw [if_neg h135, if_pos h136] at z; rw [e137]; exact z⟩ (tI_up hx2 (by omega)) rfl
            · skip
              have h135 : ei.toInt = p2.toInt := h135
              have e138 : (i + 1).toInt = i.toInt + 1 := by have w := i_addc (x := i) (y := 1) 1 rfl (by omega) (by omega); omega
              refine hs (f := dm_iinc 164 4 1) (lv' := [(4, .int (i + 1)), (6, .long p2), (10, .long ej), (8, .long ei), (3, .int m), (5, .int j), (0, .ref 68), (1, .int a), (2, .int b)]) rfl rfl ?_
              refine hs (f := dm_lld 166 10) rfl rfl ?_
              refine hs (f := dm_lld 168 6) rfl rfl ?_
              refine g_lc_ne (x := ej) (y := p2) (m := 169) (n := 172) (tt := 175) rfl rfl (fun h139 => ?_) (fun h139 => ?_)
              · skip
                have h139 : ¬ ej.toInt = p2.toInt := h139
                refine hs (f := dm_goto 21) rfl rfl ?_
                have hdec : (rA (q.2.2.1 73) (a.toInt + 1) - (i + 1).toInt).toNat + (rA (q.2.2.1 73) (b.toInt + 1) - j.toInt).toNat < nn := by rw [e138]; exact (tg_dec hms i2 j2).1
                exact (IH _ hdec).2.1 m (i + 1) j p2 ei ej c94 c95 _ hM (by omega) (by omega) (by omega) (by omega) (by omega) (by intro z; have z1 := stI z; rw [e138]; exact ⟨(z1.1 h135).1, by rw [(z1.1 h135).2.1]; omega, (z1.1 h135).2.2⟩) (by intro z; have z1 := stJ z; exact ⟨by omega, (z1.2 h139).1, by rw [← hej]; exact (z1.2 h139).2⟩) (by intro z; exact Or.inr (Or.inl ⟨i.toInt + 1, by omega, ((stI z).1 h135).1, ((stI z).1 h135).2.1.symm⟩)) (by omega) (Or.inl (by omega)) ⟨_, dd, hr2, by rw [e138]; exact (tg_le hd9 i2 j2).1, by have z := hl2; rw [if_pos h135, if_neg h139] at z; rw [e138]; exact z⟩ (tI_up hx2 (by omega)) rfl
              · skip
                have h139 : ej.toInt = p2.toInt := h139
                have e140 : (j + 1).toInt = j.toInt + 1 := by have w := i_addc (x := j) (y := 1) 1 rfl (by omega) (by omega); omega
                refine hs (f := dm_iinc 175 5 1) (lv' := [(5, .int (j + 1)), (4, .int (i + 1)), (6, .long p2), (10, .long ej), (8, .long ei), (3, .int m), (0, .ref 68), (1, .int a), (2, .int b)]) rfl rfl ?_
                refine hs (f := dm_goto 21) rfl rfl ?_
                have hdec : (rA (q.2.2.1 73) (a.toInt + 1) - (i + 1).toInt).toNat + (rA (q.2.2.1 73) (b.toInt + 1) - (j + 1).toInt).toNat < nn := by rw [e138, e140]; exact (tg_dec hms i2 j2).2.2
                exact (IH _ hdec).2.2.2 m (i + 1) (j + 1) p2 ei ej c94 c95 _ hM (by omega) (by omega) (by omega) (by omega) (by omega) (by intro z; have z1 := stI z; rw [e138]; exact ⟨(z1.1 h135).1, by rw [(z1.1 h135).2.1]; omega, (z1.1 h135).2.2⟩) (by intro z; have z1 := stJ z; rw [e140]; exact ⟨(z1.1 h139).1, by rw [(z1.1 h139).2.1]; omega, (z1.1 h139).2.2⟩) (by intro z; exact Or.inr (Or.inl ⟨i.toInt + 1, by omega, ((stI z).1 h135).1, ((stI z).1 h135).2.1.symm⟩)) (by omega) (Or.inl (by omega)) ⟨_, dd, hr2, by rw [e138, e140]; exact (tg_le hd9 i2 j2).2.2, by have z := hl2; rw [if_pos h135, if_pos h139] at z; rw [e138]; rw [e140]; exact z⟩ (tI_up hx2 (by omega)) rfl
          have j134 : ∀ (m : Int32) (c94 : Nat → Int64) (c95 : Nat → Int32) (ei ej : Int64) (M : dm_Mem), Rm X (sA (sB q 94 c94) 95 c95) M → (1 ≤ m.toInt ∧ m.toInt ≤ (i.toInt - rA (q.2.2.1 73) a.toInt) + (j.toInt - rA (q.2.2.1 73) b.toInt) + 1) → (rowL c94 c95 m.toInt (layL l p (mxF ((q.2.2.1 70) i.toInt.toNat) ((q.2.2.1 70) j.toInt.toNat)))) → (tI (q.2.2.2 69) (rA (q.2.2.1 73) a.toInt) (rA (q.2.2.1 73) (a.toInt + 1)) (rA (q.2.2.1 73) b.toInt) (rA (q.2.2.1 73) (b.toInt + 1)) c94 m.toInt (p.toInt + 1)) → (ei = eF (q.2.2.2 69) i.toInt (rA (q.2.2.1 73) (a.toInt + 1))) → (ej = eF (q.2.2.2 69) j.toInt (rA (q.2.2.1 73) (b.toInt + 1))) → hG 1 cd_163 134 [(8, .long ei), (3, .int m), (5, .int j), (4, .int i), (6, .long p), (10, .long e10), (0, .ref 68), (1, .int a), (2, .int b)] [.long ej] M (fun r M' => r = none ∧ ∃ (n : Int32) (b92 b94 : Nat → Int64) (b93 b95 : Nat → Int32), wS b92 n.toInt ∧ n.toInt ≤ (rA (q.2.2.1 73) (a.toInt + 1) - rA (q.2.2.1 73) a.toInt) + (rA (q.2.2.1 73) (b.toInt + 1) - rA (q.2.2.1 73) b.toInt) ∧ rowL b92 b93 n.toInt (tgL (q.2.2.2 69) (q.2.2.1 70) (rA (q.2.2.1 73) (a.toInt + 1)) (rA (q.2.2.1 73) (b.toInt + 1)) ((rA (q.2.2.1 73) (a.toInt + 1) - rA (q.2.2.1 73) a.toInt).toNat + (rA (q.2.2.1 73) (b.toInt + 1) - rA (q.2.2.1 73) b.toInt).toNat) (rA (q.2.2.1 73) a.toInt) (rA (q.2.2.1 73) b.toInt) 0 []) ∧ (∀ (i : Nat) (g : Int), dy i g → flat (seg (q.2.2.2 69) (rA (q.2.2.1 73) a.toInt)) (rA (q.2.2.1 73) (a.toInt + 1) - rA (q.2.2.1 73) a.toInt) g (2 ^ i) → flat (seg (q.2.2.2 69) (rA (q.2.2.1 73) b.toInt)) (rA (q.2.2.1 73) (b.toInt + 1) - rA (q.2.2.1 73) b.toInt) g (2 ^ i) → flat b92 n.toInt g (2 ^ i)) ∧ Rm X (sA (sA (sB (sB (sF q 29 n) 92 b92) 94 b94) 93 b93) 95 b95) M') := by
            intro m c94 c95 ei ej M hM m0 hr2 hx2 hei hej
            refine hs (f := dm_lst 136 10) (lv' := [(10, .long ej), (8, .long ei), (3, .int m), (5, .int j), (4, .int i), (6, .long p), (0, .ref 68), (1, .int a), (2, .int b)]) rfl rfl ?_
            refine hs (f := dm_lld 138 8) rfl rfl ?_
            refine hs (f := dm_lld 140 10) rfl rfl ?_
            refine g_lc_ge (x := ei) (y := ej) (m := 141) (n := 144) (tt := 149) rfl rfl (fun h141 => ?_) (fun h141 => ?_)
            · skip
              have h141 : ei.toInt ≥ ej.toInt := h141
              refine hs (f := dm_lld 151 10) rfl rfl ?_
              exact j151 m c94 c95 ei ej ej _ hM m0 hr2 hx2 hei hej (by rw [← hei, ← hej]; unfold mnF; rw [if_neg (by omega)])
            · skip
              have h141 : ei.toInt < ej.toInt := h141
              refine hs (f := dm_lld 146 8) rfl rfl ?_
              refine hs (f := dm_goto 151) rfl rfl ?_
              exact j151 m c94 c95 ei ej ei _ hM m0 hr2 hx2 hei hej (by rw [← hei, ← hej]; unfold mnF; rw [if_pos (by omega)])
          have j102 : ∀ (m : Int32) (c94 : Nat → Int64) (c95 : Nat → Int32) (ei : Int64) (M : dm_Mem), Rm X (sA (sB q 94 c94) 95 c95) M → (1 ≤ m.toInt ∧ m.toInt ≤ (i.toInt - rA (q.2.2.1 73) a.toInt) + (j.toInt - rA (q.2.2.1 73) b.toInt) + 1) → (rowL c94 c95 m.toInt (layL l p (mxF ((q.2.2.1 70) i.toInt.toNat) ((q.2.2.1 70) j.toInt.toNat)))) → (tI (q.2.2.2 69) (rA (q.2.2.1 73) a.toInt) (rA (q.2.2.1 73) (a.toInt + 1)) (rA (q.2.2.1 73) b.toInt) (rA (q.2.2.1 73) (b.toInt + 1)) c94 m.toInt (p.toInt + 1)) → (ei = eF (q.2.2.2 69) i.toInt (rA (q.2.2.1 73) (a.toInt + 1))) → hG 1 cd_163 102 [(3, .int m), (5, .int j), (4, .int i), (6, .long p), (10, .long e10), (8, .long e8), (0, .ref 68), (1, .int a), (2, .int b)] [.long ei] M (fun r M' => r = none ∧ ∃ (n : Int32) (b92 b94 : Nat → Int64) (b93 b95 : Nat → Int32), wS b92 n.toInt ∧ n.toInt ≤ (rA (q.2.2.1 73) (a.toInt + 1) - rA (q.2.2.1 73) a.toInt) + (rA (q.2.2.1 73) (b.toInt + 1) - rA (q.2.2.1 73) b.toInt) ∧ rowL b92 b93 n.toInt (tgL (q.2.2.2 69) (q.2.2.1 70) (rA (q.2.2.1 73) (a.toInt + 1)) (rA (q.2.2.1 73) (b.toInt + 1)) ((rA (q.2.2.1 73) (a.toInt + 1) - rA (q.2.2.1 73) a.toInt).toNat + (rA (q.2.2.1 73) (b.toInt + 1) - rA (q.2.2.1 73) b.toInt).toNat) (rA (q.2.2.1 73) a.toInt) (rA (q.2.2.1 73) b.toInt) 0 []) ∧ (∀ (i : Nat) (g : Int), dy i g → flat (seg (q.2.2.2 69) (rA (q.2.2.1 73) a.toInt)) (rA (q.2.2.1 73) (a.toInt + 1) - rA (q.2.2.1 73) a.toInt) g (2 ^ i) → flat (seg (q.2.2.2 69) (rA (q.2.2.1 73) b.toInt)) (rA (q.2.2.1 73) (b.toInt + 1) - rA (q.2.2.1 73) b.toInt) g (2 ^ i) → flat b92 n.toInt g (2 ^ i)) ∧ Rm X (sA (sA (sB (sB (sF q 29 n) 92 b92) 94 b94) 93 b93) 95 b95) M') := by
            intro m c94 c95 ei M hM m0 hr2 hx2 hei
            refine hs (f := dm_lst 104 8) (lv' := [(8, .long ei), (3, .int m), (5, .int j), (4, .int i), (6, .long p), (10, .long e10), (0, .ref 68), (1, .int a), (2, .int b)]) rfl rfl ?_
            refine hs (f := dm_ild 106 5) rfl rfl ?_
            refine hs (f := dm_push 107 (.int 1)) rfl rfl ?_
            have e142 : (j + (1 : Int32)).toInt = j.toInt + 1 := by have w := i_addc (x := j) (y := (1 : Int32)) 1 rfl (by omega) (by omega); omega
            refine hs (f := dm_ii 108 (fun x y => x + y)) (st' := [.int (j + (1 : Int32))]) rfl rfl ?_
            refine hs (f := dm_ald 109 0) rfl rfl ?_
            refine r_geta (c := 70) rfl hM rfl ?_
            refine hs (f := dm_ild 113 2) rfl rfl ?_
            refine hs (f := dm_push 114 (.int 1)) rfl rfl ?_
            have e143 : (b + (1 : Int32)).toInt = b.toInt + 1 := by have w := i_addc (x := b) (y := (1 : Int32)) 1 rfl (by omega) (by omega); omega
            refine hs (f := dm_ii 115 (fun x y => x + y)) (st' := [.int (b + (1 : Int32)), .ref 73, .int (j + (1 : Int32))]) rfl rfl ?_
            refine r_iald (L := 1001) (i := (b + (1 : Int32))) ((q.2.2.1 73) (b + (1 : Int32)).toInt.toNat) rfl hM rfl (by omega) rfl ?_
            generalize g145 : (q.2.2.1 73) (b + (1 : Int32)).toInt.toNat = v144
            have x146 : v144.toInt = rA (q.2.2.1 73) (b.toInt + 1) := rA_of (i := (b + (1 : Int32))) g145 e143
            refine g_ic_ge (n := 119) (tt := 131) rfl (fun h147 => ?_) (fun h147 => ?_)
            · skip
              have h147 : (j + (1 : Int32)).toInt ≥ v144.toInt := h147
              refine hs (f := dm_push 134 (.long 1152921504606846976)) rfl rfl ?_
              exact j134 m c94 c95 ei (1152921504606846976 : Int64) _ hM m0 hr2 hx2 hei (by unfold eF; rw [if_neg (by omega)])
            · skip
              have h147 : (j + (1 : Int32)).toInt < v144.toInt := h147
              refine hs (f := dm_ald 120 0) rfl rfl ?_
              refine r_geta (c := 66) rfl hM rfl ?_
              refine hs (f := dm_ild 125 5) rfl rfl ?_
              refine hs (f := dm_push 126 (.int 1)) rfl rfl ?_
              have e148 : (j + (1 : Int32)).toInt = j.toInt + 1 := by have w := i_addc (x := j) (y := (1 : Int32)) 1 rfl (by omega) (by omega); omega
              refine hs (f := dm_ii 127 (fun x y => x + y)) (st' := [.int (j + (1 : Int32)), .ref 69]) rfl rfl ?_
              refine r_lald (L := 24000) (i := (j + (1 : Int32))) ((q.2.2.2 69) (j + (1 : Int32)).toInt.toNat) rfl hM rfl (by omega) rfl ?_
              generalize g150 : (q.2.2.2 69) (j + (1 : Int32)).toInt.toNat = v149
              have x151 : v149.toInt = rB (q.2.2.2 69) (j.toInt + 1) := rB_of (i := (j + (1 : Int32))) g150 e148
              refine hs (f := dm_goto 134) rfl rfl ?_
              exact j134 m c94 c95 ei v149 _ hM m0 hr2 hx2 hei (by rw [← g150, e148]; unfold eF; rw [if_pos (by omega)])
          have j71 : ∀ (m : Int32) (c94 : Nat → Int64) (c95 : Nat → Int32) (M : dm_Mem), Rm X (sA (sB q 94 c94) 95 c95) M → (1 ≤ m.toInt ∧ m.toInt ≤ (i.toInt - rA (q.2.2.1 73) a.toInt) + (j.toInt - rA (q.2.2.1 73) b.toInt) + 1) → (rowL c94 c95 m.toInt (layL l p (mxF ((q.2.2.1 70) i.toInt.toNat) ((q.2.2.1 70) j.toInt.toNat)))) → (tI (q.2.2.2 69) (rA (q.2.2.1 73) a.toInt) (rA (q.2.2.1 73) (a.toInt + 1)) (rA (q.2.2.1 73) b.toInt) (rA (q.2.2.1 73) (b.toInt + 1)) c94 m.toInt (p.toInt + 1)) → hG 1 cd_163 71 [(5, .int j), (4, .int i), (6, .long p), (10, .long e10), (8, .long e8), (3, .int n), (0, .ref 68), (1, .int a), (2, .int b)] [.int m] M (fun r M' => r = none ∧ ∃ (n : Int32) (b92 b94 : Nat → Int64) (b93 b95 : Nat → Int32), wS b92 n.toInt ∧ n.toInt ≤ (rA (q.2.2.1 73) (a.toInt + 1) - rA (q.2.2.1 73) a.toInt) + (rA (q.2.2.1 73) (b.toInt + 1) - rA (q.2.2.1 73) b.toInt) ∧ rowL b92 b93 n.toInt (tgL (q.2.2.2 69) (q.2.2.1 70) (rA (q.2.2.1 73) (a.toInt + 1)) (rA (q.2.2.1 73) (b.toInt + 1)) ((rA (q.2.2.1 73) (a.toInt + 1) - rA (q.2.2.1 73) a.toInt).toNat + (rA (q.2.2.1 73) (b.toInt + 1) - rA (q.2.2.1 73) b.toInt).toNat) (rA (q.2.2.1 73) a.toInt) (rA (q.2.2.1 73) b.toInt) 0 []) ∧ (∀ (i : Nat) (g : Int), dy i g → flat (seg (q.2.2.2 69) (rA (q.2.2.1 73) a.toInt)) (rA (q.2.2.1 73) (a.toInt + 1) - rA (q.2.2.1 73) a.toInt) g (2 ^ i) → flat (seg (q.2.2.2 69) (rA (q.2.2.1 73) b.toInt)) (rA (q.2.2.1 73) (b.toInt + 1) - rA (q.2.2.1 73) b.toInt) g (2 ^ i) → flat b92 n.toInt g (2 ^ i)) ∧ Rm X (sA (sA (sB (sB (sF q 29 n) 92 b92) 94 b94) 93 b93) 95 b95) M') := by
            intro m c94 c95 M hM m0 hr2 hx2
            refine hs (f := dm_ist 72 3) (lv' := [(3, .int m), (5, .int j), (4, .int i), (6, .long p), (10, .long e10), (8, .long e8), (0, .ref 68), (1, .int a), (2, .int b)]) rfl rfl ?_
            refine hs (f := dm_ild 74 4) rfl rfl ?_
            refine hs (f := dm_push 75 (.int 1)) rfl rfl ?_
            have e152 : (i + (1 : Int32)).toInt = i.toInt + 1 := by have w := i_addc (x := i) (y := (1 : Int32)) 1 rfl (by omega) (by omega); omega
            refine hs (f := dm_ii 76 (fun x y => x + y)) (st' := [.int (i + (1 : Int32))]) rfl rfl ?_
            refine hs (f := dm_ald 77 0) rfl rfl ?_
            refine r_geta (c := 70) rfl hM rfl ?_
            refine hs (f := dm_ild 81 1) rfl rfl ?_
            refine hs (f := dm_push 82 (.int 1)) rfl rfl ?_
            have e153 : (a + (1 : Int32)).toInt = a.toInt + 1 := by have w := i_addc (x := a) (y := (1 : Int32)) 1 rfl (by omega) (by omega); omega
            refine hs (f := dm_ii 83 (fun x y => x + y)) (st' := [.int (a + (1 : Int32)), .ref 73, .int (i + (1 : Int32))]) rfl rfl ?_
            refine r_iald (L := 1001) (i := (a + (1 : Int32))) ((q.2.2.1 73) (a + (1 : Int32)).toInt.toNat) rfl hM rfl (by omega) rfl ?_
            generalize g155 : (q.2.2.1 73) (a + (1 : Int32)).toInt.toNat = v154
            have x156 : v154.toInt = rA (q.2.2.1 73) (a.toInt + 1) := rA_of (i := (a + (1 : Int32))) g155 e153
            refine g_ic_ge (n := 87) (tt := 99) rfl (fun h157 => ?_) (fun h157 => ?_)
            · skip
              have h157 : (i + (1 : Int32)).toInt ≥ v154.toInt := h157
              refine hs (f := dm_push 102 (.long 1152921504606846976)) rfl rfl ?_
              exact j102 m c94 c95 (1152921504606846976 : Int64) _ hM m0 hr2 hx2 (by unfold eF; rw [if_neg (by omega)])
            · skip
              have h157 : (i + (1 : Int32)).toInt < v154.toInt := h157
              refine hs (f := dm_ald 88 0) rfl rfl ?_
              refine r_geta (c := 66) rfl hM rfl ?_
              refine hs (f := dm_ild 93 4) rfl rfl ?_
              refine hs (f := dm_push 94 (.int 1)) rfl rfl ?_
              have e158 : (i + (1 : Int32)).toInt = i.toInt + 1 := by have w := i_addc (x := i) (y := (1 : Int32)) 1 rfl (by omega) (by omega); omega
              refine hs (f := dm_ii 95 (fun x y => x + y)) (st' := [.int (i + (1 : Int32)), .ref 69]) rfl rfl ?_
              refine r_lald (L := 24000) (i := (i + (1 : Int32))) ((q.2.2.2 69) (i + (1 : Int32)).toInt.toNat) rfl hM rfl (by omega) rfl ?_
              generalize g160 : (q.2.2.2 69) (i + (1 : Int32)).toInt.toNat = v159
              have x161 : v159.toInt = rB (q.2.2.2 69) (i.toInt + 1) := rB_of (i := (i + (1 : Int32))) g160 e158
              refine hs (f := dm_goto 102) rfl rfl ?_
              exact j102 m c94 c95 v159 _ hM m0 hr2 hx2 (by rw [← g160, e158]; unfold eF; rw [if_pos (by omega)])
          have j68 : ∀ (v : Int32) (M : dm_Mem), Rm X (sA (sB q 94 b94) 95 b95) M → (v = mxF ((q.2.2.1 70) i.toInt.toNat) ((q.2.2.1 70) j.toInt.toNat)) → hG 1 cd_163 68 [(5, .int j), (4, .int i), (6, .long p), (10, .long e10), (8, .long e8), (3, .int n), (0, .ref 68), (1, .int a), (2, .int b)] [.int v, .long p, .int n, .ref 68] M (fun r M' => r = none ∧ ∃ (n : Int32) (b92 b94 : Nat → Int64) (b93 b95 : Nat → Int32), wS b92 n.toInt ∧ n.toInt ≤ (rA (q.2.2.1 73) (a.toInt + 1) - rA (q.2.2.1 73) a.toInt) + (rA (q.2.2.1 73) (b.toInt + 1) - rA (q.2.2.1 73) b.toInt) ∧ rowL b92 b93 n.toInt (tgL (q.2.2.2 69) (q.2.2.1 70) (rA (q.2.2.1 73) (a.toInt + 1)) (rA (q.2.2.1 73) (b.toInt + 1)) ((rA (q.2.2.1 73) (a.toInt + 1) - rA (q.2.2.1 73) a.toInt).toNat + (rA (q.2.2.1 73) (b.toInt + 1) - rA (q.2.2.1 73) b.toInt).toNat) (rA (q.2.2.1 73) a.toInt) (rA (q.2.2.1 73) b.toInt) 0 []) ∧ (∀ (i : Nat) (g : Int), dy i g → flat (seg (q.2.2.2 69) (rA (q.2.2.1 73) a.toInt)) (rA (q.2.2.1 73) (a.toInt + 1) - rA (q.2.2.1 73) a.toInt) g (2 ^ i) → flat (seg (q.2.2.2 69) (rA (q.2.2.1 73) b.toInt)) (rA (q.2.2.1 73) (b.toInt + 1) - rA (q.2.2.1 73) b.toInt) g (2 ^ i) → flat b92 n.toInt g (2 ^ i)) ∧ Rm X (sA (sA (sB (sB (sF q 29 n) 92 b92) 94 b94) 93 b93) 95 b95) M') := by
            intro v M hM hv
            refine r_inv rfl hM rfl (as := [.ref 68, .int n, .long p, .int v]) rfl (Nat.le_of_ble_eq_true rfl) (hT_mono (by decide) (r_148 hM n p v (by omega) (by omega)) (fun r1 M162 w => ?_))
            rcases w with ⟨rfl, rfl, un, uv⟩ | ⟨rfl, uv, hM162⟩
            · skip
              have uv : rA b95 (n.toInt - 1) = v.toInt := uv
              exact j71 n b94 b95 _ hM (by omega) (by rw [← hv, rowL_skip hrw un uv]; exact hrw) (tI_up hx (by omega))
            · skip
              have uv : 0 < n.toInt → ¬ rA b95 (n.toInt - 1) = v.toInt := uv
              replace hM162 := rm_to (q' := (sA (sB q 94 (vp_updL b94 n.toInt.toNat p)) 95 (upd b95 n.toInt.toNat v))) hM162 (Eq.trans (congrArg (fun z => sA z 95 (upd b95 n.toInt.toNat v)) (show sB (sA (sB q 94 b94) 95 b95) 94 (vp_updL b94 n.toInt.toNat p) = (sA (sB q 94 (vp_updL b94 n.toInt.toNat p)) 95 b95) from (congrArg (fun z => (sA z 95 b95)) (show sB (sB q 94 b94) 94 (vp_updL b94 n.toInt.toNat p) = (sB q 94 (vp_updL b94 n.toInt.toNat p)) from sB_sB)))) (show sA (sA (sB q 94 (vp_updL b94 n.toInt.toNat p)) 95 b95) 95 (upd b95 n.toInt.toNat v) = (sA (sB q 94 (vp_updL b94 n.toInt.toNat p)) 95 (upd b95 n.toInt.toNat v)) from (show sA (sA (sB q 94 (vp_updL b94 n.toInt.toNat p)) 95 b95) 95 (upd b95 n.toInt.toNat v) = (sA (sB q 94 (vp_updL b94 n.toInt.toNat p)) 95 (upd b95 n.toInt.toNat v)) from sA_sA)))
              have e163 : (n + 1).toInt = n.toInt + 1 := i_addc 1 rfl (by omega) (by omega)
              exact j71 (n + 1) (vp_updL b94 n.toInt.toNat p) (upd b95 n.toInt.toNat v) _ hM162 (by omega) (by rw [← hv, e163]; exact rowL_lay hrw (Int.toNat_of_nonneg n0.1).symm uv) (by rw [e163]; exact tI_lay hx (Int.toNat_of_nonneg n0.1).symm (Int.le_refl _) (Int.lt_add_one_of_le (Int.le_refl _)) (fun z => n1.elim (fun y => absurd y (by rw [z]; decide)) id) hpa)
          refine hs (f := dm_ald 31 0) rfl rfl ?_
          refine hs (f := dm_ild 32 3) rfl rfl ?_
          refine hs (f := dm_lld 34 6) rfl rfl ?_
          refine hs (f := dm_ald 35 0) rfl rfl ?_
          refine r_geta (c := 67) rfl hM rfl ?_
          refine hs (f := dm_ild 40 4) rfl rfl ?_
          refine r_iald (L := 24000) (i := i) ((q.2.2.1 70) i.toInt.toNat) rfl hM rfl (by omega) rfl ?_
          generalize g165 : (q.2.2.1 70) i.toInt.toNat = v164
          have x166 : v164.toInt = rA (q.2.2.1 70) i.toInt := rA_of (i := i) g165 rfl
          refine hs (f := dm_ald 42 0) rfl rfl ?_
          refine r_geta (c := 67) rfl hM rfl ?_
          refine hs (f := dm_ild 47 5) rfl rfl ?_
          refine r_iald (L := 24000) (i := j) ((q.2.2.1 70) j.toInt.toNat) rfl hM rfl (by omega) rfl ?_
          generalize g168 : (q.2.2.1 70) j.toInt.toNat = v167
          have x169 : v167.toInt = rA (q.2.2.1 70) j.toInt := rA_of (i := j) g168 rfl
          refine g_ic_le (n := 51) (tt := 61) rfl (fun h170 => ?_) (fun h170 => ?_)
          · skip
            have h170 : v164.toInt ≤ v167.toInt := h170
            refine hs (f := dm_ald 62 0) rfl rfl ?_
            refine r_geta (c := 67) rfl hM rfl ?_
            refine hs (f := dm_ild 67 5) rfl rfl ?_
            refine r_iald (L := 24000) (i := j) ((q.2.2.1 70) j.toInt.toNat) rfl hM rfl (by omega) rfl ?_
            generalize g172 : (q.2.2.1 70) j.toInt.toNat = v171
            have x173 : v171.toInt = rA (q.2.2.1 70) j.toInt := rA_of (i := j) g172 rfl
            exact j68 v171 _ hM (by rw [← g172]; exact (mx_r (by omega)).symm)
          · skip
            have h170 : v164.toInt > v167.toInt := h170
            refine hs (f := dm_ald 52 0) rfl rfl ?_
            refine r_geta (c := 67) rfl hM rfl ?_
            refine hs (f := dm_ild 57 4) rfl rfl ?_
            refine r_iald (L := 24000) (i := i) ((q.2.2.1 70) i.toInt.toNat) rfl hM rfl (by omega) rfl ?_
            generalize g175 : (q.2.2.1 70) i.toInt.toNat = v174
            have x176 : v174.toInt = rA (q.2.2.1 70) i.toInt := rA_of (i := i) g175 rfl
            refine hs (f := dm_goto 68) rfl rfl ?_
            exact j68 v174 _ hM (by rw [← g175]; exact (mx_l (by omega)).symm)
  refine hx (t := cd_163) rfl (Nat.le_of_ble_eq_true rfl) (lv := [(0, .ref 68), (1, .int a), (2, .int b)]) rfl ?_
  refine hs (f := dm_push 1 (.int 0)) rfl rfl ?_
  refine hs (f := dm_ist 2 3) (lv' := [(3, .int 0), (0, .ref 68), (1, .int a), (2, .int b)]) rfl rfl ?_
  refine hs (f := dm_ald 3 0) rfl rfl ?_
  refine r_geta (c := 70) rfl hM rfl ?_
  refine hs (f := dm_ild 7 1) rfl rfl ?_
  refine r_iald (L := 1001) (i := a) ((q.2.2.1 73) a.toInt.toNat) rfl hM rfl (by omega) rfl ?_
  generalize g178 : (q.2.2.1 73) a.toInt.toNat = v177
  have x179 : v177.toInt = rA (q.2.2.1 73) a.toInt := rA_of (i := a) g178 rfl
  refine hs (f := dm_ist 10 4) (lv' := [(4, .int v177), (3, .int 0), (0, .ref 68), (1, .int a), (2, .int b)]) rfl rfl ?_
  refine hs (f := dm_ald 11 0) rfl rfl ?_
  refine r_geta (c := 70) rfl hM rfl ?_
  refine hs (f := dm_ild 15 2) rfl rfl ?_
  refine r_iald (L := 1001) (i := b) ((q.2.2.1 73) b.toInt.toNat) rfl hM rfl (by omega) rfl ?_
  generalize g181 : (q.2.2.1 73) b.toInt.toNat = v180
  have x182 : v180.toInt = rA (q.2.2.1 73) b.toInt := rA_of (i := b) g181 rfl
  refine hs (f := dm_ist 18 5) (lv' := [(5, .int v180), (4, .int v177), (3, .int 0), (0, .ref 68), (1, .int a), (2, .int b)]) rfl rfl ?_
  refine hs (f := dm_push 19 (.long 0)) rfl rfl ?_
  refine hs (f := dm_lst 21 6) (lv' := [(6, .long 0), (5, .int v180), (4, .int v177), (3, .int 0), (0, .ref 68), (1, .int a), (2, .int b)]) rfl rfl ?_
  replace hM := rm_to (q' := (sB q 94 (q.2.2.2 94))) hM (Eq.trans (sB_id (q := q) (k := 94) (v := (q.2.2.2 94)) rfl) (show sB q 94 (q.2.2.2 94) = (sB q 94 (q.2.2.2 94)) from (show sB q 94 (q.2.2.2 94) = (sB q 94 (q.2.2.2 94)) from rfl)))
  replace hM := rm_to (q' := (sA (sB q 94 (q.2.2.2 94)) 95 (q.2.2.1 95))) hM (Eq.trans (sA_id (q := (sB q 94 (q.2.2.2 94))) (k := 95) (v := (q.2.2.1 95)) rfl) (show sA (sB q 94 (q.2.2.2 94)) 95 (q.2.2.1 95) = (sA (sB q 94 (q.2.2.2 94)) 95 (q.2.2.1 95)) from (show sA (sB q 94 (q.2.2.2 94)) 95 (q.2.2.1 95) = (sA (sB q 94 (q.2.2.2 94)) 95 (q.2.2.1 95)) from rfl)))
  exact (j21 _).1 (0 : Int32) v177 v180 (0 : Int64) 0 0 (q.2.2.2 94) (q.2.2.1 95) _ hM (by omega) (by omega) (by omega) (by omega) (by decide) (by intro _; exact ⟨by omega, (by rw [x179]; have z := hwa.2.1; rw [rB_seg (by omega), Int.add_zero] at z; show _ ≤ (0 : Int); omega), (by rw [x179]; have z := (eF_gt hwa (Int.le_refl _) h1a).1; have z2 := hwa.2.1; rw [rB_seg (by omega), Int.add_zero] at z2; show (0 : Int) < _; omega)⟩) (by intro _; exact ⟨by omega, (by rw [x182]; have z := hwb.2.1; rw [rB_seg (by omega), Int.add_zero] at z; show _ ≤ (0 : Int); omega), (by rw [x182]; have z := (eF_gt hwb (Int.le_refl _) h1b).1; have z2 := hwb.2.1; rw [rB_seg (by omega), Int.add_zero] at z2; show (0 : Int) < _; omega)⟩) (fun _ => Or.inl rfl) (by show (0 : Int) ≤ 0 ∧ (0 : Int) ≤ _; omega) (Or.inr rfl) ⟨[], _, rowL_nil, Nat.le_refl _, by rw [x179, x182]⟩ tI_nil rfl
