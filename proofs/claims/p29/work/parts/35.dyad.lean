/-! nodes and steps: how many, and that what is flat stays flat -/
def dy (j : Nat) (f : Int) : Prop := ∃ m : Int, f = m * 2 ^ j
theorem dy_l {j : Nat} {f : Int} (h : dy (j + 1) f) : dy j f := by
  obtain ⟨m, rfl⟩ := h
  exact ⟨m * 2, by rw [p2_succ, Int.mul_assoc]⟩
theorem dy_r {j : Nat} {f : Int} (h : dy (j + 1) f) : dy j (f + 2 ^ j) := by
  obtain ⟨m, rfl⟩ := h
  exact ⟨m * 2 + 1, by rw [p2_succ, Int.add_mul, Int.mul_assoc, Int.one_mul]⟩
theorem dy_0 (j : Nat) : dy j 0 := ⟨0, by rw [Int.zero_mul]⟩
/-- all that is flat in w is flat in w' -/
def fle (w : Nat → Int64) (n : Int) (w' : Nat → Int64) (n' : Int) : Prop := ∀ (i : Nat) (g : Int), dy i g → flat w n g (2 ^ i) → flat w' n' g (2 ^ i)
theorem fle_rf (w : Nat → Int64) (n : Int) : fle w n w n := fun _ _ _ h => h
theorem fle_tr {w w' w'' : Nat → Int64} {n n' n'' : Int} (h : fle w n w' n') (h2 : fle w' n' w'' n'') : fle w n w'' n'' := fun i g hd hf => h2 i g hd (h i g hd hf)
theorem HN_mono {w w' : Nat → Int64} {n n' : Int} (h : fle w n w' n') : ∀ (j : Nat) (f : Int), dy j f → HN w' n' j f ≤ HN w n j f := by
  intro j
  induction j with
  | zero => intro f _; exact Nat.le_refl _
  | succ j ih =>
    intro f hd
    by_cases q : flat w' n' f (2 ^ (j + 1))
    · rw [HN_flat q]
      exact HN_pos _ _ _ _
    · rw [HN_not q, HN_not (fun z => q (h _ _ hd z))]
      have h1 := ih f (dy_l hd)
      have h2 := ih (f + 2 ^ j) (dy_r hd)
      omega
theorem HN_union {w a b : Nat → Int64} {n na nb : Int} (h : ∀ (i : Nat) (g : Int), dy i g → flat a na g (2 ^ i) → flat b nb g (2 ^ i) → flat w n g (2 ^ i)) : ∀ (j : Nat) (f : Int), dy j f → HN w n j f + 1 ≤ HN a na j f + HN b nb j f := by
  intro j
  induction j with
  | zero => intro f _; exact Nat.le_refl _
  | succ j ih =>
    intro f hd
    by_cases q : flat w n f (2 ^ (j + 1))
    · rw [HN_flat q]
      have := HN_pos a na (j + 1) f
      have := HN_pos b nb (j + 1) f
      omega
    · rw [HN_not q]
      have h1 := ih f (dy_l hd)
      have h2 := ih (f + 2 ^ j) (dy_r hd)
      by_cases qa : flat a na f (2 ^ (j + 1))
      · have qb : ¬ flat b nb f (2 ^ (j + 1)) := fun z => q (h _ _ hd qa z)
        rw [HN_flat qa, HN_not qb]
        have e1 : HN a na j f = 1 := HN_flat (fun i i0 i1 z => qa i i0 i1 (by rw [p2_succ]; have := p2_pos j; omega))
        have e2 : HN a na j (f + 2 ^ j) = 1 := HN_flat (fun i i0 i1 z => qa i i0 i1 (by rw [p2_succ]; have := p2_pos j; omega))
        omega
      · rw [HN_not qa]
        by_cases qb : flat b nb f (2 ^ (j + 1))
        · rw [HN_flat qb]
          have e1 : HN b nb j f = 1 := HN_flat (fun i i0 i1 z => qb i i0 i1 (by rw [p2_succ]; have := p2_pos j; omega))
          have e2 : HN b nb j (f + 2 ^ j) = 1 := HN_flat (fun i i0 i1 z => qb i i0 i1 (by rw [p2_succ]; have := p2_pos j; omega))
          omega
        · rw [HN_not qb]
          omega
/-- the first place from a on whose step isn't before m -/
theorem wS_cut {w : Nat → Int64} {n : Int} (h : wS w n) (m : Int) : ∀ (d : Nat) (a b : Int), 0 ≤ a → a ≤ b → b ≤ n → (b - a).toNat = d → ∃ c, a ≤ c ∧ c ≤ b ∧ (∀ i, a ≤ i → i < c → rB w i < m) ∧ (∀ i, c ≤ i → i < b → m ≤ rB w i) := by
  intro d
  induction d with
  | zero => intro a b a0 ab bn hd; exact ⟨a, by omega, by omega, fun i _ _ => by omega, fun i _ _ => by omega⟩
  | succ d ih =>
    intro a b a0 ab bn hd
    by_cases q : m ≤ rB w a
    · refine ⟨a, by omega, by omega, fun i _ _ => by omega, fun i i0 i1 => ?_⟩
      have := wS_le h a0 i0 (by omega)
      omega
    · obtain ⟨c, c1, c2, c3, c4⟩ := ih (a + 1) b (by omega) (by omega) bn (by omega)
      refine ⟨c, by omega, c2, fun i i0 i1 => ?_, c4⟩
      by_cases e : i = a
      · subst e; omega
      · exact c3 i (by omega) i1
theorem HN_low {w : Nat → Int64} {n : Int} (h : wS w n) : ∀ (j : Nat) (f a b : Int), 0 ≤ a → a ≤ b → b ≤ n → (∀ i, a ≤ i → i < b → f < rB w i ∧ rB w i < f + 2 ^ j) → 1 + 2 * (b - a) ≤ HN w n j f := by
  intro j
  induction j with
  | zero =>
    intro f a b a0 ab bn hi
    by_cases e : a = b
    · subst e
      have := HN_pos w n 0 f
      omega
    · have := hi a (by omega) (by omega)
      rw [show (2 : Int) ^ 0 = 1 from rfl] at this
      omega
  | succ j ih =>
    intro f a b a0 ab bn hi
    by_cases e : a = b
    · subst e
      have := HN_pos w n (j + 1) f
      omega
    · have hnf : ¬ flat w n f (2 ^ (j + 1)) := fun z => z a a0 (by omega) (hi a (by omega) (by omega))
      rw [HN_not hnf]
      obtain ⟨c, c1, c2, c3, c4⟩ := wS_cut h (f + 2 ^ j) _ a b a0 ab bn rfl
      have hp := p2_succ j
      have h1 := ih f a c a0 c1 (by omega) (fun i i0 i1 => ⟨(hi i i0 (by omega)).1, c3 i i0 i1⟩)
      by_cases e2 : c = b
      · subst e2
        have := HN_pos w n j (f + 2 ^ j)
        omega
      · have h2 := ih (f + 2 ^ j) (c + 1) b (by omega) (by omega) bn (fun i i0 i1 => by
          have h3 := c4 c (by omega) (by omega)
          have h4 := wS_lt2 h (show 0 ≤ c by omega) (show c < i by omega) (by omega)
          have h5 := hi i (by omega) i1
          omega)
        omega
theorem HN_len {w : Nat → Int64} {n : Int} (h : wS w n) : 2 * n - 1 ≤ HN w n 60 0 := by
  have h1 := h.1
  have h2 := HN_low h 60 0 1 n (by omega) h1 (by omega) (fun i i0 i1 => by
    have h3 := wS_lt2 h (show (0 : Int) ≤ 0 by omega) (show 0 < i by omega) i1
    have h4 := h.2.1
    have h5 := h.2.2.2 i (by omega) i1
    rw [show (0 : Int) + 2 ^ 60 = 1152921504606846976 from by decide]
    omega)
  omega
theorem HN_up {w : Nat → Int64} {n : Int} (h : wS w n) : ∀ (j : Nat) (f a b : Int) (d : Nat), 0 ≤ a → a ≤ b → b ≤ n → b - a = d → (∀ i, 0 ≤ i → i < n → f < rB w i → rB w i < f + 2 ^ j → a ≤ i ∧ i < b) → HN w n j f ≤ 1 + 2 * j * d := by
  intro j
  induction j with
  | zero => intro f a b d _ _ _ _ _; exact Nat.le_add_right _ _
  | succ j ih =>
    intro f a b d a0 ab bn hd hi
    by_cases q : flat w n f (2 ^ (j + 1))
    · rw [HN_flat q]
      exact Nat.le_add_right _ _
    · rw [HN_not q]
      obtain ⟨c, c1, c2, c3, c4⟩ := wS_cut h (f + 2 ^ j) _ a b a0 ab bn rfl
      have hp := p2_succ j
      have hpp := p2_pos j
      have h1 := ih f a c (c - a).toNat a0 c1 (by omega) (by omega) (fun i i0 i1 z1 z2 => by
        have h3 := hi i i0 i1 z1 (by omega)
        refine ⟨h3.1, ?_⟩
        by_cases e : i < c
        · exact e
        · have := c4 i (by omega) h3.2
          omega)
      have h2 := ih (f + 2 ^ j) c b (b - c).toNat (by omega) c2 bn (by omega) (fun i i0 i1 z1 z2 => by
        have h3 := hi i i0 i1 (by omega) (by omega)
        refine ⟨?_, h3.2⟩
        by_cases e : c ≤ i
        · exact e
        · have := c3 i h3.1 (by omega)
          omega)
      have hdp : 1 ≤ d := by
        by_cases e : a = b
        · exfalso
          apply q
          intro i i0 i1 z
          have := hi i i0 i1 z.1 z.2
          omega
        · omega
      have e1 : 2 * j * d = 2 * j * (c - a).toNat + 2 * j * (b - c).toNat := by
        rw [← Nat.mul_add]
        congr 1
        omega
      have e2 : 2 * (j + 1) * d = 2 * j * d + 2 * d := by
        rw [show 2 * (j + 1) = 2 * j + 2 by omega, Nat.add_mul]
      omega
theorem HN_max {w : Nat → Int64} {n : Int} (h : wS w n) (hn : n ≤ 24000) : HN w n 60 0 ≤ 2880001 := by
  have h1 := h.1
  have h2 := HN_up h 60 0 0 n n.toNat (by omega) (by omega) (by omega) (by omega) (fun i i0 i1 _ _ => ⟨i0, i1⟩)
  have h3 : 2 * 60 * n.toNat ≤ 2 * 60 * 24000 := Nat.mul_le_mul_left _ (by omega)
  omega
theorem mul_lt_of {a b D : Int} (hD : 0 < D) (h : a * D < b * D) : (a + 1) * D ≤ b * D := Int.mul_le_mul_of_nonneg_right (by
  have := Int.lt_of_mul_lt_mul_right h (by omega)
  omega) (by omega)
/-- a stretch set in a node that isn't flat: what was flat stays so -/
theorem fle_set {w0 w w' : Nat → Int64} {n0 n n' : Int} {J : Nat} {F f : Int} (hd : dy (J + 1) F) (hnf : ¬ flat w0 n0 F (2 ^ (J + 1))) (hf : f = F ∨ f = F + 2 ^ J) (h : fle w0 n0 w n)
    (hw : ∀ i : Int, 0 ≤ i → i < n' → rB w' i = f ∨ rB w' i = f + 2 ^ J ∨ ∃ k : Int, 0 ≤ k ∧ k < n ∧ rB w' i = rB w k) : fle w0 n0 w' n' := by
  intro i g hg hfl k k0 k1 hk
  rcases hw k k0 k1 with e | e | ⟨m, m0, m1, e⟩
  case inr.inr => rw [e] at hk; exact h i g hg hfl m m0 m1 hk
  all_goals
    have hp := p2_succ J
    have hpp := p2_pos J
    have hin : F ≤ rB w' k ∧ rB w' k ≤ F + 2 ^ (J + 1) := by rcases hf with q | q <;> omega
    have hmul : ∃ x : Int, rB w' k = x * 2 ^ J := by
      obtain ⟨m, hm⟩ := hd
      have hm2 : F = (m * 2) * 2 ^ J := by rw [hm, hp, Int.mul_assoc]
      have a1 : F + 2 ^ J = (m * 2 + 1) * 2 ^ J := by rw [Int.add_mul, Int.one_mul, ← hm2]
      have a2 : F + 2 ^ J + 2 ^ J = (m * 2 + 1 + 1) * 2 ^ J := by rw [Int.add_mul, Int.one_mul, ← a1]
      have hv : rB w' k = F ∨ rB w' k = F + 2 ^ J ∨ rB w' k = F + 2 ^ J + 2 ^ J := by rcases hf with q | q <;> omega
      rcases hv with z | z | z
      · exact ⟨m * 2, z.trans hm2⟩
      · exact ⟨m * 2 + 1, z.trans a1⟩
      · exact ⟨m * 2 + 1 + 1, z.trans a2⟩
    obtain ⟨x, hx⟩ := hmul
    obtain ⟨G, hG⟩ := hg
    by_cases hij : i ≤ J
    · obtain ⟨u, rfl⟩ : ∃ u, J = i + u := ⟨J - i, by omega⟩
      have hD := p2_pos i
      rw [Int.pow_add, Int.mul_comm (2 ^ i) (2 ^ u), ← Int.mul_assoc] at hx
      rw [hG, hx] at hk
      have h1 := mul_lt_of (by omega) hk.1
      have h2 : x * 2 ^ u * 2 ^ i < (G + 1) * 2 ^ i := by rw [Int.add_mul, Int.one_mul]; exact hk.2
      have h3 := mul_lt_of (by omega) h2
      rw [Int.add_mul, Int.one_mul] at h1 h3
      rw [Int.add_mul, Int.one_mul] at h3
      omega
    · obtain ⟨u, rfl⟩ : ∃ u, i = (J + 1) + u := ⟨i - (J + 1), by omega⟩
      obtain ⟨m, hm⟩ := hd
      have hD := p2_pos (J + 1)
      have eg : g = (G * 2 ^ u) * 2 ^ (J + 1) := by rw [hG, Int.pow_add, Int.mul_comm (2 ^ (J + 1)) (2 ^ u), Int.mul_assoc]
      have es : (2 : Int) ^ (J + 1 + u) = 2 ^ u * 2 ^ (J + 1) := by rw [Int.pow_add, Int.mul_comm]
      have hsub : g ≤ F ∧ F + 2 ^ (J + 1) ≤ g + 2 ^ (J + 1 + u) := by
        refine ⟨?_, ?_⟩
        · by_cases z : g ≤ F
          · exact z
          · exfalso
            have z2 : m * 2 ^ (J + 1) < (G * 2 ^ u) * 2 ^ (J + 1) := by rw [← hm, ← eg]; omega
            have z3 := mul_lt_of (by omega) z2
            rw [Int.add_mul, Int.one_mul, ← hm, ← eg] at z3
            omega
        · by_cases z : F + 2 ^ (J + 1) ≤ g + 2 ^ (J + 1 + u)
          · exact z
          · exfalso
            have e9 : g + 2 ^ (J + 1 + u) = (G * 2 ^ u + 2 ^ u) * 2 ^ (J + 1) := by rw [es, eg, Int.add_mul]
            have z2 : (G * 2 ^ u + 2 ^ u) * 2 ^ (J + 1) < (m + 1) * 2 ^ (J + 1) := by rw [← e9, Int.add_mul, Int.one_mul, ← hm]; omega
            have z3 := mul_lt_of (by omega) z2
            rw [Int.add_mul, Int.one_mul, ← e9, Int.add_mul, Int.one_mul, ← hm] at z3
            omega
      apply hnf
      intro a a0 a1 ha
      exact hfl a a0 a1 ⟨by omega, by omega⟩
/-! shares: spans in order -/
def oS (a b : Nat → Int64) (n : Int) : Prop := (∀ i : Int, 0 ≤ i → i < n → 0 ≤ rB a i ∧ rB a i < rB b i ∧ rB b i ≤ 1152921504606846976) ∧ (∀ i : Int, 0 ≤ i → i + 1 < n → rB b i ≤ rB a (i + 1))
theorem oS_lt {a b : Nat → Int64} {n : Int} (h : oS a b n) {i : Int} (hi : 0 ≤ i) : ∀ (d : Nat), i + (d + 1 : Nat) < n → rB b i ≤ rB a (i + (d + 1 : Nat)) := by
  intro d
  induction d with
  | zero => intro hn; exact h.2 i hi (by omega)
  | succ d ih =>
    intro hn
    have h1 := ih (by omega)
    have h2 := h.2 (i + (d + 1 : Nat)) (by omega) (by omega)
    have h3 := (h.1 (i + (d + 1 : Nat)) (by omega) (by omega)).2.1
    rw [show i + ((d + 1 + 1 : Nat) : Int) = i + ((d + 1 : Nat) : Int) + 1 by omega]
    omega
theorem oS_lt2 {a b : Nat → Int64} {n : Int} (h : oS a b n) {i j : Int} (hi : 0 ≤ i) (hij : i < j) (hj : j < n) : rB b i ≤ rB a j := by
  have h1 := oS_lt h hi (j - i - 1).toNat (by omega)
  rw [show i + (((j - i - 1).toNat + 1 : Nat) : Int) = j by omega] at h1
  exact h1
theorem oS_ma {a b : Nat → Int64} {n : Int} (h : oS a b n) {i j : Int} (hi : 0 ≤ i) (hij : i ≤ j) (hj : j < n) : rB a i ≤ rB a j := by
  by_cases e : i = j
  · subst e; omega
  · have h1 := oS_lt2 h hi (show i < j by omega) hj
    have h2 := (h.1 i hi (by omega)).2.1
    omega
theorem oS_mb {a b : Nat → Int64} {n : Int} (h : oS a b n) {i j : Int} (hi : 0 ≤ i) (hij : i ≤ j) (hj : j < n) : rB b i ≤ rB b j := by
  by_cases e : i = j
  · subst e; omega
  · have h1 := oS_lt2 h hi (show i < j by omega) hj
    have h2 := (h.1 j (by omega) hj).2.1
    omega
theorem pF_cases (a b : Nat → Int64) (n f t : Int) : ∀ (d : Nat) (k : Int), (n - k).toNat = d → (pF a b n f t d k = 0 ∧ ∀ i, k ≤ i → i < n → rB b i ≤ f) ∨ ∃ m, k ≤ m ∧ m < n ∧ (∀ i, k ≤ i → i < m → rB b i ≤ f) ∧ f < rB b m ∧ ((t ≤ rB a m ∧ pF a b n f t d k = 0) ∨ (rB a m < t ∧ rB a m ≤ f ∧ t ≤ rB b m ∧ pF a b n f t d k = 1) ∨ (rB a m < t ∧ ¬ (rB a m ≤ f ∧ t ≤ rB b m) ∧ pF a b n f t d k = 2)) := by
  intro d
  induction d with
  | zero => intro k hd; exact Or.inl ⟨rfl, fun i _ _ => by omega⟩
  | succ d ih =>
    intro k hd
    rw [pF, if_neg (by omega)]
    by_cases h1 : rB b k ≤ f
    · rw [if_pos h1]
      rcases ih (k + 1) (by omega) with ⟨e, h2⟩ | ⟨m, m1, m2, m3, m4⟩
      · refine Or.inl ⟨e, fun i i0 i1 => ?_⟩
        by_cases q : i = k
        · subst q; exact h1
        · exact h2 i (by omega) i1
      · refine Or.inr ⟨m, by omega, m2, fun i i0 i1 => ?_, m4⟩
        by_cases q : i = k
        · subst q; exact h1
        · exact m3 i (by omega) i1
    · rw [if_neg h1]
      refine Or.inr ⟨k, by omega, by omega, fun i _ _ => by omega, by omega, ?_⟩
      by_cases h2 : t ≤ rB a k
      · rw [if_pos h2]
        exact Or.inl ⟨h2, rfl⟩
      · rw [if_neg h2]
        by_cases h3 : rB a k ≤ f ∧ t ≤ rB b k
        · rw [if_pos h3]
          exact Or.inr (Or.inl ⟨by omega, h3.1, h3.2, rfl⟩)
        · rw [if_neg h3]
          exact Or.inr (Or.inr ⟨by omega, h3, rfl⟩)
theorem Part_cases (a b : Nat → Int64) (n f s : Int) : (Part a b n f s = 0 ∧ ∀ i, 0 ≤ i → i < n → rB b i ≤ f) ∨ ∃ m, 0 ≤ m ∧ m < n ∧ (∀ i, 0 ≤ i → i < m → rB b i ≤ f) ∧ f < rB b m ∧ ((f + s ≤ rB a m ∧ Part a b n f s = 0) ∨ (rB a m < f + s ∧ rB a m ≤ f ∧ f + s ≤ rB b m ∧ Part a b n f s = 1) ∨ (rB a m < f + s ∧ ¬ (rB a m ≤ f ∧ f + s ≤ rB b m) ∧ Part a b n f s = 2)) := pF_cases a b n f (f + s) n.toNat 0 (by rw [Int.sub_zero])
/-- what isn't empty has a half that isn't -/
theorem Part_half {a b : Nat → Int64} {n f s : Int} (hs : 0 ≤ s) (ho : ∀ i : Int, 0 ≤ i → i < n → rB a i < rB b i) (h : ¬ Part a b n f (s + s) = 0) (hl : Part a b n f s = 0) : ¬ Part a b n (f + s) s = 0 := by
  rcases Part_cases a b n f (s + s) with ⟨e, _⟩ | ⟨m, m0, m1, m2, m3, m4⟩
  · exact absurd e h
  · have hm4 : rB a m < f + (s + s) := by
      rcases m4 with ⟨q1, q2⟩ | q | q
      · exact absurd q2 h
      · exact q.1
      · exact q.1
    -- the left half begins with the same span
    have ham : f + s ≤ rB a m := by
      rcases Part_cases a b n f s with ⟨e, z⟩ | ⟨k, k0, k1, k2, k3, k4⟩
      · have := z m m0 m1
        omega
      · have hkm : k = m := by
          by_cases z1 : k < m
          · have := m2 k k0 z1; omega
          · by_cases z2 : m < k
            · have := k2 m m0 z2; omega
            · omega
        subst hkm
        rcases k4 with q | q | q
        · exact q.1
        · have := q.2.2.2; omega
        · have := q.2.2; omega
    have hbm := ho m m0 m1
    rcases Part_cases a b n (f + s) s with ⟨e, z⟩ | ⟨k, k0, k1, k2, k3, k4⟩
    · have := z m m0 m1
      omega
    · have hkm : k = m := by
        by_cases z1 : k < m
        · have := m2 k k0 z1; omega
        · by_cases z2 : m < k
          · have := k2 m m0 z2; omega
          · omega
      subst hkm
      rcases k4 with q | q | q
      · omega
      · omega
      · omega
theorem mo_cut {w : Nat → Int64} {n : Int} (h : ∀ i j : Int, 0 ≤ i → i ≤ j → j < n → rB w i ≤ rB w j) (m : Int) : ∀ (d : Nat) (a b : Int), 0 ≤ a → a ≤ b → b ≤ n → (b - a).toNat = d → ∃ c, a ≤ c ∧ c ≤ b ∧ (∀ i, a ≤ i → i < c → rB w i < m) ∧ (∀ i, c ≤ i → i < b → m ≤ rB w i) := by
  intro d
  induction d with
  | zero => intro a b a0 ab bn hd; exact ⟨a, by omega, by omega, fun i _ _ => by omega, fun i _ _ => by omega⟩
  | succ d ih =>
    intro a b a0 ab bn hd
    by_cases q : m ≤ rB w a
    · refine ⟨a, by omega, by omega, fun i _ _ => by omega, fun i i0 i1 => ?_⟩
      have := h a i a0 i0 (by omega)
      omega
    · obtain ⟨c, c1, c2, c3, c4⟩ := ih (a + 1) b (by omega) (by omega) bn (by omega)
      refine ⟨c, by omega, c2, fun i i0 i1 => ?_, c4⟩
      by_cases e : i = a
      · subst e; omega
      · exact c3 i (by omega) i1
theorem SN_low {a b : Nat → Int64} {n : Int} (h : oS a b n) : ∀ (j : Nat) (f c d : Int), 0 ≤ c → c ≤ d → d ≤ n → (∀ i, c ≤ i → i < d → rB a i < f + 2 ^ j ∧ f < rB b i) → 2 * (d - c) - 1 ≤ SN a b n j f := by
  intro j
  induction j with
  | zero =>
    intro f c d c0 cd dn hi
    by_cases e : d - c ≤ 1
    · have := SN_pos a b n 0 f
      omega
    · exfalso
      have h1 := hi c (by omega) (by omega)
      have h2 := hi (c + 1) (by omega) (by omega)
      have h3 := h.2 c c0 (by omega)
      rw [show (2 : Int) ^ 0 = 1 from rfl] at h1 h2
      omega
  | succ j ih =>
    intro f c d c0 cd dn hi
    by_cases e : d - c ≤ 1
    · have := SN_pos a b n (j + 1) f
      omega
    · have hp := p2_succ j
      have hpp := p2_pos j
      have h1 := hi c (by omega) (by omega)
      have h2 := hi (c + 1) (by omega) (by omega)
      have h3 := h.2 c c0 (by omega)
      have hP : ¬ Part a b n f (2 ^ (j + 1)) < 2 := by
        rcases Part_cases a b n f (2 ^ (j + 1)) with ⟨_, z⟩ | ⟨m, m0, m1, m2, m3, m4⟩
        · have := z c c0 (by omega)
          omega
        · have hmc : m ≤ c := by
            by_cases z : m ≤ c
            · exact z
            · have := m2 c c0 (by omega)
              omega
          rcases m4 with q | q | q
          · have := oS_ma h m0 hmc (by omega)
            omega
          · have := oS_lt2 h m0 (show m < c + 1 by omega) (by omega)
            omega
          · omega
      rw [SN_not hP]
      obtain ⟨m, m1, m2, m3, m4⟩ := mo_cut (fun i j i0 ij jn => oS_ma h i0 ij jn) (f + 2 ^ j) _ c d c0 cd dn rfl
      have g1 := ih f c m c0 m1 (by omega) (fun i i0 i1 => ⟨m3 i i0 i1, (hi i i0 (by omega)).2⟩)
      have g2 := ih (f + 2 ^ j) m d (by omega) m2 dn (fun i i0 i1 => by
        have q1 := m4 i i0 i1
        have q2 := (h.1 i (by omega) (by omega)).2.1
        have q3 := (hi i (by omega) i1).1
        omega)
      have p1 := SN_pos a b n j f
      have p2 := SN_pos a b n j (f + 2 ^ j)
      omega
theorem SN_len {a b : Nat → Int64} {n : Int} (h : oS a b n) (hn : 0 ≤ n) : 2 * n - 1 ≤ SN a b n 60 0 := by
  have h1 := SN_low h 60 0 0 n (by omega) hn (by omega) (fun i i0 i1 => by
    have h2 := h.1 i i0 i1
    rw [show (0 : Int) + 2 ^ 60 = 1152921504606846976 from by decide]
    omega)
  omega
theorem SN_up {a b : Nat → Int64} {n : Int} (h : oS a b n) : ∀ (j : Nat) (f p q r u : Int) (d e : Nat), 0 ≤ p → p ≤ q → q ≤ n → 0 ≤ r → r ≤ u → u ≤ n → q - p = d → u - r = e → (∀ i, 0 ≤ i → i < n → f < rB a i → rB a i < f + 2 ^ j → p ≤ i ∧ i < q) → (∀ i, 0 ≤ i → i < n → f < rB b i → rB b i < f + 2 ^ j → r ≤ i ∧ i < u) → SN a b n j f ≤ 1 + 2 * j * (d + e) := by
  intro j
  induction j with
  | zero => intro f p q r u d e _ _ _ _ _ _ _ _ _ _; exact Nat.le_add_right _ _
  | succ j ih =>
    intro f p q r u d e p0 pq qn r0 ru un hd he ha hb
    by_cases hP : Part a b n f (2 ^ (j + 1)) < 2
    · rw [SN_lt hP]
      exact Nat.le_add_right _ _
    · rw [SN_not hP]
      have hp := p2_succ j
      have hpp := p2_pos j
      obtain ⟨c, c1, c2, c3, c4⟩ := mo_cut (fun i j i0 ij jn => oS_ma h i0 ij jn) (f + 2 ^ j) _ p q p0 pq qn rfl
      obtain ⟨x, x1, x2, x3, x4⟩ := mo_cut (fun i j i0 ij jn => oS_mb h i0 ij jn) (f + 2 ^ j) _ r u r0 ru un rfl
      have h1 := ih f p c r x (c - p).toNat (x - r).toNat p0 c1 (by omega) r0 x1 (by omega) (by omega) (by omega) (fun i i0 i1 z1 z2 => by
        have h3 := ha i i0 i1 z1 (by omega)
        refine ⟨h3.1, ?_⟩
        by_cases e : i < c
        · exact e
        · have := c4 i (by omega) h3.2
          omega) (fun i i0 i1 z1 z2 => by
        have h3 := hb i i0 i1 z1 (by omega)
        refine ⟨h3.1, ?_⟩
        by_cases e : i < x
        · exact e
        · have := x4 i (by omega) h3.2
          omega)
      have h2 := ih (f + 2 ^ j) c q x u (q - c).toNat (u - x).toNat (by omega) c2 qn (by omega) x2 un (by omega) (by omega) (fun i i0 i1 z1 z2 => by
        have h3 := ha i i0 i1 (by omega) (by omega)
        refine ⟨?_, h3.2⟩
        by_cases e : c ≤ i
        · exact e
        · have := c3 i h3.1 (by omega)
          omega) (fun i i0 i1 z1 z2 => by
        have h3 := hb i i0 i1 (by omega) (by omega)
        refine ⟨?_, h3.2⟩
        by_cases e : x ≤ i
        · exact e
        · have := x3 i h3.1 (by omega)
          omega)
      have hdp : 1 ≤ d + e := by
        rcases Part_cases a b n f (2 ^ (j + 1)) with ⟨z, _⟩ | ⟨m, m0, m1, m2, m3, m4⟩
        · omega
        · rcases m4 with z | z | z
          · omega
          · omega
          · by_cases z1 : rB a m ≤ f
            · have := hb m m0 m1 (by omega) (by omega)
              omega
            · have := ha m m0 m1 (by omega) (by omega)
              omega
      have e1 : 2 * j * (d + e) = 2 * j * ((c - p).toNat + (x - r).toNat) + 2 * j * ((q - c).toNat + (u - x).toNat) := by
        rw [← Nat.mul_add]
        congr 1
        omega
      have e2 : 2 * (j + 1) * (d + e) = 2 * j * (d + e) + 2 * (d + e) := by
        rw [show 2 * (j + 1) = 2 * j + 2 by omega, Nat.add_mul]
      omega
theorem SN_max {a b : Nat → Int64} {n : Int} (h : oS a b n) (h0 : 0 ≤ n) (hn : n ≤ 24000) : SN a b n 60 0 ≤ 5760001 := by
  have h2 := SN_up h 60 0 0 n 0 n n.toNat n.toNat (by omega) (by omega) (by omega) (by omega) (by omega) (by omega) (by omega) (by omega) (fun i i0 i1 _ _ => ⟨i0, i1⟩) (fun i i0 i1 _ _ => ⟨i0, i1⟩)
  have h3 : 2 * 60 * (n.toNat + n.toNat) ≤ 2 * 60 * 48000 := Nat.mul_le_mul_left _ (by omega)
  omega
