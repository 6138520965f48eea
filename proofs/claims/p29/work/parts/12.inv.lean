/-! what stands fast of the class's memory: cells 0 to 67 are its objects and first arrays, 68 to 115 the reference's, 116 the law's array of one long -/
def iv_tyL : List (Option Nat) := [some 7, some 2, some 6, some 3, none, some 3, none, some 3, none, some 3, none, some 3, none, some 3, none, some 3, none, some 3, none, some 3, none, some 3, none, some 2, some 6, some 3, none, some 3, none, some 3, none, some 3, none, some 3, none, some 3, none, some 3, none, some 3, none, some 3, none, some 3, none, some 0, some 3, none, some 3, none, some 3, none, some 3, none, some 3, none, some 4, some 3, none, some 3, none, some 1, some 3, none, some 1, some 3, none, some 5]
def iv_ty (a : Nat) : Option Nat := match iv_tyL[a]? with
  | some q => q
  | none => none
def iv_mostL : List Nat := [0, 0, 0, 41000, 0, 41000, 0, 1000, 0, 1000, 0, 1000, 0, 1000, 0, 1000, 0, 1000, 0, 1000, 0, 1000, 0, 0, 0, 41000, 0, 41000, 0, 1000, 0, 1000, 0, 1000, 0, 1000, 0, 1000, 0, 1000, 0, 1000, 0, 1000, 0, 0, 2000, 0, 2000, 0, 2000, 0, 2000, 0, 2000, 0, 0, 1000, 0, 1000, 0, 0, 600, 0, 0, 600, 0, 0]
def iv_most (a : Nat) : Nat := iv_mostL.getD a 0
def iv_nums : List Nat := [3, 5, 7, 9, 11, 13, 15, 17, 19, 21, 25, 27, 29, 31, 33, 35, 37, 39, 41, 43, 46, 48, 50, 52, 54, 57, 59, 62, 65]
def iv_ft : Nat → List Nat
  | 0 => [11, 11, 11, 11, 11, 0]
  | 1 => [11, 6]
  | 2 => [14, 11, 11, 11, 11, 11, 11, 11, 11, 0]
  | 3 => [3, 4]
  | 4 => [11, 11]
  | 5 => [7, 5, 0]
  | 6 => [11, 11, 0]
  | 7 => [10, 10, 8, 12, 9, 9, 13, 2, 0, 1, 0]
  | _ => []
/-- the reference's memory as it was, the image's flag, the size of the row of bits while it is read, room of elements and cells -/
abbrev iv_P : Type := dm_Mem × Int32 × Option Int32 × Nat × Nat
def iv_ok (p : iv_P) (Ls : Nat → Nat) (M : dm_Mem) (a : Nat) : Nat → Value → Prop
  | 0, v => ∃ x : Int32, v = .int x
  | 1, v => ∃ x : Int64, v = .long x
  | 2, v => v = .int p.2.1
  | 3, v => v = .int (Int32.ofNat (iv_most a))
  | 4, v => ∃ (c : Nat) (f : Nat → Int32), v = .ref c ∧ (c < 68 ∨ 117 ≤ c) ∧ M[c]? = some (.inl (.int, Ls a, .inl f))
  | 5, v => ∃ x : Int32, v = .int x ∧ ∀ z, p.2.2.1 = some z → ¬ z < 0 → ¬ x < 0
  | 6, v => ∃ x : Int32, v = .int x ∧ ∀ z, a = 61 → p.2.2.1 = some z → x = z
  | 7, v => v = .ref 61
  | n + 8, v => ∃ b : Nat, v = .ref b ∧ iv_ty b = some n
/-- what a row of numbers may still take: elements, cells -/
def iv_cr (m L : Nat) : Nat := if L < m then 3 * m - 2 * L else 0
def iv_obj (p : iv_P) (Ls : Nat → Nat) (M : dm_Mem) (a ci : Nat) (fs : List Value) : Prop := fs.length = (iv_ft ci).length ∧ ∀ k c : Nat, (iv_ft ci)[k]? = some c → ∃ v, fs[k]? = some v ∧ iv_ok p Ls M a c v
def iv_sum (f : Nat → Nat) : Nat := (iv_nums.map f).sum
def Iw (p : iv_P) (Ls : Nat → Nat) (M : dm_Mem) : Prop :=
  (∀ a ci, iv_ty a = some ci → ∃ fs, M[a]? = some (.inr (ci, fs)) ∧ iv_obj p Ls M a ci fs) ∧
  (∀ a, iv_ty a = some 3 → 32 ≤ Ls a ∧ Ls a ≤ iv_most a) ∧
  (∀ k, 68 ≤ k → k < 117 → M[k]? = p.1[k]?) ∧
  dm_slots M + iv_sum (fun a => iv_cr (iv_most a) (Ls a)) ≤ p.2.2.2.1 ∧
  M.length + iv_sum (fun a => iv_most a - Ls a) ≤ p.2.2.2.2 ∧ 117 ≤ M.length
def Iv (p : iv_P) (M : dm_Mem) : Prop := ∃ Ls, Iw p Ls M
theorem iv_sum_le {f g : Nat → Nat} (a k : Nat) (ha : a ∈ iv_nums) (h1 : ∀ b, b ≠ a → f b = g b) (h2 : f a + k ≤ g a) : iv_sum f + k ≤ iv_sum g := by
  have h3 : ∀ l : List Nat, (l.map f).sum ≤ (l.map g).sum := by
    intro l
    induction l with
    | nil => exact Nat.le_refl _
    | cons x l ih =>
      simp only [List.map_cons, List.sum_cons]
      by_cases hx : x = a
      · subst hx
        omega
      · have := h1 x hx
        omega
  have h4 : ∀ l : List Nat, a ∈ l → (l.map f).sum + k ≤ (l.map g).sum := by
    intro l
    induction l with
    | nil => intro h; cases h
    | cons x l ih =>
      intro h
      simp only [List.map_cons, List.sum_cons]
      by_cases hx : x = a
      · subst hx
        have := h3 l
        omega
      · have h5 : a ∈ l := by
          rcases List.mem_cons.mp h with h | h
          · exact absurd h.symm hx
          · exact h
        have := ih h5
        have := h1 x hx
        omega
  exact h4 _ ha
theorem iv_ty_lt {a ci : Nat} (h : iv_ty a = some ci) : a < 68 := by
  unfold iv_ty at h
  split at h
  · rename_i q e
    have := (List.getElem?_eq_some_iff.mp e).1
    exact this
  · cases h
theorem iv_all {P : Nat → Nat → Bool} (h : (List.range 68).all (fun a => match iv_ty a with
    | some ci => P a ci
    | none => true) = true) {a ci : Nat} (ha : iv_ty a = some ci) : P a ci = true := by
  have h1 := List.all_eq_true.mp h a (List.mem_range.mpr (iv_ty_lt ha))
  rw [ha] at h1
  exact h1
theorem iv_mem {a : Nat} (h : iv_ty a = some 3) : a ∈ iv_nums := by
  have h1 := iv_all (P := fun a ci => !(ci == 3) || iv_nums.contains a) (by decide) h
  simpa using h1
theorem iv_most_le {a : Nat} (h : iv_ty a = some 3) : iv_most a ≤ 41000 := by
  have h1 := iv_all (P := fun a _ => decide (iv_most a ≤ 41000)) (by decide +kernel) h
  exact of_decide_eq_true h1
theorem iv_rd {a : Nat} (h : iv_ty a = some 5) : a = 67 := by
  have h1 := iv_all (P := fun a ci => !(ci == 5) || (a == 67)) (by decide) h
  simpa using h1
theorem iv_top {a : Nat} (h : iv_ty a = some 7) : a = 0 := by
  have h1 := iv_all (P := fun a ci => !(ci == 7) || (a == 0)) (by decide) h
  simpa using h1
theorem iv_fld {p : iv_P} {Ls : Nat → Nat} {M : dm_Mem} (h : Iw p Ls M) {a ci k c : Nat} (ha : iv_ty a = some ci) (hk : (iv_ft ci)[k]? = some c) : ∃ v, dm_fld M a ci k = some v ∧ iv_ok p Ls M a c v := by
  obtain ⟨fs, h1, h2, h3⟩ := h.1 a ci ha
  obtain ⟨v, h4, h5⟩ := h3 k c hk
  refine ⟨v, ?_, h5⟩
  unfold dm_fld
  rw [h1]
  simp only [if_true]
  exact h4
theorem iv_isO {p : iv_P} {M : dm_Mem} (h : Iv p M) {a ci : Nat} (ha : iv_ty a = some ci) : dm_isO M a ci = true := by
  obtain ⟨Ls, h⟩ := h
  obtain ⟨fs, h1, -⟩ := h.1 a ci ha
  unfold dm_isO
  rw [h1]
  simp
/-- a cell that changes, but for its kind, class and length -/
theorem iv_ok_set {p : iv_P} {Ls : Nat → Nat} {M : dm_Mem} {a c b : Nat} {v : Value} {y : dm_Cell} (hy : ∀ L f, M[b]? = some (.inl (.int, L, .inl f)) → ∃ f', y = .inl (.int, L, .inl f')) (h : iv_ok p Ls M a c v) : iv_ok p Ls (M.set b y) a c v := by
  match c, h with
  | 0, h => exact h
  | 1, h => exact h
  | 2, h => exact h
  | 3, h => exact h
  | 4, h =>
    obtain ⟨c, f, h1, h2, h3⟩ := h
    by_cases hb : b = c
    · subst hb
      obtain ⟨f', rfl⟩ := hy _ _ h3
      exact ⟨b, f', h1, h2, by rw [List.getElem?_set_self (List.getElem?_eq_some_iff.mp h3).1]⟩
    · exact ⟨c, f, h1, h2, by rw [List.getElem?_set_ne hb]; exact h3⟩
  | 5, h => exact h
  | 6, h => exact h
  | 7, h => exact h
  | n + 8, h => exact h
theorem iw_put {p : iv_P} {Ls : Nat → Nat} {M : dm_Mem} (h : Iw p Ls M) {fl' : Int32} {a ci k c : Nat} {fs : List Value} {v : Value} (ha : iv_ty a = some ci) (hM : M[a]? = some (.inr (ci, fs))) (hk : (iv_ft ci)[k]? = some c) (h4 : ¬ c = 4) (hv : iv_ok (p.1, fl', p.2.2) Ls M a c v) (hfl : fl' = p.2.1 ∨ (ci = 7 ∧ k = 7)) : Iw (p.1, fl', p.2.2) Ls (M.set a (.inr (ci, fs.set k v))) := by
  obtain ⟨g1, g2, g3, g4, g5, g6⟩ := h
  have hlt := (List.getElem?_eq_some_iff.mp hM).1
  have hns : ∀ L f, M[a]? = some (.inl (.int, L, .inl f)) → ∃ f', (Sum.inr (ci, fs.set k v) : dm_Cell) = .inl (.int, L, .inl f') := fun L f e => by rw [hM] at e; cases e
  refine ⟨fun b cj hb => ?_, g2, fun j j1 j2 => ?_, ?_, ?_, by simpa using g6⟩
  · obtain ⟨gs, e1, e2, e3⟩ := g1 b cj hb
    by_cases hab : a = b
    · subst hab
      have hc : ci = cj := Option.some.inj (ha.symm.trans hb)
      subst hc
      rw [hM] at e1
      cases e1
      refine ⟨fs.set k v, List.getElem?_set_self hlt, by simpa using e2, fun j c' hj => ?_⟩
      obtain ⟨w, e4, e5⟩ := e3 j c' hj
      by_cases hjk : k = j
      · subst hjk
        have hc2 : c = c' := Option.some.inj (hk.symm.trans hj)
        subst hc2
        exact ⟨v, List.getElem?_set_self (List.getElem?_eq_some_iff.mp e4).1, iv_ok_set hns hv⟩
      · refine ⟨w, by rw [List.getElem?_set_ne hjk]; exact e4, iv_ok_set hns ?_⟩
        rcases hfl with rfl | ⟨q1, q2⟩
        · exact e5
        · subst q1
          subst q2
          by_cases hj2 : c' = 2
          · subst hj2
            exfalso
            have hj9 : j < 11 := (List.getElem?_eq_some_iff.mp hj).1
            have : ∀ j, j < 11 → (iv_ft 7)[j]? = some 2 → j = 7 := by decide
            exact hjk (this j hj9 hj).symm
          · match c', e5, hj2 with
            | 0, e5, _ => exact e5
            | 1, e5, _ => exact e5
            | 3, e5, _ => exact e5
            | 4, e5, _ => exact e5
            | 5, e5, _ => exact e5
            | 6, e5, _ => exact e5
            | 7, e5, _ => exact e5
            | n + 8, e5, _ => exact e5
    · refine ⟨gs, by rw [List.getElem?_set_ne hab]; exact e1, e2, fun j c' hj => ?_⟩
      obtain ⟨w, e4, e5⟩ := e3 j c' hj
      refine ⟨w, e4, iv_ok_set hns ?_⟩
      rcases hfl with rfl | ⟨q1, q2⟩
      · exact e5
      · subst q1
        have hb0 := iv_top ha
        by_cases hj2 : c' = 2
        · subst hj2
          exfalso
          have hcj := iv_all (P := fun b cj => (iv_ft cj).all (fun c => !(c == 2)) || (b == 0)) (by decide) hb
          rcases Bool.or_eq_true_iff.mp hcj with q | q
          · have := List.all_eq_true.mp q 2 (List.mem_of_getElem? hj)
            simp at this
          · exact hab (by rw [hb0]; exact (of_decide_eq_true q).symm)
        · match c', e5, hj2 with
          | 0, e5, _ => exact e5
          | 1, e5, _ => exact e5
          | 3, e5, _ => exact e5
          | 4, e5, _ => exact e5
          | 5, e5, _ => exact e5
          | 6, e5, _ => exact e5
          | 7, e5, _ => exact e5
          | n + 8, e5, _ => exact e5
  · rw [List.getElem?_set_ne (by have := iv_ty_lt ha; omega)]
    exact g3 j j1 j2
  · rw [dm_slots_set M a _ _ hM (by simp [dm_sz])]
    exact g4
  · simpa using g5
theorem iw_arr {p : iv_P} {Ls : Nat → Nat} {M : dm_Mem} (h : Iw p Ls M) {c L : Nat} {f g : Nat → Int32} (hM : M[c]? = some (.inl (.int, L, .inl f))) (hc : c < 68 ∨ 117 ≤ c) : Iw p Ls (M.set c (.inl (.int, L, .inl g))) := by
  obtain ⟨g1, g2, g3, g4, g5, g6⟩ := h
  have hns : ∀ L' f', M[c]? = some (.inl (.int, L', .inl f')) → ∃ f'', (Sum.inl (.int, L, .inl g) : dm_Cell) = .inl (.int, L', .inl f'') := fun L' f' e => by
    rw [hM] at e
    cases e
    exact ⟨g, rfl⟩
  refine ⟨fun b cj hb => ?_, g2, fun j j1 j2 => ?_, ?_, by simpa using g5, by simpa using g6⟩
  · obtain ⟨gs, e1, e2, e3⟩ := g1 b cj hb
    have hbc : c ≠ b := fun q => by subst q; rw [hM] at e1; cases e1
    refine ⟨gs, by rw [List.getElem?_set_ne hbc]; exact e1, e2, fun j c' hj => ?_⟩
    obtain ⟨w, e4, e5⟩ := e3 j c' hj
    exact ⟨w, e4, iv_ok_set hns e5⟩
  · rw [List.getElem?_set_ne (by omega)]
    exact g3 j j1 j2
  · rw [dm_slots_set M c _ _ hM (by simp [dm_sz])]
    exact g4
theorem iv_ok_app {p : iv_P} {Ls : Nat → Nat} {M : dm_Mem} {a c : Nat} {v : Value} {y : List dm_Cell} (h : iv_ok p Ls M a c v) : iv_ok p Ls (M ++ y) a c v := by
  match c, h with
  | 0, h => exact h
  | 1, h => exact h
  | 2, h => exact h
  | 3, h => exact h
  | 4, h =>
    obtain ⟨c, f, h1, h2, h3⟩ := h
    exact ⟨c, f, h1, h2, by rw [List.getElem?_append_left (List.getElem?_eq_some_iff.mp h3).1]; exact h3⟩
  | 5, h => exact h
  | 6, h => exact h
  | 7, h => exact h
  | n + 8, h => exact h
/-- a wider row of numbers in the place of the old one -/
theorem iw_wide {p : iv_P} {Ls : Nat → Nat} {M : dm_Mem} (h : Iw p Ls M) {a L' : Nat} {g : Nat → Int32} {fs : List Value} (ha : iv_ty a = some 3) (hM : M[a]? = some (.inr (3, fs))) (h1 : Ls a < L') (h2 : L' ≤ iv_most a) (h3 : 2 * Ls a ≤ L' ∨ L' = iv_most a) :
    Iw p (fun b => if b = a then L' else Ls b) ((M ++ [(Sum.inl (.int, L', .inl g) : dm_Cell)]).set a (.inr (3, fs.set 1 (.ref M.length)))) := by
  obtain ⟨g1, g2, g3, g4, g5, g6⟩ := h
  have hlt := (List.getElem?_eq_some_iff.mp hM).1
  have ha68 := iv_ty_lt ha
  have hMa : (M ++ [(Sum.inl (.int, L', .inl g) : dm_Cell)])[a]? = some (.inr (3, fs)) := by rw [List.getElem?_append_left hlt]; exact hM
  have hlen : (M ++ [(Sum.inl (.int, L', .inl g) : dm_Cell)]).length = M.length + 1 := by simp
  have hnew : ((M ++ [(Sum.inl (.int, L', .inl g) : dm_Cell)]).set a (.inr (3, fs.set 1 (.ref M.length))))[M.length]? = some (.inl (.int, L', .inl g)) := by
    rw [List.getElem?_set_ne (by omega)]
    simp
  have hns : ∀ L f, (M ++ [(Sum.inl (.int, L', .inl g) : dm_Cell)])[a]? = some (.inl (.int, L, .inl f)) → ∃ f', (Sum.inr (3, fs.set 1 (.ref M.length)) : dm_Cell) = .inl (.int, L, .inl f') := fun L f e => by rw [hMa] at e; cases e
  have hother : ∀ b c v, b ≠ a → iv_ok p Ls M b c v → iv_ok p (fun b => if b = a then L' else Ls b) ((M ++ [(Sum.inl (.int, L', .inl g) : dm_Cell)]).set a (.inr (3, fs.set 1 (.ref M.length)))) b c v := by
    intro b c v hb hv
    have h9 := iv_ok_set hns (iv_ok_app (y := [(Sum.inl (.int, L', .inl g) : dm_Cell)]) hv)
    match c, h9 with
    | 0, h9 => exact h9
    | 1, h9 => exact h9
    | 2, h9 => exact h9
    | 3, h9 => exact h9
    | 4, h9 =>
      show ∃ (c : Nat) (f : Nat → Int32), _
      simp only [if_neg hb]
      exact h9
    | 5, h9 => exact h9
    | 6, h9 => exact h9
    | 7, h9 => exact h9
    | n + 8, h9 => exact h9
  refine ⟨fun b cj hb => ?_, fun b hb => ?_, fun j j1 j2 => ?_, ?_, ?_, by simp; omega⟩
  · obtain ⟨gs, e1, e2, e3⟩ := g1 b cj hb
    by_cases hab : b = a
    · subst hab
      have hc : 3 = cj := Option.some.inj (ha.symm.trans hb)
      subst hc
      rw [hM] at e1
      cases e1
      refine ⟨fs.set 1 (.ref M.length), List.getElem?_set_self (by omega), by simpa using e2, fun j c' hj => ?_⟩
      obtain ⟨w, e4, e5⟩ := e3 j c' hj
      have hj2 : j < 2 := (List.getElem?_eq_some_iff.mp hj).1
      have hj3 : j = 0 ∨ j = 1 := by omega
      rcases hj3 with rfl | rfl
      · have hc' : 3 = c' := Option.some.inj hj
        subst hc'
        exact ⟨w, by rw [List.getElem?_set_ne (by omega)]; exact e4, e5⟩
      · have hc' : 4 = c' := Option.some.inj hj
        subst hc'
        refine ⟨.ref M.length, List.getElem?_set_self (List.getElem?_eq_some_iff.mp e4).1, M.length, g, rfl, Or.inr g6, ?_⟩
        simp only [if_true]
        exact hnew
    · refine ⟨gs, ?_, e2, fun j c' hj => ?_⟩
      · rw [List.getElem?_set_ne (Ne.symm hab), List.getElem?_append_left (List.getElem?_eq_some_iff.mp e1).1]
        exact e1
      · obtain ⟨w, e4, e5⟩ := e3 j c' hj
        exact ⟨w, e4, hother b c' w hab e5⟩
  · by_cases hab : b = a
    · subst hab
      simp only [if_true]
      have := (g2 b hb).1
      omega
    · simp only [if_neg hab]
      exact g2 b hb
  · rw [List.getElem?_set_ne (by omega), List.getElem?_append_left (by omega)]
    exact g3 j j1 j2
  · have hs1 : dm_slots ((M ++ [(Sum.inl (.int, L', .inl g) : dm_Cell)]).set a (.inr (3, fs.set 1 (.ref M.length)))) = dm_slots M + L' := by
      rw [dm_slots_set _ a _ _ hMa (by simp [dm_sz]), dm_slots_app]
      rfl
    have hs2 := iv_sum_le (f := fun b => iv_cr (iv_most b) (if b = a then L' else Ls b)) (g := fun b => iv_cr (iv_most b) (Ls b)) a L' (iv_mem ha) (fun b hb => by simp only [if_neg hb]) (by
      simp only [if_true]
      unfold iv_cr
      rw [if_pos (show Ls a < iv_most a by omega)]
      by_cases q : L' < iv_most a
      · rw [if_pos q]
        omega
      · rw [if_neg q]
        omega)
    show _ + iv_sum (fun b => iv_cr (iv_most b) (if b = a then L' else Ls b)) ≤ _
    rw [hs1]
    omega
  · have hs2 := iv_sum_le (f := fun b => iv_most b - (if b = a then L' else Ls b)) (g := fun b => iv_most b - Ls b) a 1 (iv_mem ha) (fun b hb => by simp only [if_neg hb]) (by simp only [if_true]; omega)
    show _ + iv_sum (fun b => iv_most b - (if b = a then L' else Ls b)) ≤ _
    simp only [List.length_set, hlen]
    omega
