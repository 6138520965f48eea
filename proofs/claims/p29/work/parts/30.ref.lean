/-! the reference's memory: cell 68 its object, cells 69 to 115 its arrays; all that changes of it as a state of four functions -/
abbrev rS : Type := (Nat → Int32) × (Nat → Int64) × (Nat → Nat → Int32) × (Nat → Nat → Int64)
def sF (q : rS) (k : Nat) (v : Int32) : rS := (fun i => if i = k then v else q.1 i, q.2)
def sG (q : rS) (k : Nat) (v : Int64) : rS := (q.1, fun i => if i = k then v else q.2.1 i, q.2.2)
def sA (q : rS) (c : Nat) (a : Nat → Int32) : rS := (q.1, q.2.1, fun i => if i = c then a else q.2.2.1 i, q.2.2.2)
def sB (q : rS) (c : Nat) (a : Nat → Int64) : rS := (q.1, q.2.1, q.2.2.1, fun i => if i = c then a else q.2.2.2 i)
/-- fields: 0 an int, 1 a long, 2 a boolean, else the cell of an array -/
def rcL : List Nat := [69, 70, 71, 72, 73, 74, 75, 76, 77, 78, 79, 80, 81, 82, 83, 0, 0, 0, 84, 85, 86, 87, 88, 89, 90, 91, 0, 92, 93, 0, 94, 95, 96, 97, 0, 98, 0, 0, 1, 0, 0, 2, 99, 100, 101, 102, 103, 104, 105, 106, 107, 108, 109, 110, 111, 112, 113, 0, 0, 0, 1, 1, 114, 115, 2, 0, 0, 2]
def rfv (q : rS) (k c : Nat) : Value := match c with
  | 0 => .int (q.1 k)
  | 1 => .long (q.2.1 k)
  | 2 => .int (q.1 k)
  | n => .ref n
def rF (q : rS) : List Value := rcL.mapIdx (fun k c => rfv q k c)
/-- arrays: kind (0 int, 1 long, 2 boolean, 3 byte, 4 short) and length of the cells from 69 on -/
def raL : List (Nat × Nat) := [(1, 24000), (0, 24000), (1, 24000), (1, 24000), (0, 1001), (0, 1001), (2, 1000), (2, 1000), (2, 1000), (3, 1000), (4, 1000), (4, 1000), (0, 1000), (0, 1000), (1, 16000), (4, 3000), (4, 3000), (4, 3000), (4, 3000), (2, 3000), (2, 3000), (4, 3000), (4, 3000), (1, 24000), (0, 24000), (1, 24000), (0, 24000), (1, 24000), (1, 24000), (2, 600), (1, 24000), (0, 24000), (1, 24000), (1, 24000), (0, 1001), (0, 1001), (2, 1000), (2, 1000), (2, 1000), (3, 1000), (4, 1000), (4, 1000), (0, 1000), (0, 1000), (1, 16000), (1, 24000), (0, 24000)]
def raT (c : Nat) : Option (Nat × Nat) := if c < 69 then none else raL[c - 69]?
def raC (q : rS) (c : Nat) (t : Nat × Nat) : dm_Cell := match t.1 with
  | 0 => .inl (.int, t.2, .inl (q.2.2.1 c))
  | 1 => .inl (.long, t.2, .inr (.inl (q.2.2.2 c)))
  | 2 => .inl (.boolean, t.2, .inl (q.2.2.1 c))
  | 3 => .inl (.byte, t.2, .inl (q.2.2.1 c))
  | _ => .inl (.short, t.2, .inl (q.2.2.1 c))
/-- the memory is X but for the reference's cells, and these are q -/
def Rm (X : dm_Mem) (q : rS) (M : dm_Mem) : Prop :=
  (∀ k, k < 68 ∨ 116 ≤ k → M[k]? = X[k]?) ∧ M.length = X.length ∧ dm_slots M = dm_slots X ∧ M[68]? = some (.inr (8, rF q)) ∧ (∀ c t, raT c = some t → M[c]? = some (raC q c t)) ∧ (∀ c L, raT c = some (2, L) → ∀ i, isB (q.2.2.1 c i)) ∧ isB (q.1 41) ∧ isB (q.1 64) ∧ isB (q.1 67)
theorem raT_lt {c : Nat} {t : Nat × Nat} (h : raT c = some t) : 69 ≤ c ∧ c < 116 := by
  unfold raT at h
  split at h
  · cases h
  · have h1 := (List.getElem?_eq_some_iff.mp h).1
    have h2 : raL.length = 47 := rfl
    omega
theorem rF_len (q : rS) : (rF q).length = 68 := by
  unfold rF
  rw [List.length_mapIdx]
  rfl
theorem rF_get {q : rS} {k c : Nat} (h : rcL[k]? = some c) : (rF q)[k]? = some (rfv q k c) := by
  unfold rF
  rw [List.getElem?_mapIdx, h]
  rfl
theorem rF_set0 {q : rS} {k : Nat} {v : Int32} {c : Nat} (h : rcL[k]? = some c) (hc : c = 0 ∨ c = 2) : (rF q).set k (.int v) = rF (sF q k v) := by
  apply List.ext_getElem?
  intro i
  rw [List.getElem?_set]
  unfold rF
  simp only [List.getElem?_mapIdx, List.length_mapIdx]
  by_cases hi : k = i
  · subst hi
    have hl := (List.getElem?_eq_some_iff.mp h).1
    simp only [if_true, hl, h, Option.map_some]
    rcases hc with rfl | rfl <;> simp [rfv, sF]
  · simp only [if_neg hi]
    cases rcL[i]? with
    | none => rfl
    | some d =>
      simp only [Option.map_some]
      match d with
      | 0 => simp [rfv, sF, Ne.symm hi]
      | 1 => simp [rfv, sF]
      | 2 => simp [rfv, sF, Ne.symm hi]
      | n + 3 => rfl
theorem rF_set1 {q : rS} {k : Nat} {v : Int64} (h : rcL[k]? = some 1) : (rF q).set k (.long v) = rF (sG q k v) := by
  apply List.ext_getElem?
  intro i
  rw [List.getElem?_set]
  unfold rF
  simp only [List.getElem?_mapIdx, List.length_mapIdx]
  by_cases hi : k = i
  · subst hi
    have hl := (List.getElem?_eq_some_iff.mp h).1
    simp only [if_true, hl, h, Option.map_some]
    simp [rfv, sG]
  · simp only [if_neg hi]
    cases rcL[i]? with
    | none => rfl
    | some d =>
      simp only [Option.map_some]
      match d with
      | 0 => simp [rfv, sG]
      | 1 => simp [rfv, sG, Ne.symm hi]
      | 2 => simp [rfv, sG]
      | n + 3 => rfl
-- ===== states, put in order =====
theorem sF_sA {q : rS} {k c : Nat} {v : Int32} {a : Nat → Int32} : sF (sA q c a) k v = sA (sF q k v) c a := rfl
theorem sF_sB {q : rS} {k c : Nat} {v : Int32} {a : Nat → Int64} : sF (sB q c a) k v = sB (sF q k v) c a := rfl
theorem sF_sG {q : rS} {k c : Nat} {v : Int32} {a : Int64} : sF (sG q c a) k v = sG (sF q k v) c a := rfl
theorem sG_sA {q : rS} {k c : Nat} {v : Int64} {a : Nat → Int32} : sG (sA q c a) k v = sA (sG q k v) c a := rfl
theorem sG_sB {q : rS} {k c : Nat} {v : Int64} {a : Nat → Int64} : sG (sB q c a) k v = sB (sG q k v) c a := rfl
theorem sB_sA {q : rS} {k c : Nat} {v : Nat → Int64} {a : Nat → Int32} : sB (sA q c a) k v = sA (sB q k v) c a := rfl
theorem fu_same {α : Type} {f : Nat → α} {k : Nat} {v w : α} : (fun i => if i = k then v else if i = k then w else f i) = (fun i => if i = k then v else f i) := by
  funext i
  by_cases h : i = k <;> simp [h]
theorem fu_cm {α : Type} {f : Nat → α} {k l : Nat} {v w : α} (h : k ≠ l) : (fun i => if i = k then v else if i = l then w else f i) = (fun i => if i = l then w else if i = k then v else f i) := by
  funext i
  by_cases h1 : i = k
  · subst h1
    simp [h]
  · simp [h1]
theorem sF_sF {q : rS} {k : Nat} {v w : Int32} : sF (sF q k w) k v = sF q k v := Prod.ext fu_same rfl
theorem sG_sG {q : rS} {k : Nat} {v w : Int64} : sG (sG q k w) k v = sG q k v := Prod.ext rfl (Prod.ext fu_same rfl)
theorem sA_sA {q : rS} {k : Nat} {v w : Nat → Int32} : sA (sA q k w) k v = sA q k v := Prod.ext rfl (Prod.ext rfl (Prod.ext fu_same rfl))
theorem sB_sB {q : rS} {k : Nat} {v w : Nat → Int64} : sB (sB q k w) k v = sB q k v := Prod.ext rfl (Prod.ext rfl (Prod.ext rfl fu_same))
theorem sF_cm {q : rS} {k l : Nat} {v w : Int32} (h : k < l) : sF (sF q l w) k v = sF (sF q k v) l w := Prod.ext (fu_cm (Nat.ne_of_lt h)) rfl
theorem sG_cm {q : rS} {k l : Nat} {v w : Int64} (h : k < l) : sG (sG q l w) k v = sG (sG q k v) l w := Prod.ext rfl (Prod.ext (fu_cm (Nat.ne_of_lt h)) rfl)
theorem sA_cm {q : rS} {k l : Nat} {v w : Nat → Int32} (h : k < l) : sA (sA q l w) k v = sA (sA q k v) l w := Prod.ext rfl (Prod.ext rfl (Prod.ext (fu_cm (Nat.ne_of_lt h)) rfl))
theorem sB_cm {q : rS} {k l : Nat} {v w : Nat → Int64} (h : k < l) : sB (sB q l w) k v = sB (sB q k v) l w := Prod.ext rfl (Prod.ext rfl (Prod.ext rfl (fu_cm (Nat.ne_of_lt h))))
theorem fu_id {α : Type} {f : Nat → α} {k : Nat} {v : α} (h : f k = v) : (fun i => if i = k then v else f i) = f := by
  funext i
  by_cases e : i = k
  · subst e
    simp [h]
  · simp [e]
theorem sF_id {q : rS} {k : Nat} {v : Int32} (h : q.1 k = v) : q = sF q k v := (Prod.ext (fu_id h) rfl : sF q k v = q).symm
theorem sG_id {q : rS} {k : Nat} {v : Int64} (h : q.2.1 k = v) : q = sG q k v := (Prod.ext rfl (Prod.ext (fu_id h) rfl) : sG q k v = q).symm
theorem sA_id {q : rS} {k : Nat} {v : Nat → Int32} (h : q.2.2.1 k = v) : q = sA q k v := (Prod.ext rfl (Prod.ext rfl (Prod.ext (fu_id h) rfl)) : sA q k v = q).symm
theorem sB_id {q : rS} {k : Nat} {v : Nat → Int64} (h : q.2.2.2 k = v) : q = sB q k v := (Prod.ext rfl (Prod.ext rfl (Prod.ext rfl (fu_id h))) : sB q k v = q).symm
theorem rm_to {X : dm_Mem} {q q' : rS} {M : dm_Mem} (h : Rm X q M) (e : q = q') : Rm X q' M := e ▸ h
theorem raC_F (q : rS) (k : Nat) (v : Int32) (c : Nat) (t : Nat × Nat) : raC (sF q k v) c t = raC q c t := rfl
theorem raC_G (q : rS) (k : Nat) (v : Int64) (c : Nat) (t : Nat × Nat) : raC (sG q k v) c t = raC q c t := rfl
theorem rF_A (q : rS) (c : Nat) (a : Nat → Int32) : rF (sA q c a) = rF q := rfl
theorem rF_B (q : rS) (c : Nat) (a : Nat → Int64) : rF (sB q c a) = rF q := rfl
/-- an int or boolean field is put -/
theorem rm_F {X : dm_Mem} {q : rS} {M : dm_Mem} (h : Rm X q M) {k c : Nat} {v : Int32} (hc : rcL[k]? = some c) (h0 : c = 0 ∨ (c = 2 ∧ isB v)) : Rm X (sF q k v) (M.set 68 (.inr (8, (rF q).set k (.int v)))) := by
  obtain ⟨g1, g2, g3, g4, g5, g6, g7, g8, g9⟩ := h
  have hlt := (List.getElem?_eq_some_iff.mp g4).1
  have hB : ∀ j, rcL[j]? = some 2 → isB (q.1 j) → isB ((sF q k v).1 j) := by
    intro j hj hb
    show isB (if j = k then v else q.1 j)
    split
    · rename_i e
      subst e
      rw [hj] at hc
      cases hc
      rcases h0 with e | e
      · cases e
      · exact e.2
    · exact hb
  refine ⟨fun j hj => ?_, by simpa using g2, ?_, ?_, fun c' t hc' => ?_, g6, hB 41 rfl g7, hB 64 rfl g8, hB 67 rfl g9⟩
  · rw [List.getElem?_set_ne (by omega)]
    exact g1 j hj
  · rw [dm_slots_set M 68 _ _ g4 (by simp [dm_sz])]
    exact g3
  · rw [List.getElem?_set_self hlt, rF_set0 hc (by rcases h0 with e | e; exact Or.inl e; exact Or.inr e.1)]
  · rw [List.getElem?_set_ne (by have := raT_lt hc'; omega)]
    exact g5 c' t hc'
theorem rm_G {X : dm_Mem} {q : rS} {M : dm_Mem} (h : Rm X q M) {k : Nat} {v : Int64} (hc : rcL[k]? = some 1) : Rm X (sG q k v) (M.set 68 (.inr (8, (rF q).set k (.long v)))) := by
  obtain ⟨g1, g2, g3, g4, g5, g6, g7, g8, g9⟩ := h
  have hlt := (List.getElem?_eq_some_iff.mp g4).1
  refine ⟨fun j hj => ?_, by simpa using g2, ?_, ?_, fun c' t hc' => ?_, g6, g7, g8, g9⟩
  · rw [List.getElem?_set_ne (by omega)]
    exact g1 j hj
  · rw [dm_slots_set M 68 _ _ g4 (by simp [dm_sz])]
    exact g3
  · rw [List.getElem?_set_self hlt, rF_set1 hc]
  · rw [List.getElem?_set_ne (by have := raT_lt hc'; omega)]
    exact g5 c' t hc'
theorem raC_sA {q : rS} {c c' : Nat} {t : Nat × Nat} {a : Nat → Int32} (h : c' ≠ c) : raC (sA q c a) c' t = raC q c' t := by
  unfold raC sA
  simp only [if_neg h]
theorem raC_sB {q : rS} {c c' : Nat} {t : Nat × Nat} {a : Nat → Int64} (h : c' ≠ c) : raC (sB q c a) c' t = raC q c' t := by
  unfold raC sB
  simp only [if_neg h]
theorem rm_A {X : dm_Mem} {q : rS} {M : dm_Mem} (h : Rm X q M) {c : Nat} {t : Nat × Nat} {a : Nat → Int32} (hc : raT c = some t) (hb : t.1 = 2 → ∀ i, isB (a i)) (ht : t.1 ≠ 1) : Rm X (sA q c a) (M.set c (raC (sA q c a) c t)) := by
  obtain ⟨g1, g2, g3, g4, g5, g6, g7, g8, g9⟩ := h
  have hlt := (List.getElem?_eq_some_iff.mp (g5 c t hc)).1
  have hr := raT_lt hc
  refine ⟨fun j hj => ?_, by simpa using g2, ?_, ?_, fun c' t' hc' => ?_, fun c' L hc' i => ?_, g7, g8, g9⟩
  · rw [List.getElem?_set_ne (by omega)]
    exact g1 j hj
  · rw [dm_slots_set M c _ _ (g5 c t hc) (by obtain ⟨t1, t2⟩ := t; unfold raC; simp only; split <;> simp [dm_sz])]
    exact g3
  · rw [List.getElem?_set_ne (by omega)]
    exact g4
  · by_cases e : c' = c
    · subst e
      rw [hc] at hc'
      cases hc'
      rw [List.getElem?_set_self hlt]
    · rw [List.getElem?_set_ne (Ne.symm e), raC_sA e]
      exact g5 c' t' hc'
  · show isB ((if c' = c then a else q.2.2.1 c') i)
    split
    · rename_i e
      subst e
      rw [hc] at hc'
      cases hc'
      exact hb rfl i
    · exact g6 c' L hc' i
theorem rm_B {X : dm_Mem} {q : rS} {M : dm_Mem} (h : Rm X q M) {c L : Nat} {a : Nat → Int64} (hc : raT c = some (1, L)) : Rm X (sB q c a) (M.set c (.inl (.long, L, .inr (.inl a)))) := by
  obtain ⟨g1, g2, g3, g4, g5, g6, g7, g8, g9⟩ := h
  have hM := g5 c _ hc
  have hlt := (List.getElem?_eq_some_iff.mp hM).1
  have hr := raT_lt hc
  refine ⟨fun j hj => ?_, by simpa using g2, ?_, ?_, fun c' t' hc' => ?_, g6, g7, g8, g9⟩
  · rw [List.getElem?_set_ne (by omega)]
    exact g1 j hj
  · rw [dm_slots_set M c _ _ hM (by simp [dm_sz, raC])]
    exact g3
  · rw [List.getElem?_set_ne (by omega)]
    exact g4
  · by_cases e : c' = c
    · subst e
      rw [hc] at hc'
      cases hc'
      rw [List.getElem?_set_self hlt]
      unfold raC sB
      simp only [if_true]
    · rw [List.getElem?_set_ne (Ne.symm e), raC_sB e]
      exact g5 c' t' hc'
-- ===== rules =====
theorem r_geti {X : dm_Mem} {q : rS} {d : Nat} {t : dm_Code} {pc n k : Nat} {lv : dm_Lv} {r : List Value} {M : dm_Mem} {Q : Option Value → dm_Mem → Prop} (v : Int32) (hf : dm_fetch t pc = some (dm_getf n 8 k)) (hM : Rm X q M) (hc : rcL[k]? = some 0) (hv : q.1 k = v) (h : hG d t n lv (.int v :: r) M Q) : hG d t pc lv (.ref 68 :: r) M Q := by
  refine hs hf (dm_getf_ok (v := .int v) ?_) h
  unfold dm_fld
  rw [hM.2.2.2.1]
  simp only [if_true]
  rw [rF_get hc, ← hv]
  rfl
theorem r_getb {X : dm_Mem} {q : rS} {d : Nat} {t : dm_Code} {pc n k : Nat} {lv : dm_Lv} {r : List Value} {M : dm_Mem} {Q : Option Value → dm_Mem → Prop} (v : Int32) (hf : dm_fetch t pc = some (dm_getf n 8 k)) (hM : Rm X q M) (hc : rcL[k]? = some 2) (hv : q.1 k = v) (h : hG d t n lv (.int v :: r) M Q) : hG d t pc lv (.ref 68 :: r) M Q := by
  refine hs hf (dm_getf_ok (v := .int v) ?_) h
  unfold dm_fld
  rw [hM.2.2.2.1]
  simp only [if_true]
  rw [rF_get hc, ← hv]
  rfl
theorem r_getj {X : dm_Mem} {q : rS} {d : Nat} {t : dm_Code} {pc n k : Nat} {lv : dm_Lv} {r : List Value} {M : dm_Mem} {Q : Option Value → dm_Mem → Prop} (v : Int64) (hf : dm_fetch t pc = some (dm_getf n 8 k)) (hM : Rm X q M) (hc : rcL[k]? = some 1) (hv : q.2.1 k = v) (h : hG d t n lv (.long v :: r) M Q) : hG d t pc lv (.ref 68 :: r) M Q := by
  refine hs hf (dm_getf_ok (v := .long v) ?_) h
  unfold dm_fld
  rw [hM.2.2.2.1]
  simp only [if_true]
  rw [rF_get hc, ← hv]
  rfl
theorem r_geta {X : dm_Mem} {q : rS} {d : Nat} {t : dm_Code} {pc n k c : Nat} {lv : dm_Lv} {r : List Value} {M : dm_Mem} {Q : Option Value → dm_Mem → Prop} (hf : dm_fetch t pc = some (dm_getf n 8 k)) (hM : Rm X q M) (hc : rcL[k]? = some (c + 3)) (h : hG d t n lv (.ref (c + 3) :: r) M Q) : hG d t pc lv (.ref 68 :: r) M Q := by
  refine hs hf (dm_getf_ok (v := .ref (c + 3)) ?_) h
  unfold dm_fld
  rw [hM.2.2.2.1]
  simp only [if_true]
  rw [rF_get hc]
  rfl
theorem r_puti {X : dm_Mem} {q : rS} {d : Nat} {t : dm_Code} {pc n k : Nat} {lv : dm_Lv} {r : List Value} {M : dm_Mem} {Q : Option Value → dm_Mem → Prop} {v : Int32} (hf : dm_fetch t pc = some (dm_putf n 8 k .int)) (hM : Rm X q M) (hc : rcL[k]? = some 0) (h : ∀ M', Rm X (sF q k v) M' → hG d t n lv r M' Q) : hG d t pc lv (.int v :: .ref 68 :: r) M Q := by
  refine hs (M' := M.set 68 (.inr (8, (rF q).set k (.int v)))) (pc' := n) (lv' := lv) (st' := r) hf ?_ (h _ (rm_F hM hc (Or.inl rfl)))
  unfold dm_putf
  have hk : k < (rF q).length := by rw [rF_len]; exact (List.getElem?_eq_some_iff.mp hc).1
  simp only [hM.2.2.2.1, hk, dm_fit, and_self, if_true]
theorem r_putb {X : dm_Mem} {q : rS} {d : Nat} {t : dm_Code} {pc n k : Nat} {lv : dm_Lv} {r : List Value} {M : dm_Mem} {Q : Option Value → dm_Mem → Prop} {v : Int32} (hf : dm_fetch t pc = some (dm_putf n 8 k .boolean)) (hM : Rm X q M) (hc : rcL[k]? = some 2) (hb : isB v) (h : ∀ M', Rm X (sF q k v) M' → hG d t n lv r M' Q) : hG d t pc lv (.int v :: .ref 68 :: r) M Q := by
  refine hs (M' := M.set 68 (.inr (8, (rF q).set k (.int v)))) (pc' := n) (lv' := lv) (st' := r) hf ?_ (h _ (rm_F hM hc (Or.inr ⟨rfl, hb⟩)))
  unfold dm_putf
  have hk : k < (rF q).length := by rw [rF_len]; exact (List.getElem?_eq_some_iff.mp hc).1
  have hft : dm_fit .boolean (.int v) = true := by rcases hb with rfl | rfl <;> rfl
  simp only [hM.2.2.2.1, hk, hft, and_self, if_true]
theorem r_putj {X : dm_Mem} {q : rS} {d : Nat} {t : dm_Code} {pc n k : Nat} {lv : dm_Lv} {r : List Value} {M : dm_Mem} {Q : Option Value → dm_Mem → Prop} {v : Int64} (hf : dm_fetch t pc = some (dm_putf n 8 k .long)) (hM : Rm X q M) (hc : rcL[k]? = some 1) (h : ∀ M', Rm X (sG q k v) M' → hG d t n lv r M' Q) : hG d t pc lv (.long v :: .ref 68 :: r) M Q := by
  refine hs (M' := M.set 68 (.inr (8, (rF q).set k (.long v)))) (pc' := n) (lv' := lv) (st' := r) hf ?_ (h _ (rm_G hM hc))
  unfold dm_putf
  have hk : k < (rF q).length := by rw [rF_len]; exact (List.getElem?_eq_some_iff.mp hc).1
  simp only [hM.2.2.2.1, hk, dm_fit, and_self, if_true]
theorem r_idx {i : Int32} {L : Nat} (h : 0 ≤ i.toInt ∧ i.toInt < L) : ¬ (i < 0 ∨ L ≤ i.toNatClampNeg) := by
  have h1 := i_clamp h.1
  rintro (q | q)
  · rw [Int32.lt_iff_toInt_lt, show (0 : Int32).toInt = 0 from rfl] at q
    omega
  · omega

theorem r_iald {X : dm_Mem} {q : rS} {d : Nat} {t : dm_Code} {pc n c L : Nat} {lv : dm_Lv} {r : List Value} {M : dm_Mem} {Q : Option Value → dm_Mem → Prop} {i : Int32} (v : Int32) (hf : dm_fetch t pc = some (dm_iald n)) (hM : Rm X q M) (hc : raT c = some (0, L)) (hi : 0 ≤ i.toInt ∧ i.toInt < L) (hv : q.2.2.1 c i.toInt.toNat = v) (h : hG d t n lv (.int v :: r) M Q) : hG d t pc lv (.int i :: .ref c :: r) M Q := by
  subst hv
  refine hs hf ?_ h
  unfold dm_iald
  have h1 : M[c]? = some (.inl (.int, L, .inl (q.2.2.1 c))) := hM.2.2.2.2.1 c _ hc
  simp only [h1, if_neg (r_idx hi)]
  rfl
theorem r_zald {X : dm_Mem} {q : rS} {d : Nat} {t : dm_Code} {pc n c L : Nat} {lv : dm_Lv} {r : List Value} {M : dm_Mem} {Q : Option Value → dm_Mem → Prop} {i : Int32} (v : Int32) (hf : dm_fetch t pc = some (dm_bald n)) (hM : Rm X q M) (hc : raT c = some (2, L)) (hi : 0 ≤ i.toInt ∧ i.toInt < L) (hv : q.2.2.1 c i.toInt.toNat = v) (h : hG d t n lv (.int v :: r) M Q) : hG d t pc lv (.int i :: .ref c :: r) M Q := by
  subst hv
  refine hs hf ?_ h
  unfold dm_bald
  have h1 : M[c]? = some (.inl (.boolean, L, .inl (q.2.2.1 c))) := hM.2.2.2.2.1 c _ hc
  simp only [h1, if_neg (r_idx hi)]
  rfl
theorem r_yald {X : dm_Mem} {q : rS} {d : Nat} {t : dm_Code} {pc n c L : Nat} {lv : dm_Lv} {r : List Value} {M : dm_Mem} {Q : Option Value → dm_Mem → Prop} {i : Int32} (v : Int32) (hf : dm_fetch t pc = some (dm_bald n)) (hM : Rm X q M) (hc : raT c = some (3, L)) (hi : 0 ≤ i.toInt ∧ i.toInt < L) (hv : q.2.2.1 c i.toInt.toNat = v) (h : hG d t n lv (.int v :: r) M Q) : hG d t pc lv (.int i :: .ref c :: r) M Q := by
  subst hv
  refine hs hf ?_ h
  unfold dm_bald
  have h1 : M[c]? = some (.inl (.byte, L, .inl (q.2.2.1 c))) := hM.2.2.2.2.1 c _ hc
  simp only [h1, if_neg (r_idx hi)]
  rfl
theorem r_sald {X : dm_Mem} {q : rS} {d : Nat} {t : dm_Code} {pc n c L : Nat} {lv : dm_Lv} {r : List Value} {M : dm_Mem} {Q : Option Value → dm_Mem → Prop} {i : Int32} (v : Int32) (hf : dm_fetch t pc = some (dm_sald n)) (hM : Rm X q M) (hc : raT c = some (4, L)) (hi : 0 ≤ i.toInt ∧ i.toInt < L) (hv : q.2.2.1 c i.toInt.toNat = v) (h : hG d t n lv (.int v :: r) M Q) : hG d t pc lv (.int i :: .ref c :: r) M Q := by
  subst hv
  refine hs hf ?_ h
  unfold dm_sald
  have h1 : M[c]? = some (.inl (.short, L, .inl (q.2.2.1 c))) := hM.2.2.2.2.1 c _ hc
  simp only [h1, if_neg (r_idx hi)]
  rfl
theorem r_lald {X : dm_Mem} {q : rS} {d : Nat} {t : dm_Code} {pc n c L : Nat} {lv : dm_Lv} {r : List Value} {M : dm_Mem} {Q : Option Value → dm_Mem → Prop} {i : Int32} (v : Int64) (hf : dm_fetch t pc = some (dm_lald n)) (hM : Rm X q M) (hc : raT c = some (1, L)) (hi : 0 ≤ i.toInt ∧ i.toInt < L) (hv : q.2.2.2 c i.toInt.toNat = v) (h : hG d t n lv (.long v :: r) M Q) : hG d t pc lv (.int i :: .ref c :: r) M Q := by
  subst hv
  refine hs hf ?_ h
  unfold dm_lald
  have h1 : M[c]? = some (.inl (.long, L, .inr (.inl (q.2.2.2 c)))) := hM.2.2.2.2.1 c _ hc
  simp only [h1, if_neg (r_idx hi)]
  rfl
theorem nar_B (x : Int32) : isB (vp_nar .boolean x) := by
  unfold vp_nar
  show isB (x &&& 1)
  have h1 : (x &&& 1).toBitVec = x.toBitVec &&& 1#32 := rfl
  have h2 : (x.toBitVec &&& 1#32) = 0#32 ∨ (x.toBitVec &&& 1#32) = 1#32 := by
    have h3 : (x.toBitVec &&& 1#32).toNat ≤ (1#32).toNat := by
      rw [BitVec.toNat_and]
      exact Nat.and_le_right
    have h4 : (1#32).toNat = 1 := rfl
    rw [h4] at h3
    have h5 : (x.toBitVec &&& 1#32).toNat = 0 ∨ (x.toBitVec &&& 1#32).toNat = 1 := by omega
    rcases h5 with h5 | h5
    · exact Or.inl (BitVec.eq_of_toNat_eq h5)
    · exact Or.inr (BitVec.eq_of_toNat_eq h5)
  rcases h2 with h2 | h2
  · exact Or.inl (Int32.toBitVec_inj.mp (h1.trans h2))
  · exact Or.inr (Int32.toBitVec_inj.mp (h1.trans h2))
theorem r_iast {X : dm_Mem} {q : rS} {d : Nat} {t : dm_Code} {pc n c L : Nat} {lv : dm_Lv} {r : List Value} {M : dm_Mem} {Q : Option Value → dm_Mem → Prop} {i x : Int32} (fn : Nat → Int32) (hf : dm_fetch t pc = some (dm_iast n)) (hM : Rm X q M) (hc : raT c = some (0, L)) (hi : 0 ≤ i.toInt ∧ i.toInt < L) (hfn : q.2.2.1 c = fn) (h : ∀ M', Rm X (sA q c (upd fn i.toInt.toNat x)) M' → hG d t n lv r M' Q) : hG d t pc lv (.int x :: .int i :: .ref c :: r) M Q := by
  subst hfn
  have h1 : M[c]? = some (.inl (.int, L, .inl (q.2.2.1 c))) := hM.2.2.2.2.1 c _ hc
  refine hs (M' := M.set c (.inl (.int, L, .inl (upd (q.2.2.1 c) i.toInt.toNat x)))) (pc' := n) (lv' := lv) (st' := r) hf ?_ (h _ ?_)
  · unfold dm_iast
    simp only [h1, if_neg (r_idx hi)]
    rfl
  · have h9 := rm_A (a := upd (q.2.2.1 c) i.toInt.toNat x) hM hc (fun e j => absurd e (fun z => by cases z)) (fun z => by cases z)
    rw [show raC (sA q c (upd (q.2.2.1 c) i.toInt.toNat x)) c (0, L) = .inl (.int, L, .inl (upd (q.2.2.1 c) i.toInt.toNat x)) by
      unfold raC sA
      simp only [if_true]] at h9
    exact h9
theorem r_zast {X : dm_Mem} {q : rS} {d : Nat} {t : dm_Code} {pc n c L : Nat} {lv : dm_Lv} {r : List Value} {M : dm_Mem} {Q : Option Value → dm_Mem → Prop} {i x : Int32} (fn : Nat → Int32) (hf : dm_fetch t pc = some (dm_bast n)) (hM : Rm X q M) (hc : raT c = some (2, L)) (hi : 0 ≤ i.toInt ∧ i.toInt < L) (hfn : q.2.2.1 c = fn) (h : ∀ M', Rm X (sA q c (upd fn i.toInt.toNat (vp_nar .boolean x))) M' → hG d t n lv r M' Q) : hG d t pc lv (.int x :: .int i :: .ref c :: r) M Q := by
  subst hfn
  have h1 : M[c]? = some (.inl (.boolean, L, .inl (q.2.2.1 c))) := hM.2.2.2.2.1 c _ hc
  refine hs (M' := M.set c (.inl (.boolean, L, .inl (upd (q.2.2.1 c) i.toInt.toNat (vp_nar .boolean x))))) (pc' := n) (lv' := lv) (st' := r) hf ?_ (h _ ?_)
  · unfold dm_bast
    simp only [h1, if_neg (r_idx hi)]
    rfl
  · have h9 := rm_A (a := upd (q.2.2.1 c) i.toInt.toNat (vp_nar .boolean x)) hM hc (fun e j => by
      unfold upd
      split
      · exact nar_B x
      · exact hM.2.2.2.2.2.1 c L hc j) (fun z => by cases z)
    rw [show raC (sA q c (upd (q.2.2.1 c) i.toInt.toNat (vp_nar .boolean x))) c (2, L) = .inl (.boolean, L, .inl (upd (q.2.2.1 c) i.toInt.toNat (vp_nar .boolean x))) by
      unfold raC sA
      simp only [if_true]] at h9
    exact h9
theorem r_yast {X : dm_Mem} {q : rS} {d : Nat} {t : dm_Code} {pc n c L : Nat} {lv : dm_Lv} {r : List Value} {M : dm_Mem} {Q : Option Value → dm_Mem → Prop} {i x : Int32} (fn : Nat → Int32) (hf : dm_fetch t pc = some (dm_bast n)) (hM : Rm X q M) (hc : raT c = some (3, L)) (hi : 0 ≤ i.toInt ∧ i.toInt < L) (hfn : q.2.2.1 c = fn) (h : ∀ M', Rm X (sA q c (upd fn i.toInt.toNat (vp_nar .byte x))) M' → hG d t n lv r M' Q) : hG d t pc lv (.int x :: .int i :: .ref c :: r) M Q := by
  subst hfn
  have h1 : M[c]? = some (.inl (.byte, L, .inl (q.2.2.1 c))) := hM.2.2.2.2.1 c _ hc
  refine hs (M' := M.set c (.inl (.byte, L, .inl (upd (q.2.2.1 c) i.toInt.toNat (vp_nar .byte x))))) (pc' := n) (lv' := lv) (st' := r) hf ?_ (h _ ?_)
  · unfold dm_bast
    simp only [h1, if_neg (r_idx hi)]
    rfl
  · have h9 := rm_A (a := upd (q.2.2.1 c) i.toInt.toNat (vp_nar .byte x)) hM hc (fun e j => absurd e (fun z => by cases z)) (fun z => by cases z)
    rw [show raC (sA q c (upd (q.2.2.1 c) i.toInt.toNat (vp_nar .byte x))) c (3, L) = .inl (.byte, L, .inl (upd (q.2.2.1 c) i.toInt.toNat (vp_nar .byte x))) by
      unfold raC sA
      simp only [if_true]] at h9
    exact h9
theorem r_sast {X : dm_Mem} {q : rS} {d : Nat} {t : dm_Code} {pc n c L : Nat} {lv : dm_Lv} {r : List Value} {M : dm_Mem} {Q : Option Value → dm_Mem → Prop} {i x : Int32} (fn : Nat → Int32) (hf : dm_fetch t pc = some (dm_sast n)) (hM : Rm X q M) (hc : raT c = some (4, L)) (hi : 0 ≤ i.toInt ∧ i.toInt < L) (hfn : q.2.2.1 c = fn) (h : ∀ M', Rm X (sA q c (upd fn i.toInt.toNat (vp_nar .short x))) M' → hG d t n lv r M' Q) : hG d t pc lv (.int x :: .int i :: .ref c :: r) M Q := by
  subst hfn
  have h1 : M[c]? = some (.inl (.short, L, .inl (q.2.2.1 c))) := hM.2.2.2.2.1 c _ hc
  refine hs (M' := M.set c (.inl (.short, L, .inl (upd (q.2.2.1 c) i.toInt.toNat (vp_nar .short x))))) (pc' := n) (lv' := lv) (st' := r) hf ?_ (h _ ?_)
  · unfold dm_sast
    simp only [h1, if_neg (r_idx hi)]
    rfl
  · have h9 := rm_A (a := upd (q.2.2.1 c) i.toInt.toNat (vp_nar .short x)) hM hc (fun e j => absurd e (fun z => by cases z)) (fun z => by cases z)
    rw [show raC (sA q c (upd (q.2.2.1 c) i.toInt.toNat (vp_nar .short x))) c (4, L) = .inl (.short, L, .inl (upd (q.2.2.1 c) i.toInt.toNat (vp_nar .short x))) by
      unfold raC sA
      simp only [if_true]] at h9
    exact h9
theorem r_last {X : dm_Mem} {q : rS} {d : Nat} {t : dm_Code} {pc n c L : Nat} {lv : dm_Lv} {r : List Value} {M : dm_Mem} {Q : Option Value → dm_Mem → Prop} {i : Int32} {x : Int64} (fn : Nat → Int64) (hf : dm_fetch t pc = some (dm_last n)) (hM : Rm X q M) (hc : raT c = some (1, L)) (hi : 0 ≤ i.toInt ∧ i.toInt < L) (hfn : q.2.2.2 c = fn) (h : ∀ M', Rm X (sB q c (vp_updL fn i.toInt.toNat x)) M' → hG d t n lv r M' Q) : hG d t pc lv (.long x :: .int i :: .ref c :: r) M Q := by
  subst hfn
  have h1 : M[c]? = some (.inl (.long, L, .inr (.inl (q.2.2.2 c)))) := hM.2.2.2.2.1 c _ hc
  refine hs (M' := M.set c (.inl (.long, L, .inr (.inl (vp_updL (q.2.2.2 c) i.toInt.toNat x))))) (pc' := n) (lv' := lv) (st' := r) hf ?_ (h _ (rm_B hM hc))
  unfold dm_last
  simp only [h1, if_neg (r_idx hi)]
  rfl
theorem r_inv {X : dm_Mem} {q : rS} {d : Nat} {t : dm_Code} {pc n mj na : Nat} {lv : dm_Lv} {st r : List Value} {M : dm_Mem} {as : List Value} {Q : Option Value → dm_Mem → Prop} (hf : dm_fetch t pc = some (dm_inv n mj na 8)) (hM : Rm X q M) (hd : st.drop na = .ref 68 :: r) (hA : .ref 68 :: (st.take na).reverse = as) (hs : (r.map fun v => v.category).sum ≤ 8) (h : hT d mj as M (fun r1 M1 => hG d t n lv (r1.toList ++ r) M1 Q)) : hG d t pc lv st M Q := by
  refine hc hf ?_ h
  rw [dm_inv_ok (a := 68) ?_ hd hs, hA]
  unfold dm_isO
  rw [hM.2.2.2.1]
  simp
-- ===== comparisons as facts of Int =====
theorem g_if_eq {d : Nat} {t : dm_Code} {pc n tt : Nat} {lv : dm_Lv} {r : List Value} {M : dm_Mem} {Q : Option Value → dm_Mem → Prop} {x : Int32} (hf : dm_fetch t pc = some (dm_if_eq n tt)) (h1 : x.toInt = 0 → hG d t tt lv r M Q) (h2 : ¬ x.toInt = 0 → hG d t n lv r M Q) : hG d t pc lv (.int x :: r) M Q := by
  refine h_if_eq hf (fun h => h1 ?_) (fun h => h2 ?_)
  all_goals
    have e0 : (0 : Int32).toInt = 0 := rfl
    simp only [← Int32.toInt_inj, Int32.lt_iff_toInt_lt, Int32.le_iff_toInt_le, Decidable.not_not] at h
    omega
theorem g_if_ne {d : Nat} {t : dm_Code} {pc n tt : Nat} {lv : dm_Lv} {r : List Value} {M : dm_Mem} {Q : Option Value → dm_Mem → Prop} {x : Int32} (hf : dm_fetch t pc = some (dm_if_ne n tt)) (h1 : ¬ x.toInt = 0 → hG d t tt lv r M Q) (h2 : x.toInt = 0 → hG d t n lv r M Q) : hG d t pc lv (.int x :: r) M Q := by
  refine h_if_ne hf (fun h => h1 ?_) (fun h => h2 ?_)
  all_goals
    have e0 : (0 : Int32).toInt = 0 := rfl
    simp only [← Int32.toInt_inj, Int32.lt_iff_toInt_lt, Int32.le_iff_toInt_le, Decidable.not_not] at h
    omega
theorem g_if_lt {d : Nat} {t : dm_Code} {pc n tt : Nat} {lv : dm_Lv} {r : List Value} {M : dm_Mem} {Q : Option Value → dm_Mem → Prop} {x : Int32} (hf : dm_fetch t pc = some (dm_if_lt n tt)) (h1 : x.toInt < 0 → hG d t tt lv r M Q) (h2 : 0 ≤ x.toInt → hG d t n lv r M Q) : hG d t pc lv (.int x :: r) M Q := by
  refine h_if_lt hf (fun h => h1 ?_) (fun h => h2 ?_)
  all_goals
    have e0 : (0 : Int32).toInt = 0 := rfl
    simp only [← Int32.toInt_inj, Int32.lt_iff_toInt_lt, Int32.le_iff_toInt_le, Decidable.not_not] at h
    omega
theorem g_if_ge {d : Nat} {t : dm_Code} {pc n tt : Nat} {lv : dm_Lv} {r : List Value} {M : dm_Mem} {Q : Option Value → dm_Mem → Prop} {x : Int32} (hf : dm_fetch t pc = some (dm_if_ge n tt)) (h1 : 0 ≤ x.toInt → hG d t tt lv r M Q) (h2 : x.toInt < 0 → hG d t n lv r M Q) : hG d t pc lv (.int x :: r) M Q := by
  refine h_if_ge hf (fun h => h1 ?_) (fun h => h2 ?_)
  all_goals
    have e0 : (0 : Int32).toInt = 0 := rfl
    simp only [← Int32.toInt_inj, Int32.lt_iff_toInt_lt, Int32.le_iff_toInt_le, Decidable.not_not] at h
    omega
theorem g_if_gt {d : Nat} {t : dm_Code} {pc n tt : Nat} {lv : dm_Lv} {r : List Value} {M : dm_Mem} {Q : Option Value → dm_Mem → Prop} {x : Int32} (hf : dm_fetch t pc = some (dm_if_gt n tt)) (h1 : 0 < x.toInt → hG d t tt lv r M Q) (h2 : x.toInt ≤ 0 → hG d t n lv r M Q) : hG d t pc lv (.int x :: r) M Q := by
  refine h_if_gt hf (fun h => h1 ?_) (fun h => h2 ?_)
  all_goals
    have e0 : (0 : Int32).toInt = 0 := rfl
    simp only [← Int32.toInt_inj, Int32.lt_iff_toInt_lt, Int32.le_iff_toInt_le, Decidable.not_not] at h
    omega
theorem g_if_le {d : Nat} {t : dm_Code} {pc n tt : Nat} {lv : dm_Lv} {r : List Value} {M : dm_Mem} {Q : Option Value → dm_Mem → Prop} {x : Int32} (hf : dm_fetch t pc = some (dm_if_le n tt)) (h1 : x.toInt ≤ 0 → hG d t tt lv r M Q) (h2 : 0 < x.toInt → hG d t n lv r M Q) : hG d t pc lv (.int x :: r) M Q := by
  refine h_if_le hf (fun h => h1 ?_) (fun h => h2 ?_)
  all_goals
    have e0 : (0 : Int32).toInt = 0 := rfl
    simp only [← Int32.toInt_inj, Int32.lt_iff_toInt_lt, Int32.le_iff_toInt_le, Decidable.not_not] at h
    omega
theorem g_ic_eq {d : Nat} {t : dm_Code} {pc n tt : Nat} {lv : dm_Lv} {r : List Value} {M : dm_Mem} {Q : Option Value → dm_Mem → Prop} {x y : Int32} (hf : dm_fetch t pc = some (dm_ic_eq n tt)) (h1 : x.toInt = y.toInt → hG d t tt lv r M Q) (h2 : ¬ x.toInt = y.toInt → hG d t n lv r M Q) : hG d t pc lv (.int y :: .int x :: r) M Q := by
  refine h_ic_eq hf (fun h => h1 ?_) (fun h => h2 ?_)
  all_goals
    have e0 : (0 : Int32).toInt = 0 := rfl
    simp only [← Int32.toInt_inj, Int32.lt_iff_toInt_lt, Int32.le_iff_toInt_le, Decidable.not_not] at h
    omega
theorem g_ic_ne {d : Nat} {t : dm_Code} {pc n tt : Nat} {lv : dm_Lv} {r : List Value} {M : dm_Mem} {Q : Option Value → dm_Mem → Prop} {x y : Int32} (hf : dm_fetch t pc = some (dm_ic_ne n tt)) (h1 : ¬ x.toInt = y.toInt → hG d t tt lv r M Q) (h2 : x.toInt = y.toInt → hG d t n lv r M Q) : hG d t pc lv (.int y :: .int x :: r) M Q := by
  refine h_ic_ne hf (fun h => h1 ?_) (fun h => h2 ?_)
  all_goals
    have e0 : (0 : Int32).toInt = 0 := rfl
    simp only [← Int32.toInt_inj, Int32.lt_iff_toInt_lt, Int32.le_iff_toInt_le, Decidable.not_not] at h
    omega
theorem g_ic_lt {d : Nat} {t : dm_Code} {pc n tt : Nat} {lv : dm_Lv} {r : List Value} {M : dm_Mem} {Q : Option Value → dm_Mem → Prop} {x y : Int32} (hf : dm_fetch t pc = some (dm_ic_lt n tt)) (h1 : x.toInt < y.toInt → hG d t tt lv r M Q) (h2 : y.toInt ≤ x.toInt → hG d t n lv r M Q) : hG d t pc lv (.int y :: .int x :: r) M Q := by
  refine h_ic_lt hf (fun h => h1 ?_) (fun h => h2 ?_)
  all_goals
    have e0 : (0 : Int32).toInt = 0 := rfl
    simp only [← Int32.toInt_inj, Int32.lt_iff_toInt_lt, Int32.le_iff_toInt_le, Decidable.not_not] at h
    omega
theorem g_ic_ge {d : Nat} {t : dm_Code} {pc n tt : Nat} {lv : dm_Lv} {r : List Value} {M : dm_Mem} {Q : Option Value → dm_Mem → Prop} {x y : Int32} (hf : dm_fetch t pc = some (dm_ic_ge n tt)) (h1 : y.toInt ≤ x.toInt → hG d t tt lv r M Q) (h2 : x.toInt < y.toInt → hG d t n lv r M Q) : hG d t pc lv (.int y :: .int x :: r) M Q := by
  refine h_ic_ge hf (fun h => h1 ?_) (fun h => h2 ?_)
  all_goals
    have e0 : (0 : Int32).toInt = 0 := rfl
    simp only [← Int32.toInt_inj, Int32.lt_iff_toInt_lt, Int32.le_iff_toInt_le, Decidable.not_not] at h
    omega
theorem g_ic_gt {d : Nat} {t : dm_Code} {pc n tt : Nat} {lv : dm_Lv} {r : List Value} {M : dm_Mem} {Q : Option Value → dm_Mem → Prop} {x y : Int32} (hf : dm_fetch t pc = some (dm_ic_gt n tt)) (h1 : y.toInt < x.toInt → hG d t tt lv r M Q) (h2 : x.toInt ≤ y.toInt → hG d t n lv r M Q) : hG d t pc lv (.int y :: .int x :: r) M Q := by
  refine h_ic_gt hf (fun h => h1 ?_) (fun h => h2 ?_)
  all_goals
    have e0 : (0 : Int32).toInt = 0 := rfl
    simp only [← Int32.toInt_inj, Int32.lt_iff_toInt_lt, Int32.le_iff_toInt_le, Decidable.not_not] at h
    omega
theorem g_ic_le {d : Nat} {t : dm_Code} {pc n tt : Nat} {lv : dm_Lv} {r : List Value} {M : dm_Mem} {Q : Option Value → dm_Mem → Prop} {x y : Int32} (hf : dm_fetch t pc = some (dm_ic_le n tt)) (h1 : x.toInt ≤ y.toInt → hG d t tt lv r M Q) (h2 : y.toInt < x.toInt → hG d t n lv r M Q) : hG d t pc lv (.int y :: .int x :: r) M Q := by
  refine h_ic_le hf (fun h => h1 ?_) (fun h => h2 ?_)
  all_goals
    have e0 : (0 : Int32).toInt = 0 := rfl
    simp only [← Int32.toInt_inj, Int32.lt_iff_toInt_lt, Int32.le_iff_toInt_le, Decidable.not_not] at h
    omega
theorem g_lc_eq {d : Nat} {t : dm_Code} {pc m n tt : Nat} {lv : dm_Lv} {r : List Value} {M : dm_Mem} {Q : Option Value → dm_Mem → Prop} {x y : Int64} (hf0 : dm_fetch t pc = some (dm_lc m)) (hf : dm_fetch t m = some (dm_if_eq n tt)) (h1 : x.toInt = y.toInt → hG d t tt lv r M Q) (h2 : ¬ x.toInt = y.toInt → hG d t n lv r M Q) : hG d t pc lv (.long y :: .long x :: r) M Q := by
  refine hs (f := dm_lc m) (pc' := m) (lv' := lv) (st' := .int (lg_cmp x y) :: r) (M' := M) hf0 rfl ?_
  refine h_if_eq hf (fun h => h1 ?_) (fun h => h2 ?_)
  all_goals
    simp only [lg_cmp_ge, lg_cmp_le, lg_cmp_gt, lg_cmp_lt, lg_cmp_eq, ← Int64.toInt_inj, Int64.lt_iff_toInt_lt, Int64.le_iff_toInt_le, Decidable.not_not] at h
    omega
theorem g_lc_ne {d : Nat} {t : dm_Code} {pc m n tt : Nat} {lv : dm_Lv} {r : List Value} {M : dm_Mem} {Q : Option Value → dm_Mem → Prop} {x y : Int64} (hf0 : dm_fetch t pc = some (dm_lc m)) (hf : dm_fetch t m = some (dm_if_ne n tt)) (h1 : ¬ x.toInt = y.toInt → hG d t tt lv r M Q) (h2 : x.toInt = y.toInt → hG d t n lv r M Q) : hG d t pc lv (.long y :: .long x :: r) M Q := by
  refine hs (f := dm_lc m) (pc' := m) (lv' := lv) (st' := .int (lg_cmp x y) :: r) (M' := M) hf0 rfl ?_
  refine h_if_ne hf (fun h => h1 ?_) (fun h => h2 ?_)
  all_goals
    simp only [lg_cmp_ge, lg_cmp_le, lg_cmp_gt, lg_cmp_lt, lg_cmp_eq, ← Int64.toInt_inj, Int64.lt_iff_toInt_lt, Int64.le_iff_toInt_le, Decidable.not_not] at h
    omega
theorem g_lc_lt {d : Nat} {t : dm_Code} {pc m n tt : Nat} {lv : dm_Lv} {r : List Value} {M : dm_Mem} {Q : Option Value → dm_Mem → Prop} {x y : Int64} (hf0 : dm_fetch t pc = some (dm_lc m)) (hf : dm_fetch t m = some (dm_if_lt n tt)) (h1 : x.toInt < y.toInt → hG d t tt lv r M Q) (h2 : y.toInt ≤ x.toInt → hG d t n lv r M Q) : hG d t pc lv (.long y :: .long x :: r) M Q := by
  refine hs (f := dm_lc m) (pc' := m) (lv' := lv) (st' := .int (lg_cmp x y) :: r) (M' := M) hf0 rfl ?_
  refine h_if_lt hf (fun h => h1 ?_) (fun h => h2 ?_)
  all_goals
    simp only [lg_cmp_ge, lg_cmp_le, lg_cmp_gt, lg_cmp_lt, lg_cmp_eq, ← Int64.toInt_inj, Int64.lt_iff_toInt_lt, Int64.le_iff_toInt_le, Decidable.not_not] at h
    omega
theorem g_lc_ge {d : Nat} {t : dm_Code} {pc m n tt : Nat} {lv : dm_Lv} {r : List Value} {M : dm_Mem} {Q : Option Value → dm_Mem → Prop} {x y : Int64} (hf0 : dm_fetch t pc = some (dm_lc m)) (hf : dm_fetch t m = some (dm_if_ge n tt)) (h1 : y.toInt ≤ x.toInt → hG d t tt lv r M Q) (h2 : x.toInt < y.toInt → hG d t n lv r M Q) : hG d t pc lv (.long y :: .long x :: r) M Q := by
  refine hs (f := dm_lc m) (pc' := m) (lv' := lv) (st' := .int (lg_cmp x y) :: r) (M' := M) hf0 rfl ?_
  refine h_if_ge hf (fun h => h1 ?_) (fun h => h2 ?_)
  all_goals
    simp only [lg_cmp_ge, lg_cmp_le, lg_cmp_gt, lg_cmp_lt, lg_cmp_eq, ← Int64.toInt_inj, Int64.lt_iff_toInt_lt, Int64.le_iff_toInt_le, Decidable.not_not] at h
    omega
theorem g_lc_gt {d : Nat} {t : dm_Code} {pc m n tt : Nat} {lv : dm_Lv} {r : List Value} {M : dm_Mem} {Q : Option Value → dm_Mem → Prop} {x y : Int64} (hf0 : dm_fetch t pc = some (dm_lc m)) (hf : dm_fetch t m = some (dm_if_gt n tt)) (h1 : y.toInt < x.toInt → hG d t tt lv r M Q) (h2 : x.toInt ≤ y.toInt → hG d t n lv r M Q) : hG d t pc lv (.long y :: .long x :: r) M Q := by
  refine hs (f := dm_lc m) (pc' := m) (lv' := lv) (st' := .int (lg_cmp x y) :: r) (M' := M) hf0 rfl ?_
  refine h_if_gt hf (fun h => h1 ?_) (fun h => h2 ?_)
  all_goals
    simp only [lg_cmp_ge, lg_cmp_le, lg_cmp_gt, lg_cmp_lt, lg_cmp_eq, ← Int64.toInt_inj, Int64.lt_iff_toInt_lt, Int64.le_iff_toInt_le, Decidable.not_not] at h
    omega
theorem g_lc_le {d : Nat} {t : dm_Code} {pc m n tt : Nat} {lv : dm_Lv} {r : List Value} {M : dm_Mem} {Q : Option Value → dm_Mem → Prop} {x y : Int64} (hf0 : dm_fetch t pc = some (dm_lc m)) (hf : dm_fetch t m = some (dm_if_le n tt)) (h1 : x.toInt ≤ y.toInt → hG d t tt lv r M Q) (h2 : y.toInt < x.toInt → hG d t n lv r M Q) : hG d t pc lv (.long y :: .long x :: r) M Q := by
  refine hs (f := dm_lc m) (pc' := m) (lv' := lv) (st' := .int (lg_cmp x y) :: r) (M' := M) hf0 rfl ?_
  refine h_if_le hf (fun h => h1 ?_) (fun h => h2 ?_)
  all_goals
    simp only [lg_cmp_ge, lg_cmp_le, lg_cmp_gt, lg_cmp_lt, lg_cmp_eq, ← Int64.toInt_inj, Int64.lt_iff_toInt_lt, Int64.le_iff_toInt_le, Decidable.not_not] at h
    omega
theorem j_rng (i : Int64) : -9223372036854775808 ≤ i.toInt ∧ i.toInt ≤ 9223372036854775807 := ⟨Int64.le_toInt i, Int64.toInt_le i⟩
theorem i_add {x y : Int32} (h1 : -2147483648 ≤ x.toInt + y.toInt) (h2 : x.toInt + y.toInt ≤ 2147483647) : (x + y).toInt = x.toInt + y.toInt := by
  rw [Int32.toInt_add]
  exact Int.bmod_eq_of_le (by omega) (by omega)
theorem i_sub {x y : Int32} (h1 : -2147483648 ≤ x.toInt - y.toInt) (h2 : x.toInt - y.toInt ≤ 2147483647) : (x - y).toInt = x.toInt - y.toInt := by
  rw [Int32.toInt_sub]
  exact Int.bmod_eq_of_le (by omega) (by omega)
theorem i_mul {x y : Int32} (h1 : -2147483648 ≤ x.toInt * y.toInt) (h2 : x.toInt * y.toInt ≤ 2147483647) : (x * y).toInt = x.toInt * y.toInt := by
  rw [Int32.toInt_mul]
  exact Int.bmod_eq_of_le (by omega) (by omega)
theorem j_add {x y : Int64} (h1 : -9223372036854775808 ≤ x.toInt + y.toInt) (h2 : x.toInt + y.toInt ≤ 9223372036854775807) : (x + y).toInt = x.toInt + y.toInt := by
  rw [Int64.toInt_add]
  exact Int.bmod_eq_of_le (by omega) (by omega)
theorem j_sub {x y : Int64} (h1 : -9223372036854775808 ≤ x.toInt - y.toInt) (h2 : x.toInt - y.toInt ≤ 9223372036854775807) : (x - y).toInt = x.toInt - y.toInt := by
  rw [Int64.toInt_sub]
  exact Int.bmod_eq_of_le (by omega) (by omega)
theorem i_addc {x y : Int32} (b : Int) (hb : y.toInt = b) (h1 : -2147483648 ≤ x.toInt + b) (h2 : x.toInt + b ≤ 2147483647) : (x + y).toInt = x.toInt + b := by
  rw [← hb] at h1 h2 ⊢
  exact i_add h1 h2
theorem i_subc {x y : Int32} (b : Int) (hb : y.toInt = b) (h1 : -2147483648 ≤ x.toInt - b) (h2 : x.toInt - b ≤ 2147483647) : (x - y).toInt = x.toInt - b := by
  rw [← hb] at h1 h2 ⊢
  exact i_sub h1 h2
theorem i_mulc {x y : Int32} (b : Int) (hb : x.toInt = b) (h1 : -2147483648 ≤ b * y.toInt) (h2 : b * y.toInt ≤ 2147483647) : (x * y).toInt = b * y.toInt := by
  rw [← hb] at h1 h2 ⊢
  exact i_mul h1 h2
theorem j_addc {x y : Int64} (b : Int) (hb : y.toInt = b) (h1 : -9223372036854775808 ≤ x.toInt + b) (h2 : x.toInt + b ≤ 9223372036854775807) : (x + y).toInt = x.toInt + b := by
  rw [← hb] at h1 h2 ⊢
  exact j_add h1 h2
theorem j_subc {x y : Int64} (b : Int) (hb : y.toInt = b) (h1 : -9223372036854775808 ≤ x.toInt - b) (h2 : x.toInt - b ≤ 9223372036854775807) : (x - y).toInt = x.toInt - b := by
  rw [← hb] at h1 h2 ⊢
  exact j_sub h1 h2
/-- a place of an array, as an Int -/
def rA (a : Nat → Int32) (i : Int) : Int := (a i.toNat).toInt
def rB (a : Nat → Int64) (i : Int) : Int := (a i.toNat).toInt
theorem rA_of {a : Nat → Int32} {i : Int32} {w : Int32} {n : Int} (h : a i.toInt.toNat = w) (e : i.toInt = n) : w.toInt = rA a n := by
  rw [← h, e]
  rfl
theorem rB_of {a : Nat → Int64} {i : Int32} {w : Int64} {n : Int} (h : a i.toInt.toNat = w) (e : i.toInt = n) : w.toInt = rB a n := by
  rw [← h, e]
  rfl
theorem rA_upd {a : Nat → Int32} {i : Nat} {x : Int32} {n : Int} (hn : 0 ≤ n) : rA (upd a i x) n = if n = i then x.toInt else rA a n := by
  unfold rA upd
  by_cases h : n = i
  · rw [if_pos h, if_pos (by omega)]
  · rw [if_neg h, if_neg (by omega)]
theorem rB_upd {a : Nat → Int64} {i : Nat} {x : Int64} {n : Int} (hn : 0 ≤ n) : rB (vp_updL a i x) n = if n = i then x.toInt else rB a n := by
  unfold rB vp_updL
  by_cases h : n = i
  · rw [if_pos h, if_pos (by omega)]
  · rw [if_neg h, if_neg (by omega)]
theorem j_half {x : Int64} (h : 0 ≤ x.toInt) : (x / 2).toInt = x.toInt / 2 := by
  have h1 := j_rng x
  rw [Int64.toInt_div, show (2 : Int64).toInt = 2 from rfl, Int.tdiv_eq_ediv_of_nonneg h]
  exact Int.bmod_eq_of_le (by omega) (by omega)
theorem i_half {x : Int32} (h : 0 ≤ x.toInt) : (x / 2).toInt = x.toInt / 2 := by
  have h1 := i_rng x
  rw [Int32.toInt_div, show (2 : Int32).toInt = 2 from rfl, Int.tdiv_eq_ediv_of_nonneg h]
  exact Int.bmod_eq_of_le (by omega) (by omega)
