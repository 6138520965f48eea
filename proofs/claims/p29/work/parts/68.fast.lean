/-! what stands fast while the law runs -/
theorem Iv_re {X : dm_Mem} {fl : Int32} {z : Option Int32} {S C : Nat} {M : dm_Mem} (h : Iv (X, fl, z, S, C) M) : Iv (M, fl, z, S, C) M ∧ ∀ k, 68 ≤ k → k < 117 → M[k]? = X[k]? := by
  obtain ⟨Ls, g1, g2, g3, g4, g5, g6⟩ := h
  refine ⟨⟨Ls, fun a ci ha => ?_, g2, fun k _ _ => rfl, g4, g5, g6⟩, g3⟩
  obtain ⟨fs, e1, e2, e3⟩ := g1 a ci ha
  refine ⟨fs, e1, e2, fun k c hk => ?_⟩
  obtain ⟨v, e4, e5⟩ := e3 k c hk
  refine ⟨v, e4, ?_⟩
  match c, e5 with
  | 0, e5 => exact e5
  | 1, e5 => exact e5
  | 2, e5 => exact e5
  | 3, e5 => exact e5
  | 4, e5 => exact e5
  | 5, e5 => exact e5
  | 6, e5 => exact e5
  | 7, e5 => exact e5
  | n + 8, e5 => exact e5
theorem Iv_mv {X : dm_Mem} {fl : Int32} {S C S' C' : Nat} {M M' : dm_Mem} (h : Iv (X, fl, none, S, C) M) (h1 : ∀ k, k < 68 ∨ 117 ≤ k → k < M.length → M'[k]? = M[k]?) (hsl : dm_slots M' + S ≤ dm_slots M + S') (hl : M'.length + C ≤ M.length + C') (hlen : M.length ≤ M'.length) : Iv (M', fl, none, S', C') M' := by
  obtain ⟨Ls, g1, g2, g3, g4, g5, g6⟩ := h
  simp only at g4 g5
  refine ⟨Ls, fun a ci ha => ?_, g2, fun k _ _ => rfl, by show dm_slots M' + _ ≤ S'; omega, by show M'.length + _ ≤ C'; omega, by omega⟩
  have hlt := iv_ty_lt ha
  obtain ⟨fs, e1, e2, e3⟩ := g1 a ci ha
  refine ⟨fs, by rw [h1 a (Or.inl hlt) (by omega)]; exact e1, e2, fun k c hk => ?_⟩
  obtain ⟨v, e4, e5⟩ := e3 k c hk
  refine ⟨v, e4, ?_⟩
  match c, e5 with
  | 0, e5 => exact e5
  | 1, e5 => exact e5
  | 2, e5 => exact e5
  | 3, e5 => exact e5
  | 4, e5 =>
    obtain ⟨c, f, a1, a2, a3⟩ := e5
    exact ⟨c, f, a1, a2, by rw [h1 c a2 (List.getElem?_eq_some_iff.mp a3).1]; exact a3⟩
  | 5, e5 => exact e5
  | 6, e5 => exact e5
  | 7, e5 => exact e5
  | n + 8, e5 => exact e5
theorem Rm_mv {X : dm_Mem} {q : rS} {M M' : dm_Mem} (h : Rm X q M) (h1 : ∀ k, 68 ≤ k → k < 116 → M'[k]? = M[k]?) : Rm M' q M' := by
  obtain ⟨a1, a2, a3, a4, a5, a6, a7⟩ := h
  refine ⟨fun k _ => rfl, rfl, rfl, by rw [h1 68 (by omega) (by omega)]; exact a4, fun c t hc => ?_, a6, a7⟩
  have hc2 := raT_lt hc
  rw [h1 c (by omega) (by omega)]
  exact a5 c t hc
def lw_o (M : dm_Mem) : Prop := ∃ f, M[116]? = some (.inl (.long, 1, .inr (.inl f)))
def LK (T : Int) (S C : Nat) (fl : Int32) (q : rS) (M : dm_Mem) : Prop := Iv (M, fl, none, S, C) M ∧ Rm M q M ∧ RI T q ∧ isB fl ∧ lw_o M
/-- a call of the class -/
theorem LK_c {T : Int} {S C : Nat} {fl fl' : Int32} {q : rS} {M M' : dm_Mem} (h : LK T S C fl q M) (hfl : isB fl') (hM : Iv (M, fl', none, S, C) M') : LK T S C fl' q M' := by
  obtain ⟨h1, h2, h3, h4, h5⟩ := h
  obtain ⟨a1, a2⟩ := Iv_re hM
  refine ⟨a1, Rm_mv h2 (fun k k0 k1 => a2 k k0 (by omega)), h3, hfl, ?_⟩
  obtain ⟨f, h5⟩ := h5
  exact ⟨f, by rw [a2 116 (by omega) (by omega)]; exact h5⟩
/-- a call of the reference -/
theorem LK_m {T T' : Int} {S C : Nat} {fl : Int32} {q q' : rS} {M M' : dm_Mem} (h : LK T S C fl q M) (hM : Rm M q' M') (hR : RI T' q') : LK T' S C fl q' M' := by
  obtain ⟨h1, h2, h3, h4, h5⟩ := h
  obtain ⟨a1, a2, a3, a4, a5⟩ := id hM
  refine ⟨Iv_mv h1 (fun k hk _ => a1 k (by omega)) (by omega) (by omega) (by omega), Rm_mv hM (fun k _ _ => rfl), hR, h4, ?_⟩
  obtain ⟨f, h5⟩ := h5
  exact ⟨f, by rw [a1 116 (by omega)]; exact h5⟩
/-- what the law's own calls of height and owns leave -/
def lw_G (M M' : dm_Mem) : Prop := ∀ (T : Int) (S C : Nat) (fl : Int32) (q : rS), LK T S C fl q M → LK T (S + 6) (C + 1) fl q M'
theorem lw_G_set {M : dm_Mem} {f : Nat → Int64} (hl : 116 < M.length) (hf : ∃ f, M[116]? = some (.inl (.long, 1, .inr (.inl f)))) : lw_G M (M.set 116 (.inl (.long, 1, .inr (.inl f)))) := by
  intro T S C fl q h
  obtain ⟨h1, h2, h3, h4, h5⟩ := h
  obtain ⟨f0, hf⟩ := hf
  have hsl : dm_slots (M.set 116 (.inl (.long, 1, .inr (.inl f)))) = dm_slots M := dm_slots_set M 116 _ _ hf rfl
  refine ⟨Iv_mv h1 (fun k hk _ => by rw [List.getElem?_set_ne (by omega)]) (by omega) (by rw [List.length_set]; omega) (by rw [List.length_set]; omega), Rm_mv h2 (fun k k0 k1 => by rw [List.getElem?_set_ne (by omega)]), h3, h4, f, List.getElem?_set_self hl⟩
theorem lw_G_app {M : dm_Mem} (hl : 117 ≤ M.length) : lw_G M (M ++ [tx_x]) := by
  intro T S C fl q h
  obtain ⟨h1, h2, h3, h4, f, h5⟩ := h
  have hsl : dm_slots (M ++ [tx_x]) = dm_slots M + 6 := dm_slots_app M tx_x
  have hg : ∀ k, k < M.length → (M ++ [tx_x])[k]? = M[k]? := fun k hk => List.getElem?_append_left hk
  refine ⟨Iv_mv h1 (fun k _ hk => hg k hk) (by omega) (by rw [List.length_append]; simp only [List.length_singleton]; omega) (by rw [List.length_append]; omega), Rm_mv h2 (fun k k0 k1 => hg k (by omega)), h3, h4, f, by rw [hg 116 (by omega)]; exact h5⟩
/-- the locals of the law: the script, the class's object, the reference, the array, where the script is read -/
def lw_V (i : Int32) (lv : dm_Lv) : Prop := dm_lget lv 0 = some (.float 0) ∧ dm_lget lv 1 = some (.ref 0) ∧ dm_lget lv 2 = some (.ref 68) ∧ dm_lget lv 3 = some (.ref 116) ∧ dm_lget lv 4 = some (.int i)
theorem lw_ld {n k : Nat} {x : Nat} {lv : dm_Lv} {st : List Value} {M : dm_Mem} (h : dm_lget lv k = some (.ref x)) : dm_ald n k lv st M = some (.inl ((n, lv, .ref x :: st), M)) := by
  unfold dm_ald
  rw [h]
theorem lw_lf {n k : Nat} {x : UInt32} {lv : dm_Lv} {st : List Value} {M : dm_Mem} (h : dm_lget lv k = some (.float x)) : dm_ald n k lv st M = some (.inl ((n, lv, .float x :: st), M)) := by
  unfold dm_ald
  rw [h]
theorem lw_li {n k : Nat} {x : Int32} {lv : dm_Lv} {st : List Value} {M : dm_Mem} (h : dm_lget lv k = some (.int x)) : dm_ild n k lv st M = some (.inl ((n, lv, .int x :: st), M)) := by
  unfold dm_ild
  rw [h]
theorem lw_sx {n L : Nat} {xs : Nat → Int32} {i : Int32} {lv : dm_Lv} {r : List Value} {z : UInt32} {M : dm_Mem} (h0 : 0 ≤ i.toInt) (h1 : i.toInt < L) : dm_sld n L xs lv (.int i :: .float z :: r) M = some (.inl ((n, lv, .int (xs i.toNatClampNeg) :: r), M)) := by
  show (if i < 0 ∨ L ≤ i.toNatClampNeg then (none : Option dm_Rs) else some (Sum.inl ((n, lv, .int (xs i.toNatClampNeg) :: r), M))) = _
  rw [if_neg]
  rintro (h | h)
  · rw [Int32.lt_iff_toInt_lt] at h
    have e0 : (0 : Int32).toInt = 0 := rfl
    omega
  · have e : (i.toNatClampNeg : Int) = i.toInt := by
      show ((i.toInt.toNat : Nat) : Int) = _
      omega
    omega
theorem lw_ad {i : Int32} {L : Nat} {c : Int32} {k : Int} (hc : c.toInt = k) (h0 : 0 ≤ i.toInt) (h1 : i.toInt + 8 < L) (hL : L ≤ 4608) (k0 : 0 ≤ k) (k1 : k ≤ 8) : 0 ≤ (i + c).toInt ∧ (i + c).toInt < L := by
  have e : (i + c).toInt = i.toInt + k := i_addc k hc (by omega) (by omega)
  omega
theorem lw_c {T : Int} {S C : Nat} {fl fl' : Int32} {q : rS} {d : Nat} {t : dm_Code} {pc n mj na : Nat} {lv : dm_Lv} {st r : List Value} {M : dm_Mem} {as : List Value} {Q : Option Value → dm_Mem → Prop} {V : Option Value → Prop} (hf : dm_fetch t pc = some (dm_inv n mj na 7)) (hd : st.drop na = .ref 0 :: r) (hA : .ref 0 :: (st.take na).reverse = as) (hs : (r.map fun v => v.category).sum ≤ 8) (hL : LK T S C fl q M) (hfl : isB fl') (h : hT d mj as M (fun r1 M1 => V r1 ∧ Iv (M, fl', none, S, C) M1)) (k : ∀ r1 M1, V r1 → LK T S C fl' q M1 → hG d t n lv (r1.toList ++ r) M1 Q) : hG d t pc lv st M Q :=
  v_inv hf hd hA hs hL.1 lw_7 (hT_mono (Nat.le_refl _) h (fun r1 M1 w => k r1 M1 w.1 (LK_c hL hfl w.2)))
theorem lw_m {T T' : Int} {S C : Nat} {fl : Int32} {q : rS} {d : Nat} {t : dm_Code} {pc n mj na : Nat} {lv : dm_Lv} {st r : List Value} {M : dm_Mem} {as : List Value} {Q : Option Value → dm_Mem → Prop} {V : Option Value → rS → Prop} (hf : dm_fetch t pc = some (dm_inv n mj na 8)) (hd : st.drop na = .ref 68 :: r) (hA : .ref 68 :: (st.take na).reverse = as) (hs : (r.map fun v => v.category).sum ≤ 8) (hL : LK T S C fl q M) (h : hT d mj as M (fun r1 M1 => ∃ q', V r1 q' ∧ Rm M q' M1 ∧ RI T' q')) (k : ∀ r1 M1 q', V r1 q' → LK T' S C fl q' M1 → hG d t n lv (r1.toList ++ r) M1 Q) : hG d t pc lv st M Q :=
  r_inv hf hL.2.1 hd hA hs (hT_mono (Nat.le_refl _) h (fun r1 M1 w => by
    obtain ⟨q', w1, w2, w3⟩ := w
    exact k r1 M1 q' w1 (LK_m hL w2 w3)))
