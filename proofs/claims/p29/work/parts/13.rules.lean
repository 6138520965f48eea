/-! rules over what stands fast -/
def pV (p : iv_P) : Option Value → dm_Mem → Prop := fun r M' => r = none ∧ Iv p M'
def pI (p : iv_P) : Option Value → dm_Mem → Prop := fun r M' => ∃ x : Int32, r = some (.int x) ∧ Iv p M'
def pB (p : iv_P) : Option Value → dm_Mem → Prop := fun r M' => ∃ x : Int32, isB x ∧ r = some (.int x) ∧ Iv p M'
def pJ (p : iv_P) : Option Value → dm_Mem → Prop := fun r M' => ∃ x : Int64, r = some (.long x) ∧ Iv p M'
def qI (M : dm_Mem) : Option Value → dm_Mem → Prop := fun r M' => ∃ x : Int32, r = some (.int x) ∧ M' = M
def qB (M : dm_Mem) : Option Value → dm_Mem → Prop := fun r M' => ∃ x : Int32, isB x ∧ r = some (.int x) ∧ M' = M
def qJ (M : dm_Mem) : Option Value → dm_Mem → Prop := fun r M' => ∃ x : Int64, r = some (.long x) ∧ M' = M
theorem u_V {p : iv_P} {d d0 mj : Nat} {as : List Value} {M : dm_Mem} {t : dm_Code} {n : Nat} {lv : dm_Lv} {r : List Value} {Q : Option Value → dm_Mem → Prop} (hd : d0 ≤ d) (h : hT d0 mj as M (pV p)) (k : ∀ M', Iv p M' → hG d t n lv r M' Q) : hT d mj as M (fun r1 M1 => hG d t n lv (r1.toList ++ r) M1 Q) :=
  hT_mono hd h (fun r1 M1 q => by obtain ⟨rfl, q⟩ := q; exact k M1 q)
theorem u_I {p : iv_P} {d d0 mj : Nat} {as : List Value} {M : dm_Mem} {t : dm_Code} {n : Nat} {lv : dm_Lv} {r : List Value} {Q : Option Value → dm_Mem → Prop} (hd : d0 ≤ d) (h : hT d0 mj as M (pI p)) (k : ∀ x M', Iv p M' → hG d t n lv (.int x :: r) M' Q) : hT d mj as M (fun r1 M1 => hG d t n lv (r1.toList ++ r) M1 Q) :=
  hT_mono hd h (fun r1 M1 q => by obtain ⟨x, rfl, q⟩ := q; exact k x M1 q)
theorem u_B {p : iv_P} {d d0 mj : Nat} {as : List Value} {M : dm_Mem} {t : dm_Code} {n : Nat} {lv : dm_Lv} {r : List Value} {Q : Option Value → dm_Mem → Prop} (hd : d0 ≤ d) (h : hT d0 mj as M (pB p)) (k : ∀ x, isB x → ∀ M', Iv p M' → hG d t n lv (.int x :: r) M' Q) : hT d mj as M (fun r1 M1 => hG d t n lv (r1.toList ++ r) M1 Q) :=
  hT_mono hd h (fun r1 M1 q => by obtain ⟨x, hb, rfl, q⟩ := q; exact k x hb M1 q)
theorem u_J {p : iv_P} {d d0 mj : Nat} {as : List Value} {M : dm_Mem} {t : dm_Code} {n : Nat} {lv : dm_Lv} {r : List Value} {Q : Option Value → dm_Mem → Prop} (hd : d0 ≤ d) (h : hT d0 mj as M (pJ p)) (k : ∀ x M', Iv p M' → hG d t n lv (.long x :: r) M' Q) : hT d mj as M (fun r1 M1 => hG d t n lv (r1.toList ++ r) M1 Q) :=
  hT_mono hd h (fun r1 M1 q => by obtain ⟨x, rfl, q⟩ := q; exact k x M1 q)
theorem w_I {d d0 mj : Nat} {as : List Value} {M : dm_Mem} {t : dm_Code} {n : Nat} {lv : dm_Lv} {r : List Value} {Q : Option Value → dm_Mem → Prop} (hd : d0 ≤ d) (h : hT d0 mj as M (qI M)) (k : ∀ x, hG d t n lv (.int x :: r) M Q) : hT d mj as M (fun r1 M1 => hG d t n lv (r1.toList ++ r) M1 Q) :=
  hT_mono hd h (fun r1 M1 q => by obtain ⟨x, rfl, rfl⟩ := q; exact k x)
theorem w_B {d d0 mj : Nat} {as : List Value} {M : dm_Mem} {t : dm_Code} {n : Nat} {lv : dm_Lv} {r : List Value} {Q : Option Value → dm_Mem → Prop} (hd : d0 ≤ d) (h : hT d0 mj as M (qB M)) (k : ∀ x, isB x → hG d t n lv (.int x :: r) M Q) : hT d mj as M (fun r1 M1 => hG d t n lv (r1.toList ++ r) M1 Q) :=
  hT_mono hd h (fun r1 M1 q => by obtain ⟨x, hb, rfl, rfl⟩ := q; exact k x hb)
theorem w_J {d d0 mj : Nat} {as : List Value} {M : dm_Mem} {t : dm_Code} {n : Nat} {lv : dm_Lv} {r : List Value} {Q : Option Value → dm_Mem → Prop} (hd : d0 ≤ d) (h : hT d0 mj as M (qJ M)) (k : ∀ x, hG d t n lv (.long x :: r) M Q) : hT d mj as M (fun r1 M1 => hG d t n lv (r1.toList ++ r) M1 Q) :=
  hT_mono hd h (fun r1 M1 q => by obtain ⟨x, rfl, rfl⟩ := q; exact k x)
theorem v_inv {p : iv_P} {d : Nat} {t : dm_Code} {pc n mj na ci a : Nat} {lv : dm_Lv} {st r : List Value} {M : dm_Mem} {as : List Value} {Q : Option Value → dm_Mem → Prop} (hf : dm_fetch t pc = some (dm_inv n mj na ci)) (hd : st.drop na = .ref a :: r) (hA : .ref a :: (st.take na).reverse = as) (hs : (r.map fun v => v.category).sum ≤ 8) (hM : Iv p M) (ha : iv_ty a = some ci) (h : hT d mj as M (fun r1 M1 => hG d t n lv (r1.toList ++ r) M1 Q)) : hG d t pc lv st M Q :=
  hc hf (by rw [dm_inv_ok (iv_isO hM ha) hd hs, hA]) h
theorem v_geti {p : iv_P} {d : Nat} {t : dm_Code} {pc n ci k a : Nat} {lv : dm_Lv} {r : List Value} {M : dm_Mem} {Q : Option Value → dm_Mem → Prop} (hf : dm_fetch t pc = some (dm_getf n ci k)) (hM : Iv p M) (ha : iv_ty a = some ci) (hk : (iv_ft ci)[k]? = some 0) (h : ∀ x : Int32, dm_fld M a ci k = some (.int x) → hG d t n lv (.int x :: r) M Q) : hG d t pc lv (.ref a :: r) M Q := by
  obtain ⟨Ls, hW⟩ := hM
  obtain ⟨v, h1, x, rfl⟩ := iv_fld hW ha hk
  exact hs hf (dm_getf_ok h1) (h x h1)
theorem v_getj {p : iv_P} {d : Nat} {t : dm_Code} {pc n ci k a : Nat} {lv : dm_Lv} {r : List Value} {M : dm_Mem} {Q : Option Value → dm_Mem → Prop} (hf : dm_fetch t pc = some (dm_getf n ci k)) (hM : Iv p M) (ha : iv_ty a = some ci) (hk : (iv_ft ci)[k]? = some 1) (h : ∀ x : Int64, dm_fld M a ci k = some (.long x) → hG d t n lv (.long x :: r) M Q) : hG d t pc lv (.ref a :: r) M Q := by
  obtain ⟨Ls, hW⟩ := hM
  obtain ⟨v, h1, x, rfl⟩ := iv_fld hW ha hk
  exact hs hf (dm_getf_ok h1) (h x h1)
theorem v_getfl {p : iv_P} {d : Nat} {t : dm_Code} {pc n ci k a : Nat} {lv : dm_Lv} {r : List Value} {M : dm_Mem} {Q : Option Value → dm_Mem → Prop} (hf : dm_fetch t pc = some (dm_getf n ci k)) (hM : Iv p M) (ha : iv_ty a = some ci) (hk : (iv_ft ci)[k]? = some 2) (h : hG d t n lv (.int p.2.1 :: r) M Q) : hG d t pc lv (.ref a :: r) M Q := by
  obtain ⟨Ls, hW⟩ := hM
  obtain ⟨v, h1, h2⟩ := iv_fld hW ha hk
  have h3 : v = .int p.2.1 := h2
  subst h3
  exact hs hf (dm_getf_ok h1) h
theorem v_getn {p : iv_P} {d : Nat} {t : dm_Code} {pc n ci k a : Nat} {lv : dm_Lv} {r : List Value} {M : dm_Mem} {Q : Option Value → dm_Mem → Prop} (hf : dm_fetch t pc = some (dm_getf n ci k)) (hM : Iv p M) (ha : iv_ty a = some ci) (hk : (iv_ft ci)[k]? = some 5) (h : ∀ x : Int32, (∀ z, p.2.2.1 = some z → ¬ z < 0 → ¬ x < 0) → dm_fld M a ci k = some (.int x) → hG d t n lv (.int x :: r) M Q) : hG d t pc lv (.ref a :: r) M Q := by
  obtain ⟨Ls, hW⟩ := hM
  obtain ⟨v, h1, x, rfl, h2⟩ := iv_fld hW ha hk
  exact hs hf (dm_getf_ok h1) (h x h2 h1)
theorem v_gets {p : iv_P} {d : Nat} {t : dm_Code} {pc n ci k a : Nat} {lv : dm_Lv} {r : List Value} {M : dm_Mem} {Q : Option Value → dm_Mem → Prop} (hf : dm_fetch t pc = some (dm_getf n ci k)) (hM : Iv p M) (ha : iv_ty a = some ci) (hk : (iv_ft ci)[k]? = some 6) (h : ∀ x : Int32, (∀ z, a = 61 → p.2.2.1 = some z → x = z) → dm_fld M a ci k = some (.int x) → hG d t n lv (.int x :: r) M Q) : hG d t pc lv (.ref a :: r) M Q := by
  obtain ⟨Ls, hW⟩ := hM
  obtain ⟨v, h1, x, rfl, h2⟩ := iv_fld hW ha hk
  exact hs hf (dm_getf_ok h1) (h x h2 h1)
theorem v_getr {p : iv_P} {d : Nat} {t : dm_Code} {pc n ci k a : Nat} {lv : dm_Lv} {r : List Value} {M : dm_Mem} {Q : Option Value → dm_Mem → Prop} (hf : dm_fetch t pc = some (dm_getf n ci k)) (hM : Iv p M) (ha : iv_ty a = some ci) (hk : (iv_ft ci)[k]? = some 7) (h : hG d t n lv (.ref 61 :: r) M Q) : hG d t pc lv (.ref a :: r) M Q := by
  obtain ⟨Ls, hW⟩ := hM
  obtain ⟨v, h1, h2⟩ := iv_fld hW ha hk
  have h3 : v = .ref 61 := h2
  subst h3
  exact hs hf (dm_getf_ok h1) h
theorem iv_61 : iv_ty 61 = some 1 := rfl
theorem v_geto {p : iv_P} {d : Nat} {t : dm_Code} {pc n ci k a m : Nat} {lv : dm_Lv} {r : List Value} {M : dm_Mem} {Q : Option Value → dm_Mem → Prop} (hf : dm_fetch t pc = some (dm_getf n ci k)) (hM : Iv p M) (ha : iv_ty a = some ci) (hk : (iv_ft ci)[k]? = some (m + 8)) (h : ∀ b : Nat, iv_ty b = some m → hG d t n lv (.ref b :: r) M Q) : hG d t pc lv (.ref a :: r) M Q := by
  obtain ⟨Ls, hW⟩ := hM
  obtain ⟨v, h1, b, rfl, h2⟩ := iv_fld hW ha hk
  exact hs hf (dm_getf_ok h1) (h b h2)
theorem dm_fld_set {M : dm_Mem} {a ci : Nat} {fs : List Value} {k : Nat} {v : Value} (hM : M[a]? = some (.inr (ci, fs))) (hk : k < fs.length) : dm_fld (M.set a (.inr (ci, fs.set k v))) a ci k = some v ∧ ∀ a' ci' k', ¬ (a' = a ∧ k' = k) → dm_fld (M.set a (.inr (ci, fs.set k v))) a' ci' k' = dm_fld M a' ci' k' := by
  have hlt := (List.getElem?_eq_some_iff.mp hM).1
  constructor
  · unfold dm_fld
    rw [List.getElem?_set_self hlt]
    simp only [if_true]
    exact List.getElem?_set_self hk
  · intro a' ci' k' hn
    unfold dm_fld
    by_cases h : a = a'
    · subst h
      rw [List.getElem?_set_self hlt, hM]
      by_cases h2 : ci = ci'
      · simp only [h2, if_true]
        rw [List.getElem?_set_ne (fun q => hn ⟨rfl, q.symm⟩)]
      · simp only [if_neg h2]
    · rw [List.getElem?_set_ne h]
theorem v_put {p : iv_P} {d : Nat} {t : dm_Code} {pc n ci k c a : Nat} {ty : FieldType} {lv : dm_Lv} {r : List Value} {M : dm_Mem} {Q : Option Value → dm_Mem → Prop} {v : Value} {fl' : Int32} (hf : dm_fetch t pc = some (dm_putf n ci k ty)) (hM : Iv p M) (ha : iv_ty a = some ci) (hk : (iv_ft ci)[k]? = some c) (h4 : ¬ c = 4) (hfl : fl' = p.2.1 ∨ (ci = 7 ∧ k = 7)) (hv : ∀ Ls, iv_ok (p.1, fl', p.2.2) Ls M a c v) (hft : dm_fit ty v = true) (h : ∀ M', Iv (p.1, fl', p.2.2) M' → dm_fld M' a ci k = some v → (∀ a' ci' k', ¬ (a' = a ∧ k' = k) → dm_fld M' a' ci' k' = dm_fld M a' ci' k') → hG d t n lv r M' Q) : hG d t pc lv (v :: .ref a :: r) M Q := by
  obtain ⟨Ls, hW⟩ := hM
  obtain ⟨fs, h1, h2, h3⟩ := hW.1 a ci ha
  obtain ⟨w, h5, -⟩ := h3 k c hk
  have hlt := (List.getElem?_eq_some_iff.mp h5).1
  refine hs (M' := M.set a (.inr (ci, fs.set k v))) (pc' := n) (lv' := lv) (st' := r) hf ?_ (h _ ⟨Ls, iw_put hW ha h1 hk h4 (hv Ls) hfl⟩ (dm_fld_set h1 hlt).1 (dm_fld_set h1 hlt).2)
  unfold dm_putf
  simp only [h1, hlt, hft, and_self, if_true]
theorem v_puti {p : iv_P} {d : Nat} {t : dm_Code} {pc n ci k a : Nat} {lv : dm_Lv} {r : List Value} {M : dm_Mem} {Q : Option Value → dm_Mem → Prop} {x : Int32} (hf : dm_fetch t pc = some (dm_putf n ci k .int)) (hM : Iv p M) (ha : iv_ty a = some ci) (hk : (iv_ft ci)[k]? = some 0) (h : ∀ M', Iv p M' → hG d t n lv r M' Q) : hG d t pc lv (.int x :: .ref a :: r) M Q :=
  v_put hf hM ha hk (by decide) (Or.inl rfl) (fun _ => ⟨x, rfl⟩) rfl (fun M' h1 _ _ => h M' h1)
theorem v_putj {p : iv_P} {d : Nat} {t : dm_Code} {pc n ci k a : Nat} {lv : dm_Lv} {r : List Value} {M : dm_Mem} {Q : Option Value → dm_Mem → Prop} {x : Int64} (hf : dm_fetch t pc = some (dm_putf n ci k .long)) (hM : Iv p M) (ha : iv_ty a = some ci) (hk : (iv_ft ci)[k]? = some 1) (h : ∀ M', Iv p M' → hG d t n lv r M' Q) : hG d t pc lv (.long x :: .ref a :: r) M Q :=
  v_put hf hM ha hk (by decide) (Or.inl rfl) (fun _ => ⟨x, rfl⟩) rfl (fun M' h1 _ _ => h M' h1)
theorem v_putn {p : iv_P} {d : Nat} {t : dm_Code} {pc n ci k a : Nat} {lv : dm_Lv} {r : List Value} {M : dm_Mem} {Q : Option Value → dm_Mem → Prop} {x : Int32} (hf : dm_fetch t pc = some (dm_putf n ci k .int)) (hM : Iv p M) (ha : iv_ty a = some ci) (hk : (iv_ft ci)[k]? = some 5) (hx : ∀ z, p.2.2.1 = some z → ¬ z < 0 → ¬ x < 0) (h : ∀ M', Iv p M' → hG d t n lv r M' Q) : hG d t pc lv (.int x :: .ref a :: r) M Q :=
  v_put hf hM ha hk (by decide) (Or.inl rfl) (fun _ => ⟨x, rfl, hx⟩) rfl (fun M' h1 _ _ => h M' h1)
theorem v_puts {p : iv_P} {d : Nat} {t : dm_Code} {pc n ci k a : Nat} {lv : dm_Lv} {r : List Value} {M : dm_Mem} {Q : Option Value → dm_Mem → Prop} {x : Int32} (hf : dm_fetch t pc = some (dm_putf n ci k .int)) (hM : Iv p M) (ha : iv_ty a = some ci) (hk : (iv_ft ci)[k]? = some 6) (hp : p.2.2.1 = none) (h : ∀ M', Iv p M' → hG d t n lv r M' Q) : hG d t pc lv (.int x :: .ref a :: r) M Q :=
  v_put hf hM ha hk (by decide) (Or.inl rfl) (fun _ => ⟨x, rfl, fun z _ hz => by have hz2 : p.2.2.1 = some z := hz; rw [hp] at hz2; cases hz2⟩) rfl (fun M' h1 _ _ => h M' h1)
theorem mR_lt2 {i : Int32} (h : i < 60) : mR (i + 1) < mR i := mR_lt (Int32.not_le.mpr h)
-- ===== rows of numbers =====
theorem al_ok {M : dm_Mem} {c L n : Nat} {f : Nat → Int32} {lv : dm_Lv} {r : List Value} (h : M[c]? = some (.inl (.int, L, .inl f))) : dm_alen n lv (.ref c :: r) M = some (.inl ((n, lv, .int (Int32.ofNat L) :: r), M)) := by
  unfold dm_alen
  simp only [h, dm_isT, if_true]
theorem ia_ok {M : dm_Mem} {c L n : Nat} {f : Nat → Int32} {lv : dm_Lv} {r : List Value} {i : Int32} (h : M[c]? = some (.inl (.int, L, .inl f))) (hi : ¬ (i < 0 ∨ L ≤ i.toNatClampNeg)) : dm_iald n lv (.int i :: .ref c :: r) M = some (.inl ((n, lv, .int (f i.toNatClampNeg) :: r), M)) := by
  unfold dm_iald
  simp only [h, if_neg hi]
theorem is_ok {M : dm_Mem} {c L n : Nat} {f : Nat → Int32} {lv : dm_Lv} {r : List Value} {i x : Int32} (h : M[c]? = some (.inl (.int, L, .inl f))) (hi : ¬ (i < 0 ∨ L ≤ i.toNatClampNeg)) : dm_iast n lv (.int x :: .int i :: .ref c :: r) M = some (.inl ((n, lv, r), M.set c (.inl (.int, L, .inl (upd f i.toNatClampNeg x))))) := by
  unfold dm_iast
  simp only [h, if_neg hi]
/-- a row's bound and its array -/
theorem nu_at {p : iv_P} {Ls : Nat → Nat} {M : dm_Mem} (hW : Iw p Ls M) {a : Nat} (ha : iv_ty a = some 3) : ∃ (c : Nat) (f : Nat → Int32), dm_fld M a 3 0 = some (.int (Int32.ofNat (iv_most a))) ∧ dm_fld M a 3 1 = some (.ref c) ∧ (c < 68 ∨ 117 ≤ c) ∧ M[c]? = some (.inl (.int, Ls a, .inl f)) := by
  obtain ⟨v, h1, h2⟩ := iv_fld hW ha (k := 0) (c := 3) rfl
  obtain ⟨w, h3, c, f, h4, h5, h6⟩ := iv_fld hW ha (k := 1) (c := 4) rfl
  have h7 : v = .int (Int32.ofNat (iv_most a)) := h2
  subst h7
  subst h4
  exact ⟨c, f, h1, h3, h5, h6⟩
theorem nu_len {p : iv_P} {Ls : Nat → Nat} {M : dm_Mem} (hW : Iw p Ls M) {a : Nat} (ha : iv_ty a = some 3) : 32 ≤ Ls a ∧ Ls a ≤ iv_most a ∧ iv_most a ≤ 41000 := ⟨(hW.2.1 a ha).1, (hW.2.1 a ha).2, iv_most_le ha⟩
theorem sp_45 {p : iv_P} {M : dm_Mem} (hM : Iv p M) {a : Nat} (ha : iv_ty a = some 3) (i : Int32) : hT 1 45 [.ref a, .int i] M (qI M) := by
  obtain ⟨Ls, hW⟩ := hM
  obtain ⟨c, f, -, hc, -, hA⟩ := nu_at hW ha
  have hL := nu_len hW ha
  have j22 : hG 0 cd_45 22 [(0, .ref a), (1, .int i)] [] M (qI M) :=
    hs (f := dm_push 23 (.int 0)) rfl rfl (hr (f := dm_ret .int) rfl rfl ⟨0, rfl, rfl⟩)
  refine hx (t := cd_45) rfl (Nat.le_of_ble_eq_true rfl) (lv := [(0, .ref a), (1, .int i)]) rfl ?_
  refine hs (f := dm_ild 1 1) rfl rfl ?_
  refine h_if_lt (n := 4) (tt := 22) rfl (fun _ => j22) (fun h1 => ?_)
  refine hs (f := dm_ild 5 1) rfl rfl ?_
  refine hs (f := dm_ald 6 0) rfl rfl ?_
  refine hs (f := dm_getf 9 3 1) rfl (dm_getf_ok hc) ?_
  refine hs (f := dm_alen 10) rfl (al_ok hA) ?_
  refine h_ic_ge (n := 13) (tt := 22) rfl (fun _ => j22) (fun h2 => ?_)
  refine hs (f := dm_ald 14 0) rfl rfl ?_
  refine hs (f := dm_getf 17 3 1) rfl (dm_getf_ok hc) ?_
  refine hs (f := dm_ild 18 1) rfl rfl ?_
  refine hs (f := dm_iald 19) rfl (ia_ok hA (i_in (by omega) h1 h2)) ?_
  refine hs (f := dm_goto 23) rfl rfl ?_
  exact hr (f := dm_ret .int) rfl rfl ⟨_, rfl, rfl⟩
theorem i_ofNat_inj {A B : Nat} (hA : A ≤ 1000000) (hB : B ≤ 1000000) (h : Int32.ofNat A = Int32.ofNat B) : A = B := by
  have h1 := congrArg Int32.toInt h
  rw [i_ofNat hA, i_ofNat hB] at h1
  omega
theorem i_of_toInt {z : Int32} {A : Nat} (hA : A ≤ 1000000) (h : z.toInt = A) : z = Int32.ofNat A := by
  apply Int32.toInt_inj.mp
  rw [h, i_ofNat hA]
theorem i_ofNat_nn {A : Nat} (hA : A ≤ 1000000) : ¬ Int32.ofNat A < 0 := by
  rw [Int32.lt_iff_toInt_lt, i_ofNat hA, show (0 : Int32).toInt = 0 from by decide]
  omega
theorem i_ofNat_cl {A : Nat} (hA : A ≤ 1000000) : (Int32.ofNat A).toNatClampNeg = A := by
  have h1 := i_clamp (i := Int32.ofNat A) (by rw [i_ofNat hA]; omega)
  rw [i_ofNat hA] at h1
  omega
theorem i_mul2 {L : Nat} (hL : L ≤ 41000) : (2 : Int32) * Int32.ofNat L = Int32.ofNat (2 * L) := by
  apply Int32.toInt_inj.mp
  rw [Int32.toInt_mul, i_ofNat (by omega), i_ofNat (by omega), show (2 : Int32).toInt = 2 from by decide]
  rw [Int.bmod_eq_of_le (by omega) (by omega)]
  omega
theorem nu_wide {m L : Nat} {w : Int32} (hL : L ≤ m) (hm : m ≤ 41000) (h : ¬ (if (if w < Int32.ofNat (2 * L) then Int32.ofNat (2 * L) else w) < Int32.ofNat m then (if w < Int32.ofNat (2 * L) then Int32.ofNat (2 * L) else w) else Int32.ofNat m) ≤ Int32.ofNat L) : ∃ L', (if (if w < Int32.ofNat (2 * L) then Int32.ofNat (2 * L) else w) < Int32.ofNat m then (if w < Int32.ofNat (2 * L) then Int32.ofNat (2 * L) else w) else Int32.ofNat m) = Int32.ofNat L' ∧ L < L' ∧ L' ≤ m ∧ (2 * L ≤ L' ∨ L' = m) := by
  have e1 := i_ofNat (L := 2 * L) (by omega)
  have e2 := i_ofNat (L := m) (by omega)
  have e3 := i_ofNat (L := L) (by omega)
  generalize hy : (if w < Int32.ofNat (2 * L) then Int32.ofNat (2 * L) else w) = y at h ⊢
  have hy2 : (2 * L : Int) ≤ y.toInt := by
    rw [← hy]
    split
    · rw [e1]; omega
    · rename_i q
      rw [Int32.lt_iff_toInt_lt, e1] at q
      omega
  by_cases q : y < Int32.ofNat m
  · rw [if_pos q] at h ⊢
    rw [Int32.lt_iff_toInt_lt, e2] at q
    rw [Int32.le_iff_toInt_le, e3] at h
    refine ⟨y.toInt.toNat, i_of_toInt (by omega) (by omega), by omega, by omega, Or.inl (by omega)⟩
  · rw [if_neg q] at h ⊢
    rw [Int32.le_iff_toInt_le, e3, e2] at h
    exact ⟨m, rfl, by omega, by omega, Or.inr rfl⟩
theorem sp_209 {M : dm_Mem} {c L L' : Nat} {f : Nat → Int32} (hA : M[c]? = some (.inl (.int, L, .inl f))) (h1 : L < L') (h2 : L' ≤ 1000000) : hT 1 209 [.ref c, .int (Int32.ofNat L')] M (fun r M' => ∃ g : Nat → Int32, r = some (.ref M.length) ∧ M' = M ++ [.inl (.int, L', .inl g)]) := by
  have hne : ¬ Int32.ofNat L' = Int32.ofNat L := fun q => by have := i_ofNat_inj h2 (by omega) q; omega
  have hlt := (List.getElem?_eq_some_iff.mp hA).1
  have hA2 : (M ++ [(Sum.inl (.int, L', .inl (fun _ => 0)) : dm_Cell)])[c]? = some (.inl (.int, L, .inl f)) := by rw [List.getElem?_append_left hlt]; exact hA
  have hN : (M ++ [(Sum.inl (.int, L', .inl (fun _ => 0)) : dm_Cell)])[M.length]? = some (.inl (.int, L', .inl (fun _ => 0))) := by simp
  refine hx (t := cd_209) rfl (Nat.le_of_ble_eq_true rfl) (lv := [(0, .ref c), (1, .int (Int32.ofNat L'))]) rfl ?_
  refine hs (f := dm_ild 1 1) rfl rfl ?_
  refine hs (f := dm_ald 2 0) rfl rfl ?_
  refine hs (f := dm_alen 3) rfl (al_ok hA) ?_
  refine h_ic_ne (n := 6) (tt := 14) rfl (fun _ => ?_) (fun q => absurd hne q)
  refine hs (f := dm_ild 15 1) rfl rfl ?_
  refine hs (f := dm_newa 17 .int) (pc' := 17) (lv' := [(0, .ref c), (1, .int (Int32.ofNat L'))]) (st' := [.ref M.length]) (M' := M ++ [.inl (.int, L', .inl (fun _ => 0))]) rfl ?_ ?_
  · unfold dm_newa
    have hz : ¬ (Int32.ofNat L' < 0 ∨ 50000000 < (Int32.ofNat L').toNatClampNeg) := by
      rw [i_ofNat_cl h2]
      rintro (q | q)
      · exact i_ofNat_nn h2 q
      · omega
    simp only [if_neg hz]
    rw [i_ofNat_cl h2]
    rfl
  refine hs (f := dm_ast 18 2) (lv' := [(2, .ref M.length), (0, .ref c), (1, .int (Int32.ofNat L'))]) rfl rfl ?_
  refine hs (f := dm_ald 19 0) rfl rfl ?_
  refine hs (f := dm_push 20 (.int 0)) rfl rfl ?_
  refine hs (f := dm_ald 21 2) rfl rfl ?_
  refine hs (f := dm_push 22 (.int 0)) rfl rfl ?_
  refine hs (f := dm_ald 23 0) rfl rfl ?_
  refine hs (f := dm_alen 24) rfl (al_ok hA2) ?_
  refine hs (f := dm_ild 25 1) rfl rfl ?_
  have hmin : (if Int32.ofNat L' < Int32.ofNat L then Int32.ofNat L' else Int32.ofNat L) = Int32.ofNat L := by
    apply if_neg
    rw [Int32.lt_iff_toInt_lt, i_ofNat h2, i_ofNat (by omega)]
    omega
  refine hs (f := dm_mn 28) (pc' := 28) (lv' := [(2, .ref M.length), (0, .ref c), (1, .int (Int32.ofNat L'))]) (st' := [.int (Int32.ofNat L), .int 0, .ref M.length, .int 0, .ref c]) (M' := M ++ [.inl (.int, L', .inl (fun _ => 0))]) rfl ?_ ?_
  · show some _ = _
    rw [hmin]
  refine hs (f := dm_acp 31) (pc' := 31) (lv' := [(2, .ref M.length), (0, .ref c), (1, .int (Int32.ofNat L'))]) (st' := []) (M' := M ++ [.inl (.int, L', .inl (va_cpy f (fun _ => 0) 0 0 L))]) rfl ?_ ?_
  · unfold dm_acp
    have hcond : (([] : List Value).map fun v => v.category).sum ≤ 8 ∧ ¬ (0 : Int32) < 0 ∧ ¬ (0 : Int32) < 0 ∧ ¬ Int32.ofNat L < 0 ∧ (0 : Int32).toNatClampNeg + (Int32.ofNat L).toNatClampNeg ≤ L ∧ (0 : Int32).toNatClampNeg + (Int32.ofNat L).toNatClampNeg ≤ L' := by
      rw [i_ofNat_cl (by omega), show (0 : Int32).toNatClampNeg = 0 from rfl]
      exact ⟨by decide, by decide, by decide, i_ofNat_nn (by omega), by omega, by omega⟩
    simp only [hA2, hN, if_pos hcond]
    rw [i_ofNat_cl (by omega), show (0 : Int32).toNatClampNeg = 0 from rfl]
    simp
  refine hs (f := dm_ald 32 2) rfl rfl ?_
  exact hr (f := dm_aret) rfl rfl ⟨_, rfl, rfl⟩
theorem hc_copy {t : dm_Code} {f : dm_Sem} {pc pc' : Nat} {lv lv' : dm_Lv} {st st' : List Value} {M : dm_Mem} {mj L' : Nat} {as : List Value} {Q : Option Value → dm_Mem → Prop} {d0 : Nat} (hf : dm_fetch t pc = some f) (hs : f lv st M = some (.inr (.inl (mj, as, (pc', lv', st'))))) (h : hT (d0 + 1) mj as M (fun r M' => ∃ g : Nat → Int32, r = some (.ref M.length) ∧ M' = M ++ [.inl (.int, L', .inl g)])) (k : ∀ g : Nat → Int32, hG (d0 + 1) t pc' lv' (.ref M.length :: st') (M ++ [.inl (.int, L', .inl g)]) Q) : hG (d0 + 1) t pc lv st M Q :=
  hc hf hs (hT_mono (Nat.le_refl _) h (fun r1 M1 q => by obtain ⟨g, rfl, rfl⟩ := q; exact k g))
theorem sp_48w {p : iv_P} {Ls : Nat → Nat} {M : dm_Mem} (hW : Iw p Ls M) {a : Nat} (ha : iv_ty a = some 3) (w : Int32) : hT 2 48 [.ref a, .int w] M (fun r M' => r = none ∧ ∃ Ls', Iw p Ls' M' ∧ ∀ b, Ls b ≤ Ls' b) := by
  obtain ⟨c, f, hm, hc, hcr, hA⟩ := nu_at hW ha
  have hL := nu_len hW ha
  refine hx (t := cd_48) rfl (Nat.le_of_ble_eq_true rfl) (lv := [(0, .ref a), (1, .int w)]) rfl ?_
  refine hs (f := dm_ald 1 0) rfl rfl ?_
  refine hs (f := dm_getf 4 3 0) rfl (dm_getf_ok hm) ?_
  refine hs (f := dm_ild 5 1) rfl rfl ?_
  refine hs (f := dm_push 6 (.int 2)) rfl rfl ?_
  refine hs (f := dm_ald 7 0) rfl rfl ?_
  refine hs (f := dm_getf 10 3 1) rfl (dm_getf_ok hc) ?_
  refine hs (f := dm_alen 11) rfl (al_ok hA) ?_
  refine hs (f := dm_ii 12 (fun x y => x * y)) (st' := [.int (Int32.ofNat (2 * Ls a)), .int w, .int (Int32.ofNat (iv_most a))]) (lv' := [(0, .ref a), (1, .int w)]) (pc' := 12) (M' := M) rfl ?_ ?_
  · show some (Sum.inl ((12, _, [Value.int ((2 : Int32) * Int32.ofNat (Ls a)), Value.int _, Value.int _]), M)) = _
    rw [i_mul2 (by omega)]
  refine hs (f := dm_mx 15) rfl rfl ?_
  refine hs (f := dm_mn 18) rfl rfl ?_
  generalize hz : (if (if w < Int32.ofNat (2 * Ls a) then Int32.ofNat (2 * Ls a) else w) < Int32.ofNat (iv_most a) then (if w < Int32.ofNat (2 * Ls a) then Int32.ofNat (2 * Ls a) else w) else Int32.ofNat (iv_most a)) = z
  refine hs (f := dm_ist 19 2) (lv' := [(2, .int z), (0, .ref a), (1, .int w)]) rfl rfl ?_
  refine hs (f := dm_ild 20 2) rfl rfl ?_
  refine hs (f := dm_ald 21 0) rfl rfl ?_
  refine hs (f := dm_getf 24 3 1) rfl (dm_getf_ok hc) ?_
  refine hs (f := dm_alen 25) rfl (al_ok hA) ?_
  refine h_ic_le (n := 28) (tt := 40) rfl (fun _ => hr (f := dm_vret) rfl rfl ⟨rfl, Ls, hW, fun _ => Nat.le_refl _⟩) (fun h2 => ?_)
  obtain ⟨L', e1, e2, e3, e4⟩ := nu_wide (w := w) hL.2.1 hL.2.2 (by rw [hz]; exact h2)
  rw [hz] at e1
  subst e1
  refine hs (f := dm_ald 29 0) rfl rfl ?_
  refine hs (f := dm_ald 30 0) rfl rfl ?_
  refine hs (f := dm_getf 33 3 1) rfl (dm_getf_ok hc) ?_
  refine hs (f := dm_ild 34 2) rfl rfl ?_
  refine hc_copy (st' := [.ref a]) rfl rfl (sp_209 hA e2 (by omega)) (fun g => ?_)
  obtain ⟨fs, f1, f2, f3⟩ := hW.1 a 3 ha
  obtain ⟨v1, f4, -⟩ := f3 1 4 rfl
  have hlt := (List.getElem?_eq_some_iff.mp f4).1
  have hla := (List.getElem?_eq_some_iff.mp f1).1
  refine hs (f := dm_putf 40 3 1 (.array .int)) (pc' := 40) (lv' := [(2, .int (Int32.ofNat L')), (0, .ref a), (1, .int w)]) (st' := []) (M' := (M ++ [(Sum.inl (.int, L', .inl g) : dm_Cell)]).set a (.inr (3, fs.set 1 (.ref M.length)))) rfl ?_ (hr (f := dm_vret) rfl rfl ⟨rfl, _, iw_wide hW ha f1 e2 e3 e4, fun b => by
    show Ls b ≤ if b = a then L' else Ls b
    split
    · rename_i q
      subst q
      omega
    · exact Nat.le_refl _⟩)
  unfold dm_putf
  have f5 : (M ++ [(Sum.inl (.int, L', .inl g) : dm_Cell)])[a]? = some (.inr (3, fs)) := by rw [List.getElem?_append_left hla]; exact f1
  simp only [f5, hlt, dm_fit, and_self, if_true]
theorem sp_48 {p : iv_P} {M : dm_Mem} (hM : Iv p M) {a : Nat} (ha : iv_ty a = some 3) (w : Int32) : hT 2 48 [.ref a, .int w] M (pV p) := by
  obtain ⟨Ls, hW⟩ := hM
  exact hT_mono (Nat.le_refl _) (sp_48w hW ha w) (fun r M' q => by obtain ⟨q1, Ls', q2, -⟩ := q; exact ⟨q1, Ls', q2⟩)
theorem sp_46 {p : iv_P} {M : dm_Mem} (hM : Iv p M) {a : Nat} (ha : iv_ty a = some 3) (i x : Int32) : hT 3 46 [.ref a, .int i, .int x] M (pV p) := by
  have j24 : ∀ M, Iv p M → hG 2 cd_46 24 [(0, .ref a), (1, .int i), (2, .int x)] [] M (pV p) := by
    intro M hM
    have j44 : hG 2 cd_46 44 [(0, .ref a), (1, .int i), (2, .int x)] [] M (pV p) := hr (f := dm_vret) rfl rfl ⟨rfl, hM⟩
    obtain ⟨Ls, hW⟩ := hM
    obtain ⟨c, f, hm, hc, hcr, hA⟩ := nu_at hW ha
    have hL := nu_len hW ha
    refine hs (f := dm_ild 25 1) rfl rfl ?_
    refine h_if_lt (n := 28) (tt := 44) rfl (fun _ => j44) (fun h1 => ?_)
    refine hs (f := dm_ild 29 1) rfl rfl ?_
    refine hs (f := dm_ald 30 0) rfl rfl ?_
    refine hs (f := dm_getf 33 3 1) rfl (dm_getf_ok hc) ?_
    refine hs (f := dm_alen 34) rfl (al_ok hA) ?_
    refine h_ic_ge (n := 37) (tt := 44) rfl (fun _ => j44) (fun h2 => ?_)
    refine hs (f := dm_ald 38 0) rfl rfl ?_
    refine hs (f := dm_getf 41 3 1) rfl (dm_getf_ok hc) ?_
    refine hs (f := dm_ild 42 1) rfl rfl ?_
    refine hs (f := dm_ild 43 2) rfl rfl ?_
    refine hs (f := dm_iast 44) rfl (is_ok hA (i_in (by omega) h1 h2)) ?_
    exact hr (f := dm_vret) rfl rfl ⟨rfl, Ls, iw_arr hW hA hcr⟩
  have j24' := j24 M hM
  have hM' := hM
  obtain ⟨Ls, hW⟩ := hM
  obtain ⟨c, f, hm, hc, hcr, hA⟩ := nu_at hW ha
  refine hx (t := cd_46) rfl (Nat.le_of_ble_eq_true rfl) (lv := [(0, .ref a), (1, .int i), (2, .int x)]) rfl ?_
  refine hs (f := dm_ild 1 1) rfl rfl ?_
  refine hs (f := dm_ald 2 0) rfl rfl ?_
  refine hs (f := dm_getf 5 3 1) rfl (dm_getf_ok hc) ?_
  refine hs (f := dm_alen 6) rfl (al_ok hA) ?_
  refine h_ic_lt (n := 9) (tt := 24) rfl (fun _ => j24') (fun _ => ?_)
  refine hs (f := dm_ild 10 1) rfl rfl ?_
  refine hs (f := dm_ald 11 0) rfl rfl ?_
  refine hs (f := dm_getf 14 3 0) rfl (dm_getf_ok hm) ?_
  refine h_ic_ge (n := 17) (tt := 24) rfl (fun _ => j24') (fun _ => ?_)
  refine hs (f := dm_ald 18 0) rfl rfl ?_
  refine hs (f := dm_ild 19 1) rfl rfl ?_
  refine hs (f := dm_push 20 (.int 1)) rfl rfl ?_
  refine hs (f := dm_ii 21 (fun x y => x + y)) rfl rfl ?_
  exact v_inv rfl rfl rfl (Nat.le_of_ble_eq_true rfl) hM' ha (u_V (Nat.le_refl _) (sp_48 hM' ha _) j24)
theorem cp_ok {M : dm_Mem} {c0 c1 n0 n1 n : Nat} {f g : Nat → Int32} {lv : dm_Lv} {k : Int32} (h0 : M[c0]? = some (.inl (.int, n0, .inl f))) (h1 : M[c1]? = some (.inl (.int, n1, .inl g))) (hk : ¬ k < 0) (k0 : k.toNatClampNeg ≤ n0) (k1 : k.toNatClampNeg ≤ n1) : dm_acp n lv [.int k, .int 0, .ref c1, .int 0, .ref c0] M = some (.inl ((n, lv, []), M.set c1 (.inl (.int, n1, .inl (va_cpy f g 0 0 k.toNatClampNeg))))) := by
  unfold dm_acp
  have hcond : (([] : List Value).map fun v => v.category).sum ≤ 8 ∧ ¬ (0 : Int32) < 0 ∧ ¬ (0 : Int32) < 0 ∧ ¬ k < 0 ∧ (0 : Int32).toNatClampNeg + k.toNatClampNeg ≤ n0 ∧ (0 : Int32).toNatClampNeg + k.toNatClampNeg ≤ n1 := by
    rw [show (0 : Int32).toNatClampNeg = 0 from rfl]
    exact ⟨by decide, by decide, by decide, hk, by omega, by omega⟩
  simp only [h0, h1, if_pos hcond]
  rw [show (0 : Int32).toNatClampNeg = 0 from rfl]
theorem sp_47 {p : iv_P} {M : dm_Mem} (hM : Iv p M) {a b : Nat} (ha : iv_ty a = some 3) (hb : iv_ty b = some 3) (m : Int32) : hT 3 47 [.ref a, .ref b, .int m] M (pV p) := by
  have j31 : ∀ (M : dm_Mem) (Ls : Nat → Nat) (z : Int32), Iw p Ls M → z.toInt ≤ Ls b → hG 2 cd_47 31 [(3, .int z), (0, .ref a), (1, .ref b), (2, .int m)] [] M (pV p) := by
    intro M Ls z hW hz
    have j58 : hG 2 cd_47 58 [(3, .int z), (0, .ref a), (1, .ref b), (2, .int m)] [] M (pV p) := hr (f := dm_vret) rfl rfl ⟨rfl, Ls, hW⟩
    obtain ⟨c, f, -, hc, hcr, hA⟩ := nu_at hW ha
    obtain ⟨c2, f2, -, hc2, hcr2, hA2⟩ := nu_at hW hb
    have hL := nu_len hW ha
    have hL2 := nu_len hW hb
    refine hs (f := dm_ild 32 3) rfl rfl ?_
    refine h_if_le (n := 35) (tt := 58) rfl (fun _ => j58) (fun h1 => ?_)
    refine hs (f := dm_ild 36 3) rfl rfl ?_
    refine hs (f := dm_ald 37 0) rfl rfl ?_
    refine hs (f := dm_getf 40 3 1) rfl (dm_getf_ok hc) ?_
    refine hs (f := dm_alen 41) rfl (al_ok hA) ?_
    refine h_ic_gt (n := 44) (tt := 58) rfl (fun _ => j58) (fun h2 => ?_)
    have h0 : 0 < z.toInt := by
      rw [Int32.le_iff_toInt_le, show (0 : Int32).toInt = 0 from by decide] at h1
      omega
    have h3 : ¬ z < 0 := by
      rw [Int32.lt_iff_toInt_lt, show (0 : Int32).toInt = 0 from by decide]
      omega
    have h4 := i_clamp (i := z) (by omega)
    rw [Int32.lt_iff_toInt_lt, i_ofNat (by omega)] at h2
    refine hs (f := dm_ald 45 1) rfl rfl ?_
    refine hs (f := dm_getf 48 3 1) rfl (dm_getf_ok hc2) ?_
    refine hs (f := dm_push 49 (.int 0)) rfl rfl ?_
    refine hs (f := dm_ald 50 0) rfl rfl ?_
    refine hs (f := dm_getf 53 3 1) rfl (dm_getf_ok hc) ?_
    refine hs (f := dm_push 54 (.int 0)) rfl rfl ?_
    refine hs (f := dm_ild 55 3) rfl rfl ?_
    refine hs (f := dm_acp 58) rfl (cp_ok hA2 hA h3 (by omega) (by omega)) ?_
    exact hr (f := dm_vret) rfl rfl ⟨rfl, Ls, iw_arr hW hA hcr⟩
  have hM' := hM
  obtain ⟨Ls, hW⟩ := hM
  obtain ⟨c, f, hm, hc, hcr, hA⟩ := nu_at hW ha
  obtain ⟨c2, f2, -, hc2, hcr2, hA2⟩ := nu_at hW hb
  have hL := nu_len hW ha
  have hL2 := nu_len hW hb
  refine hx (t := cd_47) rfl (Nat.le_of_ble_eq_true rfl) (lv := [(0, .ref a), (1, .ref b), (2, .int m)]) rfl ?_
  refine hs (f := dm_ild 1 2) rfl rfl ?_
  refine hs (f := dm_ald 2 1) rfl rfl ?_
  refine hs (f := dm_getf 5 3 1) rfl (dm_getf_ok hc2) ?_
  refine hs (f := dm_alen 6) rfl (al_ok hA2) ?_
  refine hs (f := dm_mn 9) rfl rfl ?_
  refine hs (f := dm_ald 10 0) rfl rfl ?_
  refine hs (f := dm_getf 13 3 0) rfl (dm_getf_ok hm) ?_
  refine hs (f := dm_mn 16) rfl rfl ?_
  generalize hz : (if Int32.ofNat (iv_most a) < (if Int32.ofNat (Ls b) < m then Int32.ofNat (Ls b) else m) then Int32.ofNat (iv_most a) else (if Int32.ofNat (Ls b) < m then Int32.ofNat (Ls b) else m)) = z
  have hz2 : z.toInt ≤ Ls b := by
    have e1 := i_ofNat (L := Ls b) (by omega)
    have hy : (if Int32.ofNat (Ls b) < m then Int32.ofNat (Ls b) else m).toInt ≤ Ls b := by
      split
      · rw [e1]; omega
      · rename_i q
        rw [Int32.lt_iff_toInt_lt, e1] at q
        omega
    rw [← hz]
    generalize (if Int32.ofNat (Ls b) < m then Int32.ofNat (Ls b) else m) = y at hy ⊢
    split
    · rename_i q
      rw [Int32.lt_iff_toInt_lt] at q
      omega
    · exact hy
  refine hs (f := dm_ist 17 3) (lv' := [(3, .int z), (0, .ref a), (1, .ref b), (2, .int m)]) rfl rfl ?_
  refine hs (f := dm_ild 18 3) rfl rfl ?_
  refine hs (f := dm_ald 19 0) rfl rfl ?_
  refine hs (f := dm_getf 22 3 1) rfl (dm_getf_ok hc) ?_
  refine hs (f := dm_alen 23) rfl (al_ok hA) ?_
  refine h_ic_le (n := 26) (tt := 31) rfl (fun _ => j31 M Ls z hW hz2) (fun _ => ?_)
  refine hs (f := dm_ald 27 0) rfl rfl ?_
  refine hs (f := dm_ild 28 3) rfl rfl ?_
  refine v_inv rfl rfl rfl (Nat.le_of_ble_eq_true rfl) hM' ha (hT_mono (Nat.le_refl _) (sp_48w hW ha z) (fun r M1 q => ?_))
  obtain ⟨rfl, Ls', q1, q2⟩ := q
  have := q2 b
  exact j31 M1 Ls' z q1 (by omega)
