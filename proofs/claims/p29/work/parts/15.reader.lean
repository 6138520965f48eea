/-! reading the row of bits: behind a fault nothing is read -/
def rdF (M : dm_Mem) : Prop := dm_fld M 67 5 2 = some (.int (-1))
theorem sp_57f {p : iv_P} {M : dm_Mem} (hM : Iv p M) {a : Nat} (ha : iv_ty a = some 5) : hT 1 57 [.ref a] M (fun r M' => ∃ x : Int32, isB x ∧ r = some (.int x) ∧ M' = M ∧ (x = 0 → rdF M) ∧ (¬ x = 0 → ¬ rdF M)) := by
  have ea := iv_rd ha
  subst ea
  refine hx (t := cd_57) rfl (Nat.le_of_ble_eq_true rfl) (lv := [(0, .ref 67)]) rfl ?_
  refine hs (f := dm_ald 1 0) rfl rfl ?_
  refine v_geti rfl hM ha rfl (fun x hx => ?_)
  refine hs (f := dm_push 5 (.int (-1))) rfl rfl ?_
  refine h_ic_eq (n := 8) (tt := 12) rfl (fun h => ?_) (fun h => ?_)
  · refine hs (f := dm_push 13 (.int 0)) rfl rfl ?_
    refine h_retB rfl isB_0 ⟨0, isB_0, rfl, rfl, fun _ => ?_, fun q => absurd rfl q⟩
    unfold rdF
    rw [hx, h]
  · refine hs (f := dm_push 9 (.int 1)) rfl rfl ?_
    refine hs (f := dm_goto 13) rfl rfl ?_
    refine h_retB rfl isB_1 ⟨1, isB_1, rfl, rfl, fun q => absurd q (by decide), fun _ q => ?_⟩
    unfold rdF at q
    rw [hx] at q
    cases q
    exact h rfl
theorem sp_58f {p : iv_P} {M : dm_Mem} (hM : Iv p M) {a : Nat} (ha : iv_ty a = some 5) (w : Int32) : hT 2 58 [.ref a, .int w] M (fun r M' => r = none ∧ Iv p M' ∧ (¬ rdF M → ¬ rdF M') ∧ (¬ w = -1 → ¬ rdF M')) := by
  have ea := iv_rd ha
  subst ea
  refine hx (t := cd_58) rfl (Nat.le_of_ble_eq_true rfl) (lv := [(0, .ref 67), (1, .int w)]) rfl ?_
  refine hs (f := dm_ald 1 0) rfl rfl ?_
  refine v_inv rfl rfl rfl (Nat.le_of_ble_eq_true rfl) hM ha (hT_mono (Nat.le_refl _) (sp_57f hM ha) (fun r1 M1 q => ?_))
  obtain ⟨x, hb, rfl, rfl, hx0, hx1⟩ := q
  refine h_if_ne (n := 7) (tt := 12) rfl (fun h => ?_) (fun h => ?_)
  · exact hr (f := dm_vret) rfl rfl ⟨rfl, hM, fun q => q, fun _ => hx1 h⟩
  · have h0 : x = 0 := Classical.byContradiction h
    refine hs (f := dm_ald 8 0) rfl rfl ?_
    refine hs (f := dm_ild 9 1) rfl rfl ?_
    refine v_put rfl hM ha (c := 0) rfl (by decide) (Or.inl rfl) (fun _ => ⟨w, rfl⟩) rfl (fun M' h1 h2 _ => ?_)
    refine hr (f := dm_vret) rfl rfl ⟨rfl, h1, fun q => absurd (hx0 h0) q, fun q1 q2 => ?_⟩
    unfold rdF at q2
    rw [h2] at q2
    cases q2
    exact q1 rfl
theorem sp_58 {p : iv_P} {M : dm_Mem} (hM : Iv p M) {a : Nat} (ha : iv_ty a = some 5) (w : Int32) : hT 2 58 [.ref a, .int w] M (pV p) :=
  hT_mono (Nat.le_refl _) (sp_58f hM ha w) (fun r M' q => ⟨q.1, q.2.1⟩)
theorem sp_6s {p : iv_P} {z : Int32} (hz : p.2.2.1 = some z) {M : dm_Mem} (hM : Iv p M) : hT 1 6 [.ref 61] M (fun r M' => r = some (.int z) ∧ M' = M) := by
  refine hx (t := cd_6) rfl (Nat.le_of_ble_eq_true rfl) (lv := [(0, .ref 61)]) rfl ?_
  refine hs (f := dm_ald 1 0) rfl rfl ?_
  refine v_gets rfl hM iv_61 rfl (fun x hx _ => ?_)
  rw [hx z rfl hz]
  exact hr (f := dm_ret .int) rfl rfl ⟨rfl, rfl⟩
theorem sp_7s {p : iv_P} {z : Int32} (hz : p.2.2.1 = some z) {M : dm_Mem} (hM : Iv p M) (i : Int32) : hT 2 7 [.ref 61, .int i] M (fun r M' => ∃ x : Int32, r = some (.int x) ∧ M' = M ∧ (z < 0 → x = -1)) := by
  have j23 : hG 1 cd_7 23 [(0, .ref 61), (1, .int i)] [] M (fun r M' => ∃ x : Int32, r = some (.int x) ∧ M' = M ∧ (z < 0 → x = -1)) :=
    hs (f := dm_push 24 (.int (-1))) rfl rfl (hr (f := dm_ret .int) rfl rfl ⟨-1, rfl, rfl, fun _ => rfl⟩)
  refine hx (t := cd_7) rfl (Nat.le_of_ble_eq_true rfl) (lv := [(0, .ref 61), (1, .int i)]) rfl ?_
  refine hs (f := dm_ild 1 1) rfl rfl ?_
  refine h_if_lt (n := 4) (tt := 23) rfl (fun _ => j23) (fun h1 => ?_)
  refine hs (f := dm_ild 5 1) rfl rfl ?_
  refine hs (f := dm_ald 6 0) rfl rfl ?_
  refine v_gets rfl hM iv_61 rfl (fun x hx _ => ?_)
  rw [hx z rfl hz]
  refine h_ic_ge (n := 12) (tt := 23) rfl (fun _ => j23) (fun h2 => ?_)
  refine hs (f := dm_ald 13 0) rfl rfl ?_
  refine v_geto rfl hM iv_61 rfl (fun a11 ha11 => ?_)
  refine hs (f := dm_ild 17 1) rfl rfl ?_
  refine v_inv rfl rfl rfl (Nat.le_of_ble_eq_true rfl) hM ha11 (w_I (by decide) (sp_45 hM ha11 i) (fun x12 => ?_))
  refine hs (f := dm_goto 24) rfl rfl ?_
  refine hr (f := dm_ret .int) rfl rfl ⟨_, rfl, rfl, fun q => ?_⟩
  exfalso
  rw [Int32.lt_iff_toInt_lt] at h1 q
  rw [Int32.le_iff_toInt_le] at h2
  omega
theorem i_nn1 {n z : Int32} (h0 : ¬ n < 0) (h : n < z) : ¬ n + 1 < 0 := by
  have h1 := i_rng z
  rw [Int32.lt_iff_toInt_lt] at h0 h ⊢
  rw [i_add1 (by omega)]
  have h2 : (0 : Int32).toInt = 0 := by decide
  omega
theorem sp_59f {p : iv_P} {z : Int32} (hz : p.2.2.1 = some z) {M : dm_Mem} (hM : Iv p M) {a : Nat} (ha : iv_ty a = some 5) : hT 3 59 [.ref a] M (fun r M' => ∃ x : Int32, r = some (.int x) ∧ Iv p M' ∧ (¬ rdF M → ¬ rdF M' ∧ x = -1) ∧ (z < 0 → x = -1)) := by
  have ea := iv_rd ha
  subst ea
  have j25 : ∀ M1, Iv p M1 → (¬ rdF M → ¬ rdF M1) → (rdF M1 → ∀ n1, dm_fld M1 67 5 1 = some (.int n1) → ¬ z < 0 → ¬ n1 + 1 < 0) → hG 2 cd_59 25 [(0, .ref 67)] [] M1 (fun r M' => ∃ x : Int32, r = some (.int x) ∧ Iv p M' ∧ (¬ rdF M → ¬ rdF M' ∧ x = -1) ∧ (z < 0 → x = -1)) := by
    intro M1 hM1 hr1 hK
    refine hs (f := dm_ald 26 0) rfl rfl ?_
    refine v_inv rfl rfl rfl (Nat.le_of_ble_eq_true rfl) hM1 ha (hT_mono (by decide) (sp_57f hM1 ha) (fun r1 M2 q => ?_))
    obtain ⟨x, hb, rfl, rfl, hx0, hx1⟩ := q
    refine h_if_eq (n := 32) (tt := 34) rfl (fun h => ?_) (fun h => ?_)
    · have hf := hx0 h
      refine hs (f := dm_ald 35 0) rfl rfl ?_
      refine hs (f := dm_dup 36) rfl rfl ?_
      refine v_getn rfl hM1 ha rfl (fun n1 hn1 hfl => ?_)
      refine hs (f := dm_push 40 (.int 1)) rfl rfl ?_
      refine hs (f := dm_ii 41 (fun x y => x + y)) (st' := [.int (n1 + 1), .ref 67]) rfl rfl ?_
      refine v_putn rfl hM1 ha rfl (fun z' e1 e2 => ?_) (fun M2 hM2 => ?_)
      · rw [hz] at e1
        cases e1
        exact hK hf n1 hfl e2
      refine hs (f := dm_ald 45 0) rfl rfl ?_
      refine v_getr rfl hM2 ha rfl ?_
      refine hs (f := dm_ald 49 0) rfl rfl ?_
      refine v_getn rfl hM2 ha rfl (fun n2 _ _ => ?_)
      refine hs (f := dm_push 53 (.int 1)) rfl rfl ?_
      refine hs (f := dm_ii 54 (fun x y => x - y)) (st' := [.int (n2 - 1), .ref 61]) rfl rfl ?_
      refine v_inv rfl rfl rfl (Nat.le_of_ble_eq_true rfl) hM2 iv_61 (hT_mono (by decide) (sp_7s hz hM2 _) (fun r1 M3 q => ?_))
      obtain ⟨y, rfl, rfl, hy⟩ := q
      exact hr (f := dm_ret .int) rfl rfl ⟨y, rfl, hM2, fun q => absurd hf (hr1 q), hy⟩
    · refine hs (f := dm_push 33 (.int (-1))) rfl rfl ?_
      exact hr (f := dm_ret .int) rfl rfl ⟨-1, rfl, hM1, fun q => ⟨hr1 q, rfl⟩, fun _ => rfl⟩
  refine hx (t := cd_59) rfl (Nat.le_of_ble_eq_true rfl) (lv := [(0, .ref 67)]) rfl ?_
  refine hs (f := dm_ald 1 0) rfl rfl ?_
  refine v_getn rfl hM ha rfl (fun n0 hn0 hfl => ?_)
  refine hs (f := dm_ald 5 0) rfl rfl ?_
  refine v_getr rfl hM ha rfl ?_
  refine v_inv rfl rfl rfl (Nat.le_of_ble_eq_true rfl) hM iv_61 (hT_mono (by decide) (sp_6s hz hM) (fun r1 M1 q => ?_))
  obtain ⟨rfl, rfl⟩ := q
  refine h_ic_lt (n := 14) (tt := 25) rfl (fun h => ?_) (fun h => ?_)
  · refine j25 _ hM (fun q => q) (fun _ n1 e1 e2 => ?_)
    rw [hfl] at e1
    cases e1
    exact i_nn1 (hn0 z hz e2) h
  · refine hs (f := dm_ald 15 0) rfl rfl ?_
    refine hs (f := dm_ald 16 0) rfl rfl ?_
    refine v_getr rfl hM ha rfl ?_
    refine v_inv rfl rfl rfl (Nat.le_of_ble_eq_true rfl) hM iv_61 (hT_mono (by decide) (sp_6s hz hM) (fun r1 M2 q => ?_))
    obtain ⟨rfl, rfl⟩ := q
    refine v_inv rfl rfl rfl (Nat.le_of_ble_eq_true rfl) hM ha (hT_mono (by decide) (sp_58f hM ha z) (fun r1 M2 q => ?_))
    obtain ⟨rfl, hM2, q1, q2⟩ := q
    refine j25 _ hM2 q1 (fun e0 n1 e1 e2 => ?_)
    exfalso
    have h9 : z = -1 := Classical.byContradiction (fun q => q2 q e0)
    subst h9
    exact e2 (by decide)
theorem sp_59 {p : iv_P} {z : Int32} (hz : p.2.2.1 = some z) {M : dm_Mem} (hM : Iv p M) {a : Nat} (ha : iv_ty a = some 5) : hT 3 59 [.ref a] M (pI p) :=
  hT_mono (Nat.le_refl _) (sp_59f hz hM ha) (fun r M' q => by obtain ⟨x, q1, q2, -⟩ := q; exact ⟨x, q1, q2⟩)
theorem sp_60f {p : iv_P} {z : Int32} (hz : p.2.2.1 = some z) {M : dm_Mem} (hM : Iv p M) {a : Nat} (ha : iv_ty a = some 5) : hT 4 60 [.ref a] M (fun r M' => ∃ x : Int32, r = some (.int x) ∧ Iv p M' ∧ (¬ rdF M → x = -1) ∧ (z < 0 → ¬ 0 < x)) := by
  have ea := iv_rd ha
  subst ea
  refine hx (t := cd_60) rfl (Nat.le_of_ble_eq_true rfl) (lv := [(0, .ref 67)]) rfl ?_
  refine hs (f := dm_ald 1 0) rfl rfl ?_
  refine v_inv rfl rfl rfl (Nat.le_of_ble_eq_true rfl) hM ha (hT_mono (by decide) (sp_59f hz hM ha) (fun r1 M1 q => ?_))
  obtain ⟨x1, rfl, hM1, a1, b1⟩ := q
  refine hs (f := dm_ist 5 1) (lv' := [(1, .int x1), (0, .ref 67)]) (st' := []) rfl rfl ?_
  refine hs (f := dm_ald 6 0) rfl rfl ?_
  refine v_inv rfl rfl rfl (Nat.le_of_ble_eq_true rfl) hM1 ha (hT_mono (by decide) (sp_59f hz hM1 ha) (fun r1 M2 q => ?_))
  obtain ⟨x2, rfl, hM2, a2, b2⟩ := q
  refine hs (f := dm_ist 10 2) (lv' := [(2, .int x2), (1, .int x1), (0, .ref 67)]) (st' := []) rfl rfl ?_
  refine hs (f := dm_ald 11 0) rfl rfl ?_
  refine v_inv rfl rfl rfl (Nat.le_of_ble_eq_true rfl) hM2 ha (hT_mono (by decide) (sp_57f hM2 ha) (fun r1 M3 q => ?_))
  obtain ⟨x3, hb, rfl, rfl, c0, c1⟩ := q
  refine h_if_eq (n := 17) (tt := 21) rfl (fun h => ?_) (fun h => ?_)
  · refine hs (f := dm_push 22 (.int 2)) rfl rfl ?_
    refine hs (f := dm_ild 23 1) rfl rfl ?_
    refine hs (f := dm_ii 24 (fun x y => x * y)) (st' := [.int (2 * x1)]) rfl rfl ?_
    refine hs (f := dm_ild 25 2) rfl rfl ?_
    refine hs (f := dm_ii 26 (fun x y => x + y)) (st' := [.int (2 * x1 + x2)]) rfl rfl ?_
    refine hr (f := dm_ret .int) rfl rfl ⟨_, rfl, hM2, fun q => absurd (c0 h) (a2 (a1 q).1).1, fun q => ?_⟩
    rw [b1 q, b2 q]
    decide
  · refine hs (f := dm_push 18 (.int (-1))) rfl rfl ?_
    refine hs (f := dm_goto 26) rfl rfl ?_
    exact hr (f := dm_ret .int) rfl rfl ⟨-1, rfl, hM2, fun _ => rfl, fun _ => by decide⟩
theorem sp_60 {p : iv_P} {z : Int32} (hz : p.2.2.1 = some z) {M : dm_Mem} (hM : Iv p M) {a : Nat} (ha : iv_ty a = some 5) : hT 4 60 [.ref a] M (pI p) :=
  hT_mono (Nat.le_refl _) (sp_60f hz hM ha) (fun r M' q => by obtain ⟨x, q1, q2, -⟩ := q; exact ⟨x, q1, q2⟩)
def mS (i : Int32) : Nat := (61 - i.toInt).toNat
theorem mS_0 : mS 0 = 61 := by decide
theorem mS_lt {i : Int32} (h : i ≤ 60) : mS (i + 1) < mS i := by
  rw [Int32.le_iff_toInt_le, show (60 : Int32).toInt = 60 from by decide] at h
  unfold mS
  rw [i_add1 (by omega)]
  omega
theorem mS_gt {i x : Int32} (hH : ¬ i ≤ 60 → ¬ 0 < x) (h : 0 < x) : mS (i + 1) < mS i := mS_lt (Classical.byContradiction (fun q => hH q h))
theorem mS_eq {i x : Int32} (hH : ¬ i ≤ 60 → x = -1) (h : x = 0) : mS (i + 1) < mS i := mS_lt (Classical.byContradiction (fun q => by
  have h1 := hH q
  rw [h] at h1
  exact absurd h1 (by decide)))
theorem nx_or {p : iv_P} {z x : Int32} {R : Prop} (hz : p.2.2.1 = some z) (hn : ∀ z', p.2.2.1 = some z' → ¬ z' < 0 → ¬ x < 0) (h : ¬ x = -1 → R) : R ∨ z < 0 := by
  by_cases q : z < 0
  · exact Or.inr q
  · refine Or.inl (h (fun e => ?_))
    exact hn z hz q (by rw [e]; decide)
theorem sp_61 {p : iv_P} {z : Int32} (hz : p.2.2.1 = some z) {M : dm_Mem} (hM : Iv p M) {a1 : Nat} (ha1 : iv_ty a1 = some 5) : hT 4 61 [.ref a1] M (pI p) := by
  have j96_0 : ∀ (M : dm_Mem) (hM : Iv p M) (x2 : Int32) (x3 : Int32) (x4 : Int32) (x5 : Int32) (x6 : Int32) (a7 : Nat) (ha7 : iv_ty a7 = some 5) (x8 : Int32), hG 3 cd_61 96 [(5, .int x2), (4, .int x3), (3, .int x4), (2, .int x5), (1, .int x6), (0, .ref a7)] [.int x8] M (pI p) := by
    intro M hM x2 x3 x4 x5 x6 a7 ha7 x8
    exact hr (f := dm_ret .int) rfl rfl ⟨_, rfl, hM⟩
  have j58_1 : ∀ (nn : Nat) (M : dm_Mem) (hM : Iv p M) (x9 : Int32) (x10 : Int32) (x11 : Int32) (x12 : Int32) (x13 : Int32) (a14 : Nat) (ha14 : iv_ty a14 = some 5), mU x9 = nn → hG 3 cd_61 58 [(5, .int x9), (4, .int x10), (3, .int x11), (2, .int x12), (1, .int x13), (0, .ref a14)] [] M (pI p) := by
    intro nn
    induction nn using Nat.strongRecOn with
    | ind nn IHn =>
      intro M hM x9 x10 x11 x12 x13 a14 ha14 hn
      refine hs (f := dm_ild 60 5) rfl rfl ?_
      refine hs (f := dm_ild 61 2) rfl rfl ?_
      refine h_ic_ge (n := 64) (tt := 81) rfl (fun h15 => ?_) (fun h15 => ?_)
      · skip
        refine hs (f := dm_ald 82 0) rfl rfl ?_
        refine v_inv rfl rfl rfl (Nat.le_of_ble_eq_true rfl) hM ha14 (w_B (by decide) (sp_57  hM ha14 ) (fun x16 bx16 => ?_))
        refine h_if_eq (n := 88) (tt := 92) rfl (fun h17 => ?_) (fun h17 => ?_)
        · skip
          refine hs (f := dm_ild 93 1) rfl rfl ?_
          refine hs (f := dm_ild 95 4) rfl rfl ?_
          refine hs (f := dm_ii 96 (fun x y => x + y)) (st' := [.int (x13 + x10)]) rfl rfl ?_
          exact j96_0 M hM x9 x10 x11 x12 x13 a14 ha14 (x13 + x10)
        · skip
          refine hs (f := dm_push 89 (.int (-1))) rfl rfl ?_
          refine hs (f := dm_goto 96) rfl rfl ?_
          exact j96_0 M hM x9 x10 x11 x12 x13 a14 ha14 (-1)
      · skip
        have hF : mU (x9 + 1) < nn := hn ▸ mU_lt h15
        refine hs (f := dm_push 65 (.int 2)) rfl rfl ?_
        refine hs (f := dm_ild 67 4) rfl rfl ?_
        refine hs (f := dm_ii 68 (fun x y => x * y)) (st' := [.int ((2 : Int32) * x10)]) rfl rfl ?_
        refine hs (f := dm_ald 69 0) rfl rfl ?_
        refine v_inv rfl rfl rfl (Nat.le_of_ble_eq_true rfl) hM ha14 (u_I (by decide) (sp_59 hz hM ha14 ) (fun x18 M19 hM19 => ?_))
        refine hs (f := dm_ii 73 (fun x y => x + y)) (st' := [.int (((2 : Int32) * x10) + x18)]) rfl rfl ?_
        refine hs (f := dm_ist 75 4) (lv' := [(4, .int (((2 : Int32) * x10) + x18)), (5, .int x9), (3, .int x11), (2, .int x12), (1, .int x13), (0, .ref a14)]) rfl rfl ?_
        refine hs (f := dm_iinc 78 5 1) (lv' := [(5, .int (x9 + 1)), (4, .int (((2 : Int32) * x10) + x18)), (3, .int x11), (2, .int x12), (1, .int x13), (0, .ref a14)]) rfl rfl ?_
        refine hs (f := dm_goto 58) rfl rfl ?_
        exact IHn _ hF M19 hM19 (x9 + 1) (((2 : Int32) * x10) + x18) x11 x12 x13 a14 ha14 rfl
  have j52_2 : ∀ (M : dm_Mem) (hM : Iv p M) (x20 : Int32) (x21 : Int32) (x22 : Int32) (a23 : Nat) (ha23 : iv_ty a23 = some 5), hG 3 cd_61 52 [(3, .int x20), (2, .int x21), (1, .int x22), (0, .ref a23)] [] M (pI p) := by
    intro M hM x20 x21 x22 a23 ha23
    refine hs (f := dm_push 53 (.int 0)) rfl rfl ?_
    refine hs (f := dm_ist 55 4) (lv' := [(4, .int 0), (3, .int x20), (2, .int x21), (1, .int x22), (0, .ref a23)]) rfl rfl ?_
    refine hs (f := dm_push 56 (.int 0)) rfl rfl ?_
    refine hs (f := dm_ist 58 5) (lv' := [(5, .int 0), (4, .int 0), (3, .int x20), (2, .int x21), (1, .int x22), (0, .ref a23)]) rfl rfl ?_
    exact j58_1 _ M hM 0 0 x20 x21 x22 a23 ha23 rfl
  have j37_3 : ∀ (M : dm_Mem) (hM : Iv p M) (x24 : Int32) (x25 : Int32) (x26 : Int32) (a27 : Nat) (ha27 : iv_ty a27 = some 5), hG 3 cd_61 37 [(3, .int x24), (2, .int x25), (1, .int x26), (0, .ref a27)] [] M (pI p) := by
    intro M hM x24 x25 x26 a27 ha27
    refine hs (f := dm_ild 38 3) rfl rfl ?_
    refine hs (f := dm_push 39 (.int 1)) rfl rfl ?_
    refine h_ic_ne (n := 42) (tt := 52) rfl (fun h28 => ?_) (fun h28 => ?_)
    · skip
      exact j52_2 M hM x24 x25 x26 a27 ha27
    · skip
      refine hs (f := dm_ald 43 0) rfl rfl ?_
      refine hs (f := dm_ald 44 0) rfl rfl ?_
      refine v_getn rfl hM ha27 rfl (fun x29 nx29 _ => ?_)
      refine hs (f := dm_push 48 (.int 1)) rfl rfl ?_
      refine hs (f := dm_ii 49 (fun x y => x - y)) (st' := [.int (x29 - (1 : Int32)), .ref a27]) rfl rfl ?_
      refine v_inv rfl rfl rfl (Nat.le_of_ble_eq_true rfl) hM ha27 (u_V (by decide) (sp_58  hM ha27 (x29 - (1 : Int32)) ) (fun M30 hM30 => ?_))
      exact j52_2 M30 hM30 x24 x25 x26 a27 ha27
  have j9_4 : ∀ (nn : Nat) (M : dm_Mem) (hM : Iv p M) (x31 : Int32) (x32 : Int32) (x33 : Int32) (a34 : Nat) (ha34 : iv_ty a34 = some 5), mU x32 = nn → hG 3 cd_61 9 [(3, .int x31), (2, .int x32), (1, .int x33), (0, .ref a34)] [] M (pI p) := by
    intro nn
    induction nn using Nat.strongRecOn with
    | ind nn IHn =>
      intro M hM x31 x32 x33 a34 ha34 hn
      refine hs (f := dm_ild 10 3) rfl rfl ?_
      refine hs (f := dm_push 11 (.int 1)) rfl rfl ?_
      refine h_ic_ne (n := 14) (tt := 37) rfl (fun h35 => ?_) (fun h35 => ?_)
      · skip
        exact j37_3 M hM x31 x32 x33 a34 ha34
      · skip
        refine hs (f := dm_ild 15 2) rfl rfl ?_
        refine hs (f := dm_push 17 (.int 20)) rfl rfl ?_
        refine h_ic_ge (n := 20) (tt := 37) rfl (fun h36 => ?_) (fun h36 => ?_)
        · skip
          exact j37_3 M hM x31 x32 x33 a34 ha34
        · skip
          have hF : mU (x32 + 1) < nn := hn ▸ mU_lt h36
          refine hs (f := dm_ild 21 1) rfl rfl ?_
          refine hs (f := dm_push 22 (.int 1)) rfl rfl ?_
          refine hs (f := dm_ild 23 2) rfl rfl ?_
          refine hs (f := dm_ii 24 (fun x y => x <<< (y &&& 31))) (st' := [.int ((1 : Int32) <<< (x32 &&& 31)), .int x33]) rfl rfl ?_
          refine hs (f := dm_ii 25 (fun x y => x + y)) (st' := [.int (x33 + ((1 : Int32) <<< (x32 &&& 31)))]) rfl rfl ?_
          refine hs (f := dm_ist 26 1) (lv' := [(1, .int (x33 + ((1 : Int32) <<< (x32 &&& 31)))), (3, .int x31), (2, .int x32), (0, .ref a34)]) rfl rfl ?_
          refine hs (f := dm_iinc 29 2 1) (lv' := [(2, .int (x32 + 1)), (1, .int (x33 + ((1 : Int32) <<< (x32 &&& 31)))), (3, .int x31), (0, .ref a34)]) rfl rfl ?_
          refine hs (f := dm_ald 30 0) rfl rfl ?_
          refine v_inv rfl rfl rfl (Nat.le_of_ble_eq_true rfl) hM ha34 (u_I (by decide) (sp_59 hz hM ha34 ) (fun x37 M38 hM38 => ?_))
          refine hs (f := dm_ist 34 3) (lv' := [(3, .int x37), (2, .int (x32 + 1)), (1, .int (x33 + ((1 : Int32) <<< (x32 &&& 31)))), (0, .ref a34)]) rfl rfl ?_
          refine hs (f := dm_goto 9) rfl rfl ?_
          exact IHn _ hF M38 hM38 x37 (x32 + 1) (x33 + ((1 : Int32) <<< (x32 &&& 31))) a34 ha34 rfl
  refine hx (t := cd_61) rfl (Nat.le_of_ble_eq_true rfl) (lv := [(0, .ref a1)]) rfl ?_
  refine hs (f := dm_push 1 (.int 0)) rfl rfl ?_
  refine hs (f := dm_ist 2 1) (lv' := [(1, .int 0), (0, .ref a1)]) rfl rfl ?_
  refine hs (f := dm_push 3 (.int 2)) rfl rfl ?_
  refine hs (f := dm_ist 4 2) (lv' := [(2, .int 2), (1, .int 0), (0, .ref a1)]) rfl rfl ?_
  refine hs (f := dm_ald 5 0) rfl rfl ?_
  refine v_inv rfl rfl rfl (Nat.le_of_ble_eq_true rfl) hM ha1 (u_I (by decide) (sp_59 hz hM ha1 ) (fun x39 M40 hM40 => ?_))
  refine hs (f := dm_ist 9 3) (lv' := [(3, .int x39), (2, .int 2), (1, .int 0), (0, .ref a1)]) rfl rfl ?_
  exact j9_4 _ M40 hM40 x39 2 0 a1 ha1 rfl
theorem rk_62 {p : iv_P} {z : Int32} (hz : p.2.2.1 = some z) (kk : Nat) : ∀ (M : dm_Mem) (hM : Iv p M) (a1 : Nat) (ha1 : iv_ty a1 = some 5) (x2 : Int32), mS x2 = kk → hT (4 + 1 + kk) 62 [.ref a1, .int x2] M (pI p) := by
  induction kk using Nat.strongRecOn with
  | ind kk IH =>
    intro M hM a1 ha1 x2 hk
    have j147_0 : ∀ (M : dm_Mem) (hM : Iv p M) (x3 : Int32) (bx3 : isB x3) (x4 : Int32) (bx4 : isB x4) (x5 : Int32) (x6 : Int32) (x7 : Int32) (x8 : Int32) (a9 : Nat) (ha9 : iv_ty a9 = some 5) (x10 : Int32) (x11 : Int32), mS x10 = kk → mS (x10 + 1) < kk → hG (4 + kk) cd_62 147 [(7, .int x3), (6, .int x4), (5, .int x5), (4, .int x6), (3, .int x7), (2, .int x8), (0, .ref a9), (1, .int x10)] [.int x11] M (pI p) := by
      intro M hM x3 bx3 x4 bx4 x5 x6 x7 x8 a9 ha9 x10 x11 hk hF
      exact hr (f := dm_ret .int) rfl rfl ⟨_, rfl, hM⟩
    have j135_1 : ∀ (M : dm_Mem) (hM : Iv p M) (x12 : Int32) (bx12 : isB x12) (x13 : Int32) (bx13 : isB x13) (x14 : Int32) (x15 : Int32) (x16 : Int32) (x17 : Int32) (a18 : Nat) (ha18 : iv_ty a18 = some 5) (x19 : Int32), mS x19 = kk → mS (x19 + 1) < kk → hG (4 + kk) cd_62 135 [(7, .int x12), (6, .int x13), (5, .int x14), (4, .int x15), (3, .int x16), (2, .int x17), (0, .ref a18), (1, .int x19)] [] M (pI p) := by
      intro M hM x12 bx12 x13 bx13 x14 x15 x16 x17 a18 ha18 x19 hk hF
      refine hs (f := dm_ald 136 0) rfl rfl ?_
      refine v_inv rfl rfl rfl (Nat.le_of_ble_eq_true rfl) hM ha18 (w_B (by omega) (sp_57  hM ha18 ) (fun x20 bx20 => ?_))
      refine h_if_eq (n := 142) (tt := 146) rfl (fun h21 => ?_) (fun h21 => ?_)
      · skip
        refine hs (f := dm_push 147 (.int 2)) rfl rfl ?_
        exact j147_0 M hM x12 bx12 x13 bx13 x14 x15 x16 x17 a18 ha18 x19 2 hk hF
      · skip
        refine hs (f := dm_push 143 (.int (-1))) rfl rfl ?_
        refine hs (f := dm_goto 147) rfl rfl ?_
        exact j147_0 M hM x12 bx12 x13 bx13 x14 x15 x16 x17 a18 ha18 x19 (-1) hk hF
    have j130_2 : ∀ (M : dm_Mem) (hM : Iv p M) (x22 : Int32) (bx22 : isB x22) (x23 : Int32) (bx23 : isB x23) (x24 : Int32) (x25 : Int32) (x26 : Int32) (x27 : Int32) (a28 : Nat) (ha28 : iv_ty a28 = some 5) (x29 : Int32), mS x29 = kk → mS (x29 + 1) < kk → hG (4 + kk) cd_62 130 [(7, .int x22), (6, .int x23), (5, .int x24), (4, .int x25), (3, .int x26), (2, .int x27), (0, .ref a28), (1, .int x29)] [] M (pI p) := by
      intro M hM x22 bx22 x23 bx23 x24 x25 x26 x27 a28 ha28 x29 hk hF
      refine hs (f := dm_ald 131 0) rfl rfl ?_
      refine hs (f := dm_ild 132 2) rfl rfl ?_
      refine v_inv rfl rfl rfl (Nat.le_of_ble_eq_true rfl) hM ha28 (u_V (by omega) (sp_58  hM ha28 x27 ) (fun M30 hM30 => ?_))
      exact j135_1 M30 hM30 x22 bx22 x23 bx23 x24 x25 x26 x27 a28 ha28 x29 hk hF
    have j106_3 : ∀ (M : dm_Mem) (hM : Iv p M) (x31 : Int32) (bx31 : isB x31) (x32 : Int32) (x33 : Int32) (x34 : Int32) (x35 : Int32) (a36 : Nat) (ha36 : iv_ty a36 = some 5) (x37 : Int32) (x38 : Int32) (bx38 : isB x38), mS x37 = kk → mS (x37 + 1) < kk → hG (4 + kk) cd_62 106 [(6, .int x31), (5, .int x32), (4, .int x33), (3, .int x34), (2, .int x35), (0, .ref a36), (1, .int x37)] [.int x38] M (pI p) := by
      intro M hM x31 bx31 x32 x33 x34 x35 a36 ha36 x37 x38 bx38 hk hF
      refine hs (f := dm_ist 108 7) (lv' := [(7, .int x38), (6, .int x31), (5, .int x32), (4, .int x33), (3, .int x34), (2, .int x35), (0, .ref a36), (1, .int x37)]) rfl rfl ?_
      refine hs (f := dm_ild 110 6) rfl rfl ?_
      refine h_if_eq (n := 113) (tt := 130) rfl (fun h39 => ?_) (fun h39 => ?_)
      · skip
        exact j130_2 M hM x38 bx38 x31 bx31 x32 x33 x34 x35 a36 ha36 x37 hk hF
      · skip
        refine hs (f := dm_ild 115 7) rfl rfl ?_
        refine h_if_eq (n := 118) (tt := 130) rfl (fun h40 => ?_) (fun h40 => ?_)
        · skip
          exact j130_2 M hM x38 bx38 x31 bx31 x32 x33 x34 x35 a36 ha36 x37 hk hF
        · skip
          refine hs (f := dm_ild 120 4) rfl rfl ?_
          refine hs (f := dm_push 121 (.int 1)) rfl rfl ?_
          refine h_ic_ne (n := 124) (tt := 135) rfl (fun h41 => ?_) (fun h41 => ?_)
          · skip
            exact j135_1 M hM x38 bx38 x31 bx31 x32 x33 x34 x35 a36 ha36 x37 hk hF
          · skip
            refine hs (f := dm_ild 126 5) rfl rfl ?_
            refine hs (f := dm_push 127 (.int 1)) rfl rfl ?_
            refine h_ic_ne (n := 130) (tt := 135) rfl (fun h42 => ?_) (fun h42 => ?_)
            · skip
              exact j135_1 M hM x38 bx38 x31 bx31 x32 x33 x34 x35 a36 ha36 x37 hk hF
            · skip
              exact j130_2 M hM x38 bx38 x31 bx31 x32 x33 x34 x35 a36 ha36 x37 hk hF
    have j101_4 : ∀ (M : dm_Mem) (hM : Iv p M) (x43 : Int32) (bx43 : isB x43) (x44 : Int32) (x45 : Int32) (x46 : Int32) (x47 : Int32) (a48 : Nat) (ha48 : iv_ty a48 = some 5) (x49 : Int32), mS x49 = kk → mS (x49 + 1) < kk → hG (4 + kk) cd_62 101 [(6, .int x43), (5, .int x44), (4, .int x45), (3, .int x46), (2, .int x47), (0, .ref a48), (1, .int x49)] [] M (pI p) := by
      intro M hM x43 bx43 x44 x45 x46 x47 a48 ha48 x49 hk hF
      refine hs (f := dm_push 102 (.int 1)) rfl rfl ?_
      refine hs (f := dm_goto 106) rfl rfl ?_
      exact j106_3 M hM x43 bx43 x44 x45 x46 x47 a48 ha48 x49 1 isB_1 hk hF
    have j89_5 : ∀ (M : dm_Mem) (hM : Iv p M) (x50 : Int32) (x51 : Int32) (x52 : Int32) (x53 : Int32) (a54 : Nat) (ha54 : iv_ty a54 = some 5) (x55 : Int32) (x56 : Int32) (bx56 : isB x56), mS x55 = kk → mS (x55 + 1) < kk → hG (4 + kk) cd_62 89 [(5, .int x50), (4, .int x51), (3, .int x52), (2, .int x53), (0, .ref a54), (1, .int x55)] [.int x56] M (pI p) := by
      intro M hM x50 x51 x52 x53 a54 ha54 x55 x56 bx56 hk hF
      refine hs (f := dm_ist 91 6) (lv' := [(6, .int x56), (5, .int x50), (4, .int x51), (3, .int x52), (2, .int x53), (0, .ref a54), (1, .int x55)]) rfl rfl ?_
      refine hs (f := dm_ild 92 3) rfl rfl ?_
      refine hs (f := dm_push 93 (.int 2)) rfl rfl ?_
      refine h_ic_eq (n := 96) (tt := 101) rfl (fun h57 => ?_) (fun h57 => ?_)
      · skip
        exact j101_4 M hM x56 bx56 x50 x51 x52 x53 a54 ha54 x55 hk hF
      · skip
        refine hs (f := dm_ild 98 5) rfl rfl ?_
        refine h_if_eq (n := 101) (tt := 105) rfl (fun h58 => ?_) (fun h58 => ?_)
        · skip
          refine hs (f := dm_push 106 (.int 0)) rfl rfl ?_
          exact j106_3 M hM x56 bx56 x50 x51 x52 x53 a54 ha54 x55 0 isB_0 hk hF
        · skip
          exact j101_4 M hM x56 bx56 x50 x51 x52 x53 a54 ha54 x55 hk hF
    have j84_6 : ∀ (M : dm_Mem) (hM : Iv p M) (x59 : Int32) (x60 : Int32) (x61 : Int32) (x62 : Int32) (a63 : Nat) (ha63 : iv_ty a63 = some 5) (x64 : Int32), mS x64 = kk → mS (x64 + 1) < kk → hG (4 + kk) cd_62 84 [(5, .int x59), (4, .int x60), (3, .int x61), (2, .int x62), (0, .ref a63), (1, .int x64)] [] M (pI p) := by
      intro M hM x59 x60 x61 x62 a63 ha63 x64 hk hF
      refine hs (f := dm_push 85 (.int 1)) rfl rfl ?_
      refine hs (f := dm_goto 89) rfl rfl ?_
      exact j89_5 M hM x59 x60 x61 x62 a63 ha63 x64 1 isB_1 hk hF
    have j72_7 : ∀ (M : dm_Mem) (hM : Iv p M) (x65 : Int32) (x66 : Int32) (x67 : Int32) (a68 : Nat) (ha68 : iv_ty a68 = some 5) (x69 : Int32) (x70 : Int32), mS x69 = kk → mS (x69 + 1) < kk → hG (4 + kk) cd_62 72 [(4, .int x65), (3, .int x66), (2, .int x67), (0, .ref a68), (1, .int x69)] [.int x70] M (pI p) := by
      intro M hM x65 x66 x67 a68 ha68 x69 x70 hk hF
      refine hs (f := dm_ist 74 5) (lv' := [(5, .int x70), (4, .int x65), (3, .int x66), (2, .int x67), (0, .ref a68), (1, .int x69)]) rfl rfl ?_
      refine hs (f := dm_ild 75 3) rfl rfl ?_
      refine hs (f := dm_push 76 (.int 1)) rfl rfl ?_
      refine h_ic_eq (n := 79) (tt := 84) rfl (fun h71 => ?_) (fun h71 => ?_)
      · skip
        exact j84_6 M hM x70 x65 x66 x67 a68 ha68 x69 hk hF
      · skip
        refine hs (f := dm_ild 81 4) rfl rfl ?_
        refine h_if_eq (n := 84) (tt := 88) rfl (fun h72 => ?_) (fun h72 => ?_)
        · skip
          refine hs (f := dm_push 89 (.int 0)) rfl rfl ?_
          exact j89_5 M hM x70 x65 x66 x67 a68 ha68 x69 0 isB_0 hk hF
        · skip
          exact j84_6 M hM x70 x65 x66 x67 a68 ha68 x69 hk hF
    have j54_8 : ∀ (M : dm_Mem) (hM : Iv p M) (x73 : Int32) (x74 : Int32) (a75 : Nat) (ha75 : iv_ty a75 = some 5) (x76 : Int32) (x77 : Int32), mS x76 = kk → mS (x76 + 1) < kk → hG (4 + kk) cd_62 54 [(3, .int x73), (2, .int x74), (0, .ref a75), (1, .int x76)] [.int x77] M (pI p) := by
      intro M hM x73 x74 a75 ha75 x76 x77 hk hF
      refine hs (f := dm_ist 56 4) (lv' := [(4, .int x77), (3, .int x73), (2, .int x74), (0, .ref a75), (1, .int x76)]) rfl rfl ?_
      refine hs (f := dm_ild 57 3) rfl rfl ?_
      refine hs (f := dm_push 58 (.int 2)) rfl rfl ?_
      refine h_ic_ne (n := 61) (tt := 65) rfl (fun h78 => ?_) (fun h78 => ?_)
      · skip
        refine hs (f := dm_ald 66 0) rfl rfl ?_
        refine hs (f := dm_ild 67 1) rfl rfl ?_
        refine hs (f := dm_push 68 (.int 1)) rfl rfl ?_
        refine hs (f := dm_ii 69 (fun x y => x + y)) (st' := [.int (x76 + (1 : Int32)), .ref a75]) rfl rfl ?_
        refine hc (f := dm_ins 72 62 2) (as := [.ref a75, .int (x76 + (1 : Int32))]) rfl rfl (u_I (by omega) (IH _ hF M hM a75 ha75 (x76 + (1 : Int32)) rfl) (fun x79 M80 hM80 => ?_))
        exact j72_7 M80 hM80 x77 x73 x74 a75 ha75 x76 x79 hk hF
      · skip
        refine hs (f := dm_push 62 (.int 0)) rfl rfl ?_
        refine hs (f := dm_goto 72) rfl rfl ?_
        exact j72_7 M hM x77 x73 x74 a75 ha75 x76 0 hk hF
    have j37_9 : ∀ (M : dm_Mem) (hM : Iv p M) (x81 : Int32) (x82 : Int32) (a83 : Nat) (ha83 : iv_ty a83 = some 5) (x84 : Int32) (x85 : Int32), mS x84 = kk → hG (4 + kk) cd_62 37 [(3, .int x81), (2, .int x82), (0, .ref a83), (1, .int x84)] [.int x85] M (pI p) := by
      intro M hM x81 x82 a83 ha83 x84 x85 hk
      exact hr (f := dm_ret .int) rfl rfl ⟨_, rfl, hM⟩
    have j16_10 : ∀ (M : dm_Mem) (hM : Iv p M) (x86 : Int32) (a87 : Nat) (ha87 : iv_ty a87 = some 5) (x88 : Int32), mS x88 = kk → (¬ x88 ≤ 60 → ¬ rdF M ∨ z < 0) → hG (4 + kk) cd_62 16 [(2, .int x86), (0, .ref a87), (1, .int x88)] [] M (pI p) := by
      intro M hM x86 a87 ha87 x88 hk gG
      refine hs (f := dm_ald 17 0) rfl rfl ?_
      refine v_inv rfl rfl rfl (Nat.le_of_ble_eq_true rfl) hM ha87 (hT_mono (by omega) (sp_60f hz hM ha87) (fun r1 M89 q => ?_))
      obtain ⟨x90, rfl, hM89, qa, qb⟩ := q
      have hH : ¬ x88 ≤ 60 → ¬ 0 < x90 := fun w => (gG w).elim (fun u => by rw [qa u]; decide) qb
      refine hs (f := dm_ist 21 3) (lv' := [(3, .int x90), (2, .int x86), (0, .ref a87), (1, .int x88)]) rfl rfl ?_
      refine hs (f := dm_ild 22 3) rfl rfl ?_
      refine h_if_gt (n := 25) (tt := 38) rfl (fun h91 => ?_) (fun h91 => ?_)
      · skip
        have hF : mS (x88 + 1) < kk := hk ▸ mS_gt hH h91
        refine hs (f := dm_ild 39 3) rfl rfl ?_
        refine hs (f := dm_push 40 (.int 1)) rfl rfl ?_
        refine h_ic_ne (n := 43) (tt := 47) rfl (fun h92 => ?_) (fun h92 => ?_)
        · skip
          refine hs (f := dm_ald 48 0) rfl rfl ?_
          refine hs (f := dm_ild 49 1) rfl rfl ?_
          refine hs (f := dm_push 50 (.int 1)) rfl rfl ?_
          refine hs (f := dm_ii 51 (fun x y => x + y)) (st' := [.int (x88 + (1 : Int32)), .ref a87]) rfl rfl ?_
          refine hc (f := dm_ins 54 62 2) (as := [.ref a87, .int (x88 + (1 : Int32))]) rfl rfl (u_I (by omega) (IH _ hF M89 hM89 a87 ha87 (x88 + (1 : Int32)) rfl) (fun x93 M94 hM94 => ?_))
          exact j54_8 M94 hM94 x90 x86 a87 ha87 x88 x93 hk hF
        · skip
          refine hs (f := dm_push 44 (.int 0)) rfl rfl ?_
          refine hs (f := dm_goto 54) rfl rfl ?_
          exact j54_8 M89 hM89 x90 x86 a87 ha87 x88 0 hk hF
      · skip
        refine hs (f := dm_ild 26 3) rfl rfl ?_
        refine h_if_ne (n := 29) (tt := 36) rfl (fun h95 => ?_) (fun h95 => ?_)
        · skip
          refine hs (f := dm_push 37 (.int (-1))) rfl rfl ?_
          exact j37_9 M89 hM89 x90 x86 a87 ha87 x88 (-1) hk
        · skip
          refine hs (f := dm_ald 30 0) rfl rfl ?_
          refine v_inv rfl rfl rfl (Nat.le_of_ble_eq_true rfl) hM89 ha87 (u_I (by omega) (sp_59 hz hM89 ha87 ) (fun x96 M97 hM97 => ?_))
          refine hs (f := dm_goto 37) rfl rfl ?_
          exact j37_9 M97 hM97 x90 x86 a87 ha87 x88 x96 hk
    rw [show 4 + 1 + kk = (4 + kk) + 1 by omega]
    refine hx (t := cd_62) rfl (Nat.le_of_ble_eq_true rfl) (lv := [(0, .ref a1), (1, .int x2)]) rfl ?_
    refine hs (f := dm_ald 1 0) rfl rfl ?_
    refine v_getn rfl hM ha1 rfl (fun x98 nx98 _ => ?_)
    refine hs (f := dm_ist 5 2) (lv' := [(2, .int x98), (0, .ref a1), (1, .int x2)]) rfl rfl ?_
    refine hs (f := dm_ild 6 1) rfl rfl ?_
    refine hs (f := dm_push 8 (.int 60)) rfl rfl ?_
    refine h_ic_le (n := 11) (tt := 16) rfl (fun h99 => ?_) (fun h99 => ?_)
    · skip
      exact j16_10 M hM x98 a1 ha1 x2 hk (fun q => absurd h99 q)
    · skip
      refine hs (f := dm_ald 12 0) rfl rfl ?_
      refine hs (f := dm_ild 13 2) rfl rfl ?_
      refine v_inv rfl rfl rfl (Nat.le_of_ble_eq_true rfl) hM ha1 (hT_mono (by omega) (sp_58f hM ha1 x98) (fun r1 M100 q => ?_))
      obtain ⟨rfl, hM100, -, qN⟩ := q
      exact j16_10 M100 hM100 x98 a1 ha1 x2 hk (fun _ => nx_or hz nx98 qN)
theorem rk_63 {p : iv_P} {z : Int32} (hz : p.2.2.1 = some z) (kk : Nat) : ∀ (M : dm_Mem) (hM : Iv p M) (a1 : Nat) (ha1 : iv_ty a1 = some 5) (a2 : Nat) (ha2 : iv_ty a2 = some 6) (x3 : Int32), mS x3 = kk → hT (4 + 1 + kk) 63 [.ref a1, .ref a2, .int x3] M (pV p) := by
  induction kk using Nat.strongRecOn with
  | ind kk IH =>
    intro M hM a1 ha1 a2 ha2 x3 hk
    have j183_0 : ∀ (M : dm_Mem) (hM : Iv p M) (x4 : Int32) (x5 : Int32) (x6 : Int32) (x7 : Int32) (bx7 : isB x7) (x8 : Int32) (x9 : Int32) (a10 : Nat) (ha10 : iv_ty a10 = some 5) (a11 : Nat) (ha11 : iv_ty a11 = some 6) (x12 : Int32), mS x12 = kk → mS (x12 + 1) < kk → hG (4 + kk) cd_63 183 [(8, .int x4), (7, .int x5), (6, .int x6), (5, .int x7), (4, .int x8), (3, .int x9), (0, .ref a10), (1, .ref a11), (2, .int x12)] [] M (pV p) := by
      intro M hM x4 x5 x6 x7 bx7 x8 x9 a10 ha10 a11 ha11 x12 hk hF
      exact hr (f := dm_vret) rfl rfl ⟨rfl, hM⟩
    have j178_1 : ∀ (M : dm_Mem) (hM : Iv p M) (x13 : Int32) (x14 : Int32) (x15 : Int32) (x16 : Int32) (bx16 : isB x16) (x17 : Int32) (x18 : Int32) (a19 : Nat) (ha19 : iv_ty a19 = some 5) (a20 : Nat) (ha20 : iv_ty a20 = some 6) (x21 : Int32), mS x21 = kk → mS (x21 + 1) < kk → hG (4 + kk) cd_63 178 [(8, .int x13), (7, .int x14), (6, .int x15), (5, .int x16), (4, .int x17), (3, .int x18), (0, .ref a19), (1, .ref a20), (2, .int x21)] [] M (pV p) := by
      intro M hM x13 x14 x15 x16 bx16 x17 x18 a19 ha19 a20 ha20 x21 hk hF
      refine hs (f := dm_ald 179 0) rfl rfl ?_
      refine hs (f := dm_ild 180 3) rfl rfl ?_
      refine v_inv rfl rfl rfl (Nat.le_of_ble_eq_true rfl) hM ha19 (u_V (by omega) (sp_58  hM ha19 x18 ) (fun M22 hM22 => ?_))
      exact j183_0 M22 hM22 x13 x14 x15 x16 bx16 x17 x18 a19 ha19 a20 ha20 x21 hk hF
    have j167_2 : ∀ (M : dm_Mem) (hM : Iv p M) (x23 : Int32) (x24 : Int32) (x25 : Int32) (x26 : Int32) (bx26 : isB x26) (x27 : Int32) (x28 : Int32) (a29 : Nat) (ha29 : iv_ty a29 = some 5) (a30 : Nat) (ha30 : iv_ty a30 = some 6) (x31 : Int32), mS x31 = kk → mS (x31 + 1) < kk → hG (4 + kk) cd_63 167 [(8, .int x23), (7, .int x24), (6, .int x25), (5, .int x26), (4, .int x27), (3, .int x28), (0, .ref a29), (1, .ref a30), (2, .int x31)] [] M (pV p) := by
      intro M hM x23 x24 x25 x26 bx26 x27 x28 a29 ha29 a30 ha30 x31 hk hF
      refine hs (f := dm_ald 168 1) rfl rfl ?_
      refine hs (f := dm_ild 170 8) rfl rfl ?_
      refine hs (f := dm_ild 172 7) rfl rfl ?_
      refine hc (f := dm_ins 175 64 3) (as := [.ref a30, .int x23, .int x24]) rfl rfl (w_B (by omega) (sp_64  hM ha30 x23 x24 ) (fun x32 bx32 => ?_))
      refine h_if_ne (n := 178) (tt := 183) rfl (fun h33 => ?_) (fun h33 => ?_)
      · skip
        exact j183_0 M hM x23 x24 x25 x26 bx26 x27 x28 a29 ha29 a30 ha30 x31 hk hF
      · skip
        exact j178_1 M hM x23 x24 x25 x26 bx26 x27 x28 a29 ha29 a30 ha30 x31 hk hF
    have j157_3 : ∀ (M : dm_Mem) (hM : Iv p M) (x34 : Int32) (x35 : Int32) (x36 : Int32) (x37 : Int32) (bx37 : isB x37) (x38 : Int32) (x39 : Int32) (a40 : Nat) (ha40 : iv_ty a40 = some 5) (a41 : Nat) (ha41 : iv_ty a41 = some 6) (x42 : Int32), mS x42 = kk → mS (x42 + 1) < kk → hG (4 + kk) cd_63 157 [(8, .int x34), (7, .int x35), (6, .int x36), (5, .int x37), (4, .int x38), (3, .int x39), (0, .ref a40), (1, .ref a41), (2, .int x42)] [] M (pV p) := by
      intro M hM x34 x35 x36 x37 bx37 x38 x39 a40 ha40 a41 ha41 x42 hk hF
      refine hs (f := dm_ild 159 5) rfl rfl ?_
      refine h_if_eq (n := 162) (tt := 167) rfl (fun h43 => ?_) (fun h43 => ?_)
      · skip
        exact j167_2 M hM x34 x35 x36 x37 bx37 x38 x39 a40 ha40 a41 ha41 x42 hk hF
      · skip
        refine hs (f := dm_ild 164 6) rfl rfl ?_
        refine h_if_eq (n := 167) (tt := 178) rfl (fun h44 => ?_) (fun h44 => ?_)
        · skip
          exact j178_1 M hM x34 x35 x36 x37 bx37 x38 x39 a40 ha40 a41 ha41 x42 hk hF
        · skip
          exact j167_2 M hM x34 x35 x36 x37 bx37 x38 x39 a40 ha40 a41 ha41 x42 hk hF
    have j128_4 : ∀ (M : dm_Mem) (hM : Iv p M) (x45 : Int32) (x46 : Int32) (x47 : Int32) (x48 : Int32) (bx48 : isB x48) (x49 : Int32) (x50 : Int32) (a51 : Nat) (ha51 : iv_ty a51 = some 5) (a52 : Nat) (ha52 : iv_ty a52 = some 6) (x53 : Int32), mS x53 = kk → mS (x53 + 1) < kk → hG (4 + kk) cd_63 128 [(8, .int x45), (7, .int x46), (6, .int x47), (5, .int x48), (4, .int x49), (3, .int x50), (0, .ref a51), (1, .ref a52), (2, .int x53)] [] M (pV p) := by
      intro M hM x45 x46 x47 x48 bx48 x49 x50 a51 ha51 a52 ha52 x53 hk hF
      refine hs (f := dm_ald 129 1) rfl rfl ?_
      refine hs (f := dm_ild 131 8) rfl rfl ?_
      refine v_inv rfl rfl rfl (Nat.le_of_ble_eq_true rfl) hM ha52 (u_V (by omega) (sp_82  hM ha52 x45 ) (fun M54 hM54 => ?_))
      refine hs (f := dm_ild 136 7) rfl rfl ?_
      refine hs (f := dm_push 137 (.int 2)) rfl rfl ?_
      refine h_ic_ne (n := 140) (tt := 149) rfl (fun h55 => ?_) (fun h55 => ?_)
      · skip
        refine hs (f := dm_ald 150 0) rfl rfl ?_
        refine hs (f := dm_ald 151 1) rfl rfl ?_
        refine hs (f := dm_ild 152 2) rfl rfl ?_
        refine hs (f := dm_push 153 (.int 1)) rfl rfl ?_
        refine hs (f := dm_ii 154 (fun x y => x + y)) (st' := [.int (x53 + (1 : Int32)), .ref a52, .ref a51]) rfl rfl ?_
        refine hc (f := dm_ins 157 63 3) (as := [.ref a51, .ref a52, .int (x53 + (1 : Int32))]) rfl rfl (u_V (by omega) (IH _ hF M54 hM54 a51 ha51 a52 ha52 (x53 + (1 : Int32)) rfl) (fun M56 hM56 => ?_))
        exact j157_3 M56 hM56 x45 x46 x47 x48 bx48 x49 x50 a51 ha51 a52 ha52 x53 hk hF
      · skip
        refine hs (f := dm_ald 141 1) rfl rfl ?_
        refine hs (f := dm_push 142 (.int 0)) rfl rfl ?_
        refine v_inv rfl rfl rfl (Nat.le_of_ble_eq_true rfl) hM54 ha52 (u_I (by omega) (sp_81  hM54 ha52 0 ) (fun x57 M58 hM58 => ?_))
        refine hs (f := dm_pop 146) (st' := []) rfl rfl ?_
        refine hs (f := dm_goto 157) rfl rfl ?_
        exact j157_3 M58 hM58 x45 x46 x47 x48 bx48 x49 x50 a51 ha51 a52 ha52 x53 hk hF
    have j89_5 : ∀ (M : dm_Mem) (hM : Iv p M) (x59 : Int32) (x60 : Int32) (x61 : Int32) (bx61 : isB x61) (x62 : Int32) (x63 : Int32) (a64 : Nat) (ha64 : iv_ty a64 = some 5) (a65 : Nat) (ha65 : iv_ty a65 = some 6) (x66 : Int32), mS x66 = kk → mS (x66 + 1) < kk → hG (4 + kk) cd_63 89 [(7, .int x59), (6, .int x60), (5, .int x61), (4, .int x62), (3, .int x63), (0, .ref a64), (1, .ref a65), (2, .int x66)] [] M (pV p) := by
      intro M hM x59 x60 x61 bx61 x62 x63 a64 ha64 a65 ha65 x66 hk hF
      refine hs (f := dm_ald 90 0) rfl rfl ?_
      refine v_inv rfl rfl rfl (Nat.le_of_ble_eq_true rfl) hM ha64 (w_B (by omega) (sp_57  hM ha64 ) (fun x67 bx67 => ?_))
      refine h_if_eq (n := 96) (tt := 97) rfl (fun h68 => ?_) (fun h68 => ?_)
      · skip
        refine hs (f := dm_ald 98 1) rfl rfl ?_
        refine hs (f := dm_ild 100 6) rfl rfl ?_
        refine v_inv rfl rfl rfl (Nat.le_of_ble_eq_true rfl) hM ha65 (u_I (by omega) (sp_81  hM ha65 x60 ) (fun x69 M70 hM70 => ?_))
        refine hs (f := dm_ist 105 8) (lv' := [(8, .int x69), (7, .int x59), (6, .int x60), (5, .int x61), (4, .int x62), (3, .int x63), (0, .ref a64), (1, .ref a65), (2, .int x66)]) rfl rfl ?_
        refine hs (f := dm_ild 107 7) rfl rfl ?_
        refine hs (f := dm_push 108 (.int 1)) rfl rfl ?_
        refine h_ic_ne (n := 111) (tt := 120) rfl (fun h71 => ?_) (fun h71 => ?_)
        · skip
          refine hs (f := dm_ald 121 0) rfl rfl ?_
          refine hs (f := dm_ald 122 1) rfl rfl ?_
          refine hs (f := dm_ild 123 2) rfl rfl ?_
          refine hs (f := dm_push 124 (.int 1)) rfl rfl ?_
          refine hs (f := dm_ii 125 (fun x y => x + y)) (st' := [.int (x66 + (1 : Int32)), .ref a65, .ref a64]) rfl rfl ?_
          refine hc (f := dm_ins 128 63 3) (as := [.ref a64, .ref a65, .int (x66 + (1 : Int32))]) rfl rfl (u_V (by omega) (IH _ hF M70 hM70 a64 ha64 a65 ha65 (x66 + (1 : Int32)) rfl) (fun M72 hM72 => ?_))
          exact j128_4 M72 hM72 x69 x59 x60 x61 bx61 x62 x63 a64 ha64 a65 ha65 x66 hk hF
        · skip
          refine hs (f := dm_ald 112 1) rfl rfl ?_
          refine hs (f := dm_push 113 (.int 0)) rfl rfl ?_
          refine v_inv rfl rfl rfl (Nat.le_of_ble_eq_true rfl) hM70 ha65 (u_I (by omega) (sp_81  hM70 ha65 0 ) (fun x73 M74 hM74 => ?_))
          refine hs (f := dm_pop 117) (st' := []) rfl rfl ?_
          refine hs (f := dm_goto 128) rfl rfl ?_
          exact j128_4 M74 hM74 x69 x59 x60 x61 bx61 x62 x63 a64 ha64 a65 ha65 x66 hk hF
      · skip
        exact hr (f := dm_vret) rfl rfl ⟨rfl, hM⟩
    have j65_6 : ∀ (M : dm_Mem) (hM : Iv p M) (x75 : Int32) (bx75 : isB x75) (x76 : Int32) (x77 : Int32) (a78 : Nat) (ha78 : iv_ty a78 = some 5) (a79 : Nat) (ha79 : iv_ty a79 = some 6) (x80 : Int32) (x81 : Int32), mS x80 = kk → mS (x80 + 1) < kk → hG (4 + kk) cd_63 65 [(5, .int x75), (4, .int x76), (3, .int x77), (0, .ref a78), (1, .ref a79), (2, .int x80)] [.int x81] M (pV p) := by
      intro M hM x75 bx75 x76 x77 a78 ha78 a79 ha79 x80 x81 hk hF
      refine hs (f := dm_ist 67 6) (lv' := [(6, .int x81), (5, .int x75), (4, .int x76), (3, .int x77), (0, .ref a78), (1, .ref a79), (2, .int x80)]) rfl rfl ?_
      refine hs (f := dm_ald 68 0) rfl rfl ?_
      refine v_inv rfl rfl rfl (Nat.le_of_ble_eq_true rfl) hM ha78 (u_I (by omega) (sp_60 hz hM ha78 ) (fun x82 M83 hM83 => ?_))
      refine hs (f := dm_ist 73 7) (lv' := [(7, .int x82), (6, .int x81), (5, .int x75), (4, .int x76), (3, .int x77), (0, .ref a78), (1, .ref a79), (2, .int x80)]) rfl rfl ?_
      refine hs (f := dm_ild 75 7) rfl rfl ?_
      refine hs (f := dm_push 76 (.int 3)) rfl rfl ?_
      refine h_ic_ne (n := 79) (tt := 89) rfl (fun h84 => ?_) (fun h84 => ?_)
      · skip
        exact j89_5 M83 hM83 x82 x81 x75 bx75 x76 x77 a78 ha78 a79 ha79 x80 hk hF
      · skip
        refine hs (f := dm_ald 80 0) rfl rfl ?_
        refine hs (f := dm_ald 81 0) rfl rfl ?_
        refine v_getn rfl hM83 ha78 rfl (fun x85 nx85 _ => ?_)
        refine hs (f := dm_push 85 (.int 1)) rfl rfl ?_
        refine hs (f := dm_ii 86 (fun x y => x - y)) (st' := [.int (x85 - (1 : Int32)), .ref a78]) rfl rfl ?_
        refine v_inv rfl rfl rfl (Nat.le_of_ble_eq_true rfl) hM83 ha78 (u_V (by omega) (sp_58  hM83 ha78 (x85 - (1 : Int32)) ) (fun M86 hM86 => ?_))
        exact j89_5 M86 hM86 x82 x81 x75 bx75 x76 x77 a78 ha78 a79 ha79 x80 hk hF
    have j50_7 : ∀ (M : dm_Mem) (hM : Iv p M) (x87 : Int32) (x88 : Int32) (a89 : Nat) (ha89 : iv_ty a89 = some 5) (a90 : Nat) (ha90 : iv_ty a90 = some 6) (x91 : Int32) (x92 : Int32) (bx92 : isB x92), mS x91 = kk → mS (x91 + 1) < kk → hG (4 + kk) cd_63 50 [(4, .int x87), (3, .int x88), (0, .ref a89), (1, .ref a90), (2, .int x91)] [.int x92] M (pV p) := by
      intro M hM x87 x88 a89 ha89 a90 ha90 x91 x92 bx92 hk hF
      refine hs (f := dm_ist 52 5) (lv' := [(5, .int x92), (4, .int x87), (3, .int x88), (0, .ref a89), (1, .ref a90), (2, .int x91)]) rfl rfl ?_
      refine hs (f := dm_ild 54 5) rfl rfl ?_
      refine h_if_eq (n := 57) (tt := 64) rfl (fun h93 => ?_) (fun h93 => ?_)
      · skip
        refine hs (f := dm_push 65 (.int 0)) rfl rfl ?_
        exact j65_6 M hM x92 bx92 x87 x88 a89 ha89 a90 ha90 x91 0 hk hF
      · skip
        refine hs (f := dm_ald 58 0) rfl rfl ?_
        refine v_inv rfl rfl rfl (Nat.le_of_ble_eq_true rfl) hM ha89 (u_I (by omega) (sp_61 hz hM ha89 ) (fun x94 M95 hM95 => ?_))
        refine hs (f := dm_goto 65) rfl rfl ?_
        exact j65_6 M95 hM95 x92 bx92 x87 x88 a89 ha89 a90 ha90 x91 x94 hk hF
    have j16_8 : ∀ (M : dm_Mem) (hM : Iv p M) (x96 : Int32) (a97 : Nat) (ha97 : iv_ty a97 = some 5) (a98 : Nat) (ha98 : iv_ty a98 = some 6) (x99 : Int32), mS x99 = kk → (¬ x99 ≤ 60 → ¬ rdF M ∨ z < 0) → hG (4 + kk) cd_63 16 [(3, .int x96), (0, .ref a97), (1, .ref a98), (2, .int x99)] [] M (pV p) := by
      intro M hM x96 a97 ha97 a98 ha98 x99 hk gG
      refine hs (f := dm_ald 17 0) rfl rfl ?_
      refine v_inv rfl rfl rfl (Nat.le_of_ble_eq_true rfl) hM ha97 (hT_mono (by omega) (sp_59f hz hM ha97) (fun r1 M100 q => ?_))
      obtain ⟨x101, rfl, hM100, qa, qb⟩ := q
      have hH : ¬ x99 ≤ 60 → x101 = -1 := fun w => (gG w).elim (fun u => (qa u).2) qb
      refine hs (f := dm_ist 22 4) (lv' := [(4, .int x101), (3, .int x96), (0, .ref a97), (1, .ref a98), (2, .int x99)]) rfl rfl ?_
      refine hs (f := dm_ild 24 4) rfl rfl ?_
      refine h_if_eq (n := 27) (tt := 37) rfl (fun h102 => ?_) (fun h102 => ?_)
      · skip
        have hF : mS (x99 + 1) < kk := hk ▸ mS_eq hH h102
        refine hs (f := dm_ald 38 0) rfl rfl ?_
        refine v_inv rfl rfl rfl (Nat.le_of_ble_eq_true rfl) hM100 ha97 (u_I (by omega) (sp_59 hz hM100 ha97 ) (fun x103 M104 hM104 => ?_))
        refine hs (f := dm_push 42 (.int 1)) rfl rfl ?_
        refine h_ic_ne (n := 45) (tt := 49) rfl (fun h105 => ?_) (fun h105 => ?_)
        · skip
          refine hs (f := dm_push 50 (.int 0)) rfl rfl ?_
          exact j50_7 M104 hM104 x101 x96 a97 ha97 a98 ha98 x99 0 isB_0 hk hF
        · skip
          refine hs (f := dm_push 46 (.int 1)) rfl rfl ?_
          refine hs (f := dm_goto 50) rfl rfl ?_
          exact j50_7 M104 hM104 x101 x96 a97 ha97 a98 ha98 x99 1 isB_1 hk hF
      · skip
        refine hs (f := dm_ald 28 1) rfl rfl ?_
        refine hs (f := dm_ald 29 0) rfl rfl ?_
        refine v_inv rfl rfl rfl (Nat.le_of_ble_eq_true rfl) hM100 ha97 (u_I (by omega) (sp_61 hz hM100 ha97 ) (fun x106 M107 hM107 => ?_))
        refine v_inv rfl rfl rfl (Nat.le_of_ble_eq_true rfl) hM107 ha98 (u_I (by omega) (sp_81  hM107 ha98 x106 ) (fun x108 M109 hM109 => ?_))
        refine hs (f := dm_pop 36) (st' := []) rfl rfl ?_
        exact hr (f := dm_vret) rfl rfl ⟨rfl, hM109⟩
    rw [show 4 + 1 + kk = (4 + kk) + 1 by omega]
    refine hx (t := cd_63) rfl (Nat.le_of_ble_eq_true rfl) (lv := [(0, .ref a1), (1, .ref a2), (2, .int x3)]) rfl ?_
    refine hs (f := dm_ald 1 0) rfl rfl ?_
    refine v_getn rfl hM ha1 rfl (fun x110 nx110 _ => ?_)
    refine hs (f := dm_ist 5 3) (lv' := [(3, .int x110), (0, .ref a1), (1, .ref a2), (2, .int x3)]) rfl rfl ?_
    refine hs (f := dm_ild 6 2) rfl rfl ?_
    refine hs (f := dm_push 8 (.int 60)) rfl rfl ?_
    refine h_ic_le (n := 11) (tt := 16) rfl (fun h111 => ?_) (fun h111 => ?_)
    · skip
      exact j16_8 M hM x110 a1 ha1 a2 ha2 x3 hk (fun q => absurd h111 q)
    · skip
      refine hs (f := dm_ald 12 0) rfl rfl ?_
      refine hs (f := dm_ild 13 3) rfl rfl ?_
      refine v_inv rfl rfl rfl (Nat.le_of_ble_eq_true rfl) hM ha1 (hT_mono (by omega) (sp_58f hM ha1 x110) (fun r1 M112 q => ?_))
      obtain ⟨rfl, hM112, -, qN⟩ := q
      exact j16_8 M112 hM112 x110 a1 ha1 a2 ha2 x3 hk (fun _ => nx_or hz nx110 qN)
