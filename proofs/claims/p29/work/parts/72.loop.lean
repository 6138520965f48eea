/-! the class made, the law's beginning and its loop -/
noncomputable def ev_1 : dm_Mem := ev_M (dm_ex dm_tb dm_cd 2000000 40 94 [.ref 0] [.inr (7, nf_X10)])
def iv_Ls (X : dm_Mem) (a : Nat) : Nat := match X[a]? with
  | some (.inr (_, [_, .ref c])) => (match X[c]? with
    | some (.inl (_, L, _)) => L
    | _ => 0)
  | _ => 0
def iv_vk (X : dm_Mem) (a c : Nat) (v : Value) : Bool := match c, v with
  | 0, .int _ => true
  | 1, .long _ => true
  | 2, .int x => decide (x = 0)
  | 3, .int x => decide (x = Int32.ofNat (iv_most a))
  | 4, .ref c => Nat.blt c 68 && (match X[c]? with
    | some (.inl (.int, L, .inl _)) => Nat.beq L (iv_Ls X a)
    | _ => false)
  | 5, .int _ => true
  | 6, .int _ => true
  | 7, .ref c => Nat.beq c 61
  | n + 8, .ref b => decide (iv_ty b = some n)
  | _, _ => false
def iv_ck (X : dm_Mem) (a ci : Nat) : Bool := match X[a]? with
  | some (.inr (cj, fs)) => Nat.beq cj ci && (Nat.beq fs.length (iv_ft ci).length && (List.range (iv_ft ci).length).all (fun k => match (iv_ft ci)[k]?, fs[k]? with
    | some c, some v => iv_vk X a c v
    | _, _ => false))
  | _ => false
theorem iv_vk_ok {X M : dm_Mem} {S C a c : Nat} {v : Value} (h1 : ∀ k, k < 68 → M[k]? = X[k]?) (h : iv_vk X a c v = true) : iv_ok (M, 0, none, S, C) (iv_Ls X) M a c v := by
  unfold iv_vk at h
  split at h
  · exact ⟨_, rfl⟩
  · exact ⟨_, rfl⟩
  · rw [of_decide_eq_true h]; rfl
  · rw [of_decide_eq_true h]; rfl
  · rename_i c
    rw [Bool.and_eq_true] at h
    have hc : c < 68 := by
      have := h.1
      simpa [Nat.blt_eq] using this
    have h2 := h.2
    split at h2
    · rename_i L f e
      have hL : L = iv_Ls X a := Nat.eq_of_beq_eq_true h2
      subst hL
      exact ⟨c, f, rfl, Or.inl hc, by rw [h1 c hc]; exact e⟩
    · cases h2
  · exact ⟨_, rfl, fun z hz => by cases hz⟩
  · exact ⟨_, rfl, fun z _ hz => by cases hz⟩
  · rename_i c
    have hc : c = 61 := Nat.eq_of_beq_eq_true h
    subst hc
    rfl
  · exact ⟨_, rfl, of_decide_eq_true h⟩
  · cases h
theorem iv_start {X M : dm_Mem} {S C : Nat} (hck : ∀ a ci, iv_ty a = some ci → iv_ck X a ci = true) (hLs : ∀ a, iv_ty a = some 3 → 32 ≤ iv_Ls X a ∧ iv_Ls X a ≤ iv_most a) (h1 : ∀ k, k < 68 → M[k]? = X[k]?) (hsl : dm_slots M + iv_sum (fun a => iv_cr (iv_most a) (iv_Ls X a)) ≤ S) (hl : M.length + iv_sum (fun a => iv_most a - iv_Ls X a) ≤ C) (hn : 117 ≤ M.length) : Iv (M, 0, none, S, C) M := by
  refine ⟨iv_Ls X, fun a ci ha => ?_, hLs, fun k _ _ => rfl, hsl, hl, hn⟩
  have h := hck a ci ha
  unfold iv_ck at h
  split at h
  · rename_i cj fs e
    rw [Bool.and_eq_true, Bool.and_eq_true] at h
    obtain ⟨g1, g2, g3⟩ := h
    have hc : cj = ci := Nat.eq_of_beq_eq_true g1
    subst hc
    refine ⟨fs, by rw [h1 a (iv_ty_lt ha)]; exact e, Nat.eq_of_beq_eq_true g2, fun k c hk => ?_⟩
    have g4 := List.all_eq_true.mp g3 k (List.mem_range.mpr (List.getElem?_eq_some_iff.mp hk).1)
    rw [hk] at g4
    split at g4
    · rename_i c' v e1 e2
      cases e1
      exact ⟨v, e2, iv_vk_ok h1 g4⟩
    · cases g4
  · cases h
set_option maxRecDepth 100000 in
theorem ev_a : (dm_ex dm_tb dm_cd 2000000 40 94 [.ref 0] [.inr (7, nf_X10)]).map (fun q => q.1) = some none := by decide +kernel
set_option maxRecDepth 100000 in
theorem ev_b : ev_1.length = 68 ∧ ((List.range 68).all (fun a => match iv_ty a with
    | some ci => iv_ck ev_1 a ci && (!(Nat.beq ci 3) || (Nat.ble 32 (iv_Ls ev_1 a) && Nat.ble (iv_Ls ev_1 a) (iv_most a)))
    | none => true)) = true ∧ dm_slots ev_1 + iv_sum (fun a => iv_cr (iv_most a) (iv_Ls ev_1 a)) ≤ 6000000 ∧ iv_sum (fun a => iv_most a - iv_Ls ev_1 a) ≤ 590000 := by decide +kernel
theorem ev_c {a ci : Nat} (h : iv_ty a = some ci) : iv_ck ev_1 a ci = true := by
  have h1 := iv_all ev_b.2.1 h
  rw [Bool.and_eq_true] at h1
  exact h1.1
theorem ev_l {a : Nat} (h : iv_ty a = some 3) : 32 ≤ iv_Ls ev_1 a ∧ iv_Ls ev_1 a ≤ iv_most a := by
  have h1 := iv_all ev_b.2.1 h
  rw [Bool.and_eq_true] at h1
  have h2 := h1.2
  simp only [show Nat.beq 3 3 = true from rfl, Bool.not_true, Bool.false_or, Bool.and_eq_true] at h2
  exact ⟨Nat.le_of_ble_eq_true h2.1, Nat.le_of_ble_eq_true h2.2⟩
theorem mm_slots {X : dm_Mem} {fs : List Value} {zs : dm_Mem} : dm_slots (mm X fs zs) = dm_slots X + (fs.length + (zs.map dm_sz).sum) := by
  unfold mm dm_slots
  rw [List.map_append, List.sum_append, List.map_cons, List.sum_cons]
  rfl
theorem dm_newa_ok {n k : Nat} {ty : FieldType} {lv : dm_Lv} {r : List Value} {M : dm_Mem} (h : M.length = k) : dm_newa n ty lv (.int 1 :: r) M = some (.inl ((n, lv, .ref k :: r), M ++ [.inl (ty, 1, dm_zero ty)])) := by
  unfold dm_newa
  rw [h]
  rfl
theorem ev_n1 {a b c k u v : Nat} (h : a = b + k + 1) (h2 : b + c ≤ u) (h3 : u + k + 1 ≤ v) : a + c ≤ v := by omega
theorem ev_n2 {a c k u v : Nat} (h : a = k) (h2 : c ≤ u) (h3 : u + k ≤ v) : a + c ≤ v := by omega
theorem LI_up {T : Int} {M : dm_Mem} (h : LI T M) : LI (T + 1) M := by
  obtain ⟨S, C, fl, q, ⟨h1, h2, h3, h4, h5⟩, e0, hS, hC⟩ := h
  exact ⟨S, C, fl, q, ⟨h1, h2, RI_up h3 (by omega), h4, h5⟩, e0, by omega, by omega⟩
def lw_Qf : Option Value → dm_Mem → Prop := fun r M' => r = some (.int 1) ∧ M'.length ≤ 601024 ∧ dm_slots M' ≤ 7293034
theorem lw_loop {L : Nat} (hL : L ≤ 4608) (xs : Nat → Int32) : ∀ (m : Nat) (i : Int32) (T : Int) (lv : dm_Lv) (M : dm_Mem), 0 ≤ i.toInt → i.toInt ≤ L → i.toInt = 9 * (T - 1) → ((L : Int) - i.toInt).toNat = m → lw_V i lv → LI T M → hG 140 (lwC L xs) 23 lv [] M lw_Qf := by
  intro m
  induction m using Nat.strongRecOn with
  | ind m IH =>
    intro i T lv M i0 i1 i9 hm hV hI
    have eL : (Int32.ofNat L).toInt = L := i_ofNat (by omega)
    have e9 : (Int32.ofNat L - (9 : Int32)).toInt = L - 9 := by
      have w := i_subc (x := Int32.ofNat L) (y := (9 : Int32)) 9 rfl (by omega) (by omega)
      omega
    refine hs (f := dm_ild 25 4) rfl (lw_li hV.2.2.2.2) ?_
    refine hs (f := dm_ald 26 0) rfl (lw_lf hV.1) ?_
    refine hs (f := dm_sln 27 L) rfl rfl ?_
    refine hs (f := dm_push 29 (.int 9)) rfl rfl ?_
    refine hs (f := dm_ii 30 (fun x y => x - y)) rfl rfl ?_
    refine g_ic_gt (n := 33) (tt := 1205) rfl (fun h => ?_) (fun h => ?_)
    · refine hs (f := dm_push 1206 (.int 1)) rfl rfl ?_
      refine h_retB rfl isB_1 ?_
      obtain ⟨S, C, fl, q, hK, e0, hS, hC⟩ := hI
      obtain ⟨Ls, g1, g2, g3, g4, g5, g6⟩ := hK.1
      simp only at g4 g5
      exact ⟨rfl, by omega, by omega⟩
    · have h : i.toInt ≤ (Int32.ofNat L - (9 : Int32)).toInt := h
      have K : ∀ lv' M', lw_V i lv' → LI (T + 1) M' → hG 140 (lwC L xs) 1199 lv' [] M' lw_Qf := fun lv' M' hV' hI' => by
        refine hs (f := dm_iinc 1202 4 9) rfl (lw_inc hV') ?_
        refine hs (f := dm_goto 23) rfl rfl ?_
        have e : (i + (9 : Int32)).toInt = i.toInt + 9 := i_addc 9 rfl (by omega) (by omega)
        exact IH _ (by omega) (i + 9) (T + 1) _ M' (by omega) (by omega) (by omega) rfl (lw_V4 hV') hI'
      refine hs (f := dm_ald 34 0) rfl (lw_lf hV.1) ?_
      refine hs (f := dm_ild 36 4) rfl (lw_li hV.2.2.2.2) ?_
      refine hs (f := dm_sld 37 L xs) rfl (lw_sx i0 (by omega)) ?_
      refine hs (f := dm_push 39 (.int 31)) rfl rfl ?_
      refine hs (f := dm_ii 40 (fun x y => x &&& y)) rfl rfl ?_
      refine h_tsw rfl (by decide) ?_ (hal_c ?_ (hal_c ?_ (hal_c ?_ (hal_c ?_ (hal_c ?_ (hal_c ?_ (hal_c ?_ (hal_c ?_ (hal_c ?_ (hal_c ?_ (hal_c ?_ (hal_c ?_ (hal_c ?_ (hal_c ?_ (hal_c ?_ (hal_c ?_ (hal_c ?_ (hal_c ?_ (hal_c ?_ (hal_c ?_ (hal_c ?_ (hal_c ?_ (hal_c ?_ (hal_c ?_ (hal_c ?_ (hal_c ?_ (hal_c ?_ (hal_c ?_ (hal_c ?_ hal_n)))))))))))))))))))))))))))))
      · exact K lv M hV (LI_up hI)
      · exact lo_0 hL i0 (by omega) hV hI (by omega) K
      · exact lo_1 hL i0 (by omega) hV hI (by omega) K
      · exact lo_2 hL i0 (by omega) hV hI (by omega) K
      · exact lo_3 hL i0 (by omega) hV hI (by omega) K
      · exact lo_4 hL i0 (by omega) hV hI (by omega) K
      · exact lo_5 hL i0 (by omega) hV hI (by omega) K
      · exact lo_6 hL i0 (by omega) hV hI (by omega) K
      · exact lo_7 hL i0 (by omega) hV hI (by omega) K
      · exact lo_8 hL i0 (by omega) hV hI (by omega) K
      · exact lo_9 hL i0 (by omega) hV hI (by omega) K
      · exact lo_10 hL i0 (by omega) hV hI (by omega) K
      · exact lo_11 hL i0 (by omega) hV hI (by omega) K
      · exact lo_12 hL i0 (by omega) hV hI (by omega) K
      · exact lo_13 hL i0 (by omega) hV hI (by omega) K
      · exact lo_14 hL i0 (by omega) hV hI (by omega) K
      · exact lo_15 hL i0 (by omega) hV hI (by omega) K
      · exact lo_16 hL i0 (by omega) hV hI (by omega) K
      · exact lo_17 hL i0 (by omega) hV hI (by omega) K
      · exact lo_18 hL i0 (by omega) hV hI (by omega) K
      · exact lo_19 hL i0 (by omega) hV hI (by omega) K
      · exact lo_20 hL i0 (by omega) hV hI (by omega) K
      · exact lo_21 hL i0 (by omega) hV hI (by omega) K
      · exact lo_22 hL i0 (by omega) hV hI (by omega) K
      · exact lo_23 hL i0 (by omega) hV hI (by omega) K
      · exact lo_24 hL i0 (by omega) hV hI (by omega) K
      · exact lo_25 hL i0 (by omega) hV hI (by omega) K
      · exact lo_26 hL i0 (by omega) hV hI (by omega) K
      · exact lo_27 hL i0 (by omega) hV hI (by omega) K
      · exact lo_28 hL i0 (by omega) hV hI (by omega) K
theorem lw_begin {L : Nat} (hL : L ≤ 4608) (xs : Nat → Int32) : hG 140 (lwC L xs) 0 [(0, .float 0)] [] [] lw_Qf := by
  have hX := ev_b.1
  refine hs (f := dm_new 3 7 nf_X10) rfl rfl ?_
  refine hs (f := dm_dup 4) rfl rfl ?_
  refine hc (f := dm_ini 7 94 0) (as := [.ref 0]) rfl rfl (hT_mono (d := 40) (by decide) (show hT 40 94 [.ref 0] _ (fun r M' => r = none ∧ M' = ev_1) from ⟨2000000, none, ev_1, ev_ok ev_a, rfl, rfl⟩) (fun r1 M1 w => ?_))
  obtain ⟨rfl, rfl⟩ := w
  refine hs (f := dm_ast 8 1) rfl rfl ?_
  refine hs (f := dm_new 11 8 nf_X11) (M' := mm ev_1 nf_X11 []) (pc' := 11) (lv' := [(1, .ref 0), (0, .float 0)]) (st' := [.ref 68]) rfl (by unfold dm_new; rw [hX]; rfl) ?_
  refine hs (f := dm_dup 12) rfl rfl ?_
  refine hc (f := dm_ini 15 134 0) (as := [.ref 68]) rfl rfl (hT_mono (by decide) (ct_134 hX) (fun r1 M1 w => ?_))
  obtain ⟨rfl, q', w1, w2, w3⟩ := w
  have hlen : M1.length = 116 := by
    rw [w1.2.1, mm_len hX]
    rfl
  refine hs (f := dm_ast 16 2) rfl rfl ?_
  refine hs (f := dm_push 17 (.int 1)) rfl rfl ?_
  refine hs (f := dm_newa 19 .long) (M' := M1 ++ [.inl (.long, 1, dm_zero .long)]) (pc' := 19) (lv' := [(2, .ref 68), (1, .ref 0), (0, .float 0)]) (st' := [.ref 116]) rfl (dm_newa_ok hlen) ?_
  refine hs (f := dm_ast 20 3) rfl rfl ?_
  refine hs (f := dm_push 21 (.int 0)) rfl rfl ?_
  refine hs (f := dm_ist 23 4) rfl rfl ?_
  have hg : ∀ k, k < 116 → (M1 ++ [(Sum.inl (.long, 1, dm_zero .long) : dm_Cell)])[k]? = M1[k]? := fun k hk => List.getElem?_append_left (by omega)
  have hsl : dm_slots (M1 ++ [(Sum.inl (.long, 1, dm_zero .long) : dm_Cell)]) = dm_slots ev_1 + (68 + 460604) + 1 := by
    rw [dm_slots_app, w1.2.2.1, mm_slots, rF_len, show ((raL.map (fun t => raC q00 0 t)).map dm_sz).sum = 460604 by decide +kernel]
    rfl
  have hln : (M1 ++ [(Sum.inl (.long, 1, dm_zero .long) : dm_Cell)]).length = 117 := by rw [List.length_append, hlen]; rfl
  have hIv : Iv (M1 ++ [(Sum.inl (.long, 1, dm_zero .long) : dm_Cell)], 0, none, 7289906, 600501) (M1 ++ [(Sum.inl (.long, 1, dm_zero .long) : dm_Cell)]) := by
    have b1 := ev_b.2.2.1
    have b2 := ev_b.2.2.2
    refine iv_start (X := ev_1) (fun a ci h => ev_c h) (fun a h => ev_l h) (fun k hk => ?_) (ev_n1 hsl b1 (by decide)) (ev_n2 hln b2 (by decide)) (by rw [hln]; exact Nat.le_refl _)
    rw [hg k (by omega), w1.1 k (Or.inl hk)]
    unfold mm
    rw [List.getElem?_append_left (by omega)]
  refine lw_loop hL xs _ 0 1 _ _ (by decide) (by show (0 : Int) ≤ L; omega) (by decide) rfl ⟨rfl, rfl, rfl, rfl, rfl⟩ ⟨7289906, 600501, 0, q', ⟨hIv, Rm_mv w1 (fun k k0 k1 => hg k k1), w2, isB_0, fun _ => 0, ?_⟩, w3, by decide, by decide⟩
  rw [List.getElem?_append_right (by omega), hlen]
  rfl
