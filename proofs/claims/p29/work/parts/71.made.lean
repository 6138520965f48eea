/-! the reference made -/
def mm (X : dm_Mem) (fs : List Value) (zs : dm_Mem) : dm_Mem := X ++ .inr (8, fs) :: zs
theorem mm_get {X : dm_Mem} {fs : List Value} {zs : dm_Mem} (hX : X.length = 68) : (mm X fs zs)[68]? = some (.inr (8, fs)) := by
  unfold mm
  rw [List.getElem?_append_right (by omega), hX]
  rfl
theorem mm_set {X : dm_Mem} {fs gs : List Value} {zs : dm_Mem} (hX : X.length = 68) : (mm X fs zs).set 68 (.inr (8, gs)) = mm X gs zs := by
  unfold mm
  rw [List.set_append_right 68 _ (by omega), hX]
  rfl
theorem mm_app {X : dm_Mem} {fs : List Value} {zs : dm_Mem} {z : dm_Cell} : mm X fs zs ++ [z] = mm X fs (zs ++ [z]) := by
  unfold mm
  rw [List.append_assoc]
  rfl
theorem mm_len {X : dm_Mem} {fs : List Value} {zs : dm_Mem} (hX : X.length = 68) : (mm X fs zs).length = 69 + zs.length := by
  unfold mm
  rw [List.length_append, List.length_cons, hX]
  omega
theorem ct_put {X : dm_Mem} {fs : List Value} {zs : dm_Mem} {d : Nat} {t : dm_Code} {pc n k : Nat} {ty : FieldType} {lv : dm_Lv} {v : Value} {r : List Value} {Q : Option Value → dm_Mem → Prop} (hX : X.length = 68) (hf : dm_fetch t pc = some (dm_putf n 8 k ty)) (hk : k < fs.length) (hft : dm_fit ty v = true) (h : hG d t n lv r (mm X (fs.set k v) zs) Q) : hG d t pc lv (v :: .ref 68 :: r) (mm X fs zs) Q := by
  refine hs (M' := mm X (fs.set k v) zs) (pc' := n) (lv' := lv) (st' := r) hf ?_ h
  unfold dm_putf
  simp only [mm_get hX, hk, hft, and_self, if_true, mm_set hX]
theorem ct_arr {X : dm_Mem} {fs : List Value} {zs : dm_Mem} {d : Nat} {t : dm_Code} {pc p1 p2 p3 p4 k m L : Nat} {ty : FieldType} {n : Int32} {Q : Option Value → dm_Mem → Prop} (hX : X.length = 68) (hl : fs.length = 68) (hk : k < 68) (hz : zs.length = m) (h0 : dm_fetch t pc = some (dm_ald p1 0)) (h1 : dm_fetch t p1 = some (dm_push p2 (.int n))) (h2 : dm_fetch t p2 = some (dm_newa p3 ty)) (h3 : dm_fetch t p3 = some (dm_putf p4 8 k (.array ty))) (hn : ¬ (n < 0 ∨ 50000000 < n.toNatClampNeg)) (hL : n.toNatClampNeg = L)
    (h : ∀ gs ys, gs = fs.set k (.ref (69 + m)) → ys = zs ++ [.inl (ty, L, dm_zero ty)] → gs.length = 68 → ys.length = m + 1 → hG d t p4 [(0, .ref 68)] [] (mm X gs ys) Q) : hG d t pc [(0, .ref 68)] [] (mm X fs zs) Q := by
  subst hL
  refine hs h0 rfl ?_
  refine hs h1 rfl ?_
  refine hs (M' := mm X fs (zs ++ [.inl (ty, n.toNatClampNeg, dm_zero ty)])) (pc' := p3) (lv' := [(0, .ref 68)]) (st' := [.ref (69 + m), .ref 68]) h2 ?_ ?_
  · show (if n < 0 ∨ 50000000 < n.toNatClampNeg then (none : Option dm_Rs) else some (Sum.inl ((p3, [(0, .ref 68)], [.ref (mm X fs zs).length, .ref 68]), mm X fs zs ++ [.inl (ty, n.toNatClampNeg, dm_zero ty)]))) = _
    rw [if_neg hn, mm_len hX, hz, mm_app]
  · refine ct_put hX h3 (by omega) rfl ?_
    exact h _ _ rfl rfl (by rw [List.length_set]; exact hl) (by rw [List.length_append, hz]; rfl)
def q00 : rS := (fun k => if k = 37 then (-1) else if k = 39 then (-1) else 0, fun _ => 0, fun _ _ => 0, fun _ _ => 0)
theorem q00_RI : RI 0 q00 := by
  refine ⟨SB_nil rfl rfl, SB_nil rfl rfl, by decide, by decide, by decide, by decide, fun j j0 j1 => absurd j1 (by show ¬ j < (0 : Int); omega)⟩
theorem q00_zs {c : Nat} {t : Nat × Nat} (h : raT c = some t) : (raL.map (fun t => raC q00 0 t))[c - 69]? = some (raC q00 c t) := by
  have h2 := raT_lt h
  unfold raT at h
  rw [if_neg (by omega)] at h
  rw [List.getElem?_map, h]
  rfl
set_option maxHeartbeats 4000000 in
theorem ct_134 {X : dm_Mem} (hX : X.length = 68) : hT 67 134 [.ref 68] (mm X nf_X11 []) (fun r M' => r = none ∧ ∃ q', Rm (mm X (rF q00) (raL.map (fun t => raC q00 0 t))) q' M' ∧ RI 1 q' ∧ q'.1 41 = 0) := by
  refine hx (t := cd_134) rfl (Nat.le_of_ble_eq_true rfl) (lv := [(0, .ref 68)]) rfl ?_
  refine hs (f := dm_ald 1 0) rfl rfl ?_
  refine hs (f := dm_oin 4) rfl rfl ?_
  refine ct_arr (n := 24000) (L := 24000) (m := 0) hX rfl (by decide) rfl rfl rfl rfl rfl (by decide) (by decide) (fun g1 y1 eg1 ey1 lg1 ly1 => ?_)
  refine ct_arr (n := 24000) (L := 24000) (m := 1) hX lg1 (by decide) ly1 rfl rfl rfl rfl (by decide) (by decide) (fun g2 y2 eg2 ey2 lg2 ly2 => ?_)
  refine ct_arr (n := 24000) (L := 24000) (m := 2) hX lg2 (by decide) ly2 rfl rfl rfl rfl (by decide) (by decide) (fun g3 y3 eg3 ey3 lg3 ly3 => ?_)
  refine ct_arr (n := 24000) (L := 24000) (m := 3) hX lg3 (by decide) ly3 rfl rfl rfl rfl (by decide) (by decide) (fun g4 y4 eg4 ey4 lg4 ly4 => ?_)
  refine ct_arr (n := 1001) (L := 1001) (m := 4) hX lg4 (by decide) ly4 rfl rfl rfl rfl (by decide) (by decide) (fun g5 y5 eg5 ey5 lg5 ly5 => ?_)
  refine ct_arr (n := 1001) (L := 1001) (m := 5) hX lg5 (by decide) ly5 rfl rfl rfl rfl (by decide) (by decide) (fun g6 y6 eg6 ey6 lg6 ly6 => ?_)
  refine ct_arr (n := 1000) (L := 1000) (m := 6) hX lg6 (by decide) ly6 rfl rfl rfl rfl (by decide) (by decide) (fun g7 y7 eg7 ey7 lg7 ly7 => ?_)
  refine ct_arr (n := 1000) (L := 1000) (m := 7) hX lg7 (by decide) ly7 rfl rfl rfl rfl (by decide) (by decide) (fun g8 y8 eg8 ey8 lg8 ly8 => ?_)
  refine ct_arr (n := 1000) (L := 1000) (m := 8) hX lg8 (by decide) ly8 rfl rfl rfl rfl (by decide) (by decide) (fun g9 y9 eg9 ey9 lg9 ly9 => ?_)
  refine ct_arr (n := 1000) (L := 1000) (m := 9) hX lg9 (by decide) ly9 rfl rfl rfl rfl (by decide) (by decide) (fun g10 y10 eg10 ey10 lg10 ly10 => ?_)
  refine ct_arr (n := 1000) (L := 1000) (m := 10) hX lg10 (by decide) ly10 rfl rfl rfl rfl (by decide) (by decide) (fun g11 y11 eg11 ey11 lg11 ly11 => ?_)
  refine ct_arr (n := 1000) (L := 1000) (m := 11) hX lg11 (by decide) ly11 rfl rfl rfl rfl (by decide) (by decide) (fun g12 y12 eg12 ey12 lg12 ly12 => ?_)
  refine ct_arr (n := 1000) (L := 1000) (m := 12) hX lg12 (by decide) ly12 rfl rfl rfl rfl (by decide) (by decide) (fun g13 y13 eg13 ey13 lg13 ly13 => ?_)
  refine ct_arr (n := 1000) (L := 1000) (m := 13) hX lg13 (by decide) ly13 rfl rfl rfl rfl (by decide) (by decide) (fun g14 y14 eg14 ey14 lg14 ly14 => ?_)
  refine ct_arr (n := 16000) (L := 16000) (m := 14) hX lg14 (by decide) ly14 rfl rfl rfl rfl (by decide) (by decide) (fun g15 y15 eg15 ey15 lg15 ly15 => ?_)
  refine ct_arr (n := 3000) (L := 3000) (m := 15) hX lg15 (by decide) ly15 rfl rfl rfl rfl (by decide) (by decide) (fun g16 y16 eg16 ey16 lg16 ly16 => ?_)
  refine ct_arr (n := 3000) (L := 3000) (m := 16) hX lg16 (by decide) ly16 rfl rfl rfl rfl (by decide) (by decide) (fun g17 y17 eg17 ey17 lg17 ly17 => ?_)
  refine ct_arr (n := 3000) (L := 3000) (m := 17) hX lg17 (by decide) ly17 rfl rfl rfl rfl (by decide) (by decide) (fun g18 y18 eg18 ey18 lg18 ly18 => ?_)
  refine ct_arr (n := 3000) (L := 3000) (m := 18) hX lg18 (by decide) ly18 rfl rfl rfl rfl (by decide) (by decide) (fun g19 y19 eg19 ey19 lg19 ly19 => ?_)
  refine ct_arr (n := 3000) (L := 3000) (m := 19) hX lg19 (by decide) ly19 rfl rfl rfl rfl (by decide) (by decide) (fun g20 y20 eg20 ey20 lg20 ly20 => ?_)
  refine ct_arr (n := 3000) (L := 3000) (m := 20) hX lg20 (by decide) ly20 rfl rfl rfl rfl (by decide) (by decide) (fun g21 y21 eg21 ey21 lg21 ly21 => ?_)
  refine ct_arr (n := 3000) (L := 3000) (m := 21) hX lg21 (by decide) ly21 rfl rfl rfl rfl (by decide) (by decide) (fun g22 y22 eg22 ey22 lg22 ly22 => ?_)
  refine ct_arr (n := 3000) (L := 3000) (m := 22) hX lg22 (by decide) ly22 rfl rfl rfl rfl (by decide) (by decide) (fun g23 y23 eg23 ey23 lg23 ly23 => ?_)
  refine ct_arr (n := 24000) (L := 24000) (m := 23) hX lg23 (by decide) ly23 rfl rfl rfl rfl (by decide) (by decide) (fun g24 y24 eg24 ey24 lg24 ly24 => ?_)
  refine ct_arr (n := 24000) (L := 24000) (m := 24) hX lg24 (by decide) ly24 rfl rfl rfl rfl (by decide) (by decide) (fun g25 y25 eg25 ey25 lg25 ly25 => ?_)
  refine ct_arr (n := 24000) (L := 24000) (m := 25) hX lg25 (by decide) ly25 rfl rfl rfl rfl (by decide) (by decide) (fun g26 y26 eg26 ey26 lg26 ly26 => ?_)
  refine ct_arr (n := 24000) (L := 24000) (m := 26) hX lg26 (by decide) ly26 rfl rfl rfl rfl (by decide) (by decide) (fun g27 y27 eg27 ey27 lg27 ly27 => ?_)
  refine ct_arr (n := 24000) (L := 24000) (m := 27) hX lg27 (by decide) ly27 rfl rfl rfl rfl (by decide) (by decide) (fun g28 y28 eg28 ey28 lg28 ly28 => ?_)
  refine ct_arr (n := 24000) (L := 24000) (m := 28) hX lg28 (by decide) ly28 rfl rfl rfl rfl (by decide) (by decide) (fun g29 y29 eg29 ey29 lg29 ly29 => ?_)
  refine ct_arr (n := 600) (L := 600) (m := 29) hX lg29 (by decide) ly29 rfl rfl rfl rfl (by decide) (by decide) (fun g30 y30 eg30 ey30 lg30 ly30 => ?_)
  refine hs (f := dm_ald 275 0) rfl rfl ?_
  refine hs (f := dm_push 276 (.int (-1))) rfl rfl ?_
  refine ct_put hX rfl (by rw [lg30]; decide) rfl ?_
  obtain ⟨g31, eg31⟩ : ∃ z, z = g30.set 37 (.int (-1)) := ⟨_, rfl⟩
  rw [← eg31]
  have lg31 : g31.length = 68 := by rw [eg31, List.length_set]; exact lg30
  refine hs (f := dm_ald 280 0) rfl rfl ?_
  refine hs (f := dm_push 281 (.int (-1))) rfl rfl ?_
  refine ct_put hX rfl (by rw [lg31]; decide) rfl ?_
  obtain ⟨g32, eg32⟩ : ∃ z, z = g31.set 39 (.int (-1)) := ⟨_, rfl⟩
  rw [← eg32]
  have lg32 : g32.length = 68 := by rw [eg32, List.length_set]; exact lg31
  refine ct_arr (n := 24000) (L := 24000) (m := 30) hX lg32 (by decide) ly30 rfl rfl rfl rfl (by decide) (by decide) (fun g33 y33 eg33 ey33 lg33 ly33 => ?_)
  refine ct_arr (n := 24000) (L := 24000) (m := 31) hX lg33 (by decide) ly33 rfl rfl rfl rfl (by decide) (by decide) (fun g34 y34 eg34 ey34 lg34 ly34 => ?_)
  refine ct_arr (n := 24000) (L := 24000) (m := 32) hX lg34 (by decide) ly34 rfl rfl rfl rfl (by decide) (by decide) (fun g35 y35 eg35 ey35 lg35 ly35 => ?_)
  refine ct_arr (n := 24000) (L := 24000) (m := 33) hX lg35 (by decide) ly35 rfl rfl rfl rfl (by decide) (by decide) (fun g36 y36 eg36 ey36 lg36 ly36 => ?_)
  refine ct_arr (n := 1001) (L := 1001) (m := 34) hX lg36 (by decide) ly36 rfl rfl rfl rfl (by decide) (by decide) (fun g37 y37 eg37 ey37 lg37 ly37 => ?_)
  refine ct_arr (n := 1001) (L := 1001) (m := 35) hX lg37 (by decide) ly37 rfl rfl rfl rfl (by decide) (by decide) (fun g38 y38 eg38 ey38 lg38 ly38 => ?_)
  refine ct_arr (n := 1000) (L := 1000) (m := 36) hX lg38 (by decide) ly38 rfl rfl rfl rfl (by decide) (by decide) (fun g39 y39 eg39 ey39 lg39 ly39 => ?_)
  refine ct_arr (n := 1000) (L := 1000) (m := 37) hX lg39 (by decide) ly39 rfl rfl rfl rfl (by decide) (by decide) (fun g40 y40 eg40 ey40 lg40 ly40 => ?_)
  refine ct_arr (n := 1000) (L := 1000) (m := 38) hX lg40 (by decide) ly40 rfl rfl rfl rfl (by decide) (by decide) (fun g41 y41 eg41 ey41 lg41 ly41 => ?_)
  refine ct_arr (n := 1000) (L := 1000) (m := 39) hX lg41 (by decide) ly41 rfl rfl rfl rfl (by decide) (by decide) (fun g42 y42 eg42 ey42 lg42 ly42 => ?_)
  refine ct_arr (n := 1000) (L := 1000) (m := 40) hX lg42 (by decide) ly42 rfl rfl rfl rfl (by decide) (by decide) (fun g43 y43 eg43 ey43 lg43 ly43 => ?_)
  refine ct_arr (n := 1000) (L := 1000) (m := 41) hX lg43 (by decide) ly43 rfl rfl rfl rfl (by decide) (by decide) (fun g44 y44 eg44 ey44 lg44 ly44 => ?_)
  refine ct_arr (n := 1000) (L := 1000) (m := 42) hX lg44 (by decide) ly44 rfl rfl rfl rfl (by decide) (by decide) (fun g45 y45 eg45 ey45 lg45 ly45 => ?_)
  refine ct_arr (n := 1000) (L := 1000) (m := 43) hX lg45 (by decide) ly45 rfl rfl rfl rfl (by decide) (by decide) (fun g46 y46 eg46 ey46 lg46 ly46 => ?_)
  refine ct_arr (n := 16000) (L := 16000) (m := 44) hX lg46 (by decide) ly46 rfl rfl rfl rfl (by decide) (by decide) (fun g47 y47 eg47 ey47 lg47 ly47 => ?_)
  refine ct_arr (n := 24000) (L := 24000) (m := 45) hX lg47 (by decide) ly47 rfl rfl rfl rfl (by decide) (by decide) (fun g48 y48 eg48 ey48 lg48 ly48 => ?_)
  refine ct_arr (n := 24000) (L := 24000) (m := 46) hX lg48 (by decide) ly48 rfl rfl rfl rfl (by decide) (by decide) (fun g49 y49 eg49 ey49 lg49 ly49 => ?_)
  have ef : g49 = rF q00 := by rw [eg49, eg48, eg47, eg46, eg45, eg44, eg43, eg42, eg41, eg40, eg39, eg38, eg37, eg36, eg35, eg34, eg33, eg32, eg31, eg30, eg29, eg28, eg27, eg26, eg25, eg24, eg23, eg22, eg21, eg20, eg19, eg18, eg17, eg16, eg15, eg14, eg13, eg12, eg11, eg10, eg9, eg8, eg7, eg6, eg5, eg4, eg3, eg2, eg1]; decide +kernel
  have ez : y49 = raL.map (fun t => raC q00 0 t) := by rw [ey49, ey48, ey47, ey46, ey45, ey44, ey43, ey42, ey41, ey40, ey39, ey38, ey37, ey36, ey35, ey34, ey33, ey30, ey29, ey28, ey27, ey26, ey25, ey24, ey23, ey22, ey21, ey20, ey19, ey18, ey17, ey16, ey15, ey14, ey13, ey12, ey11, ey10, ey9, ey8, ey7, ey6, ey5, ey4, ey3, ey2, ey1]; rfl
  rw [ef, ez]
  have hM : Rm (mm X (rF q00) (raL.map (fun t => raC q00 0 t))) q00 (mm X (rF q00) (raL.map (fun t => raC q00 0 t))) := by
    refine ⟨fun k _ => rfl, rfl, rfl, mm_get hX, fun c t hc => ?_, fun c L hc i => isB_0, isB_0, isB_0, isB_0⟩
    have h2 := raT_lt hc
    have h3 := q00_zs hc
    unfold mm
    rw [List.getElem?_append_right (by omega), hX, show c - 68 = (c - 69) + 1 by omega, List.getElem?_cons_succ]
    exact h3
  refine hs (f := dm_ald 438 0) rfl rfl ?_
  refine r_inv rfl hM rfl (as := [.ref 68]) rfl (Nat.le_of_ble_eq_true rfl) (hT_mono (by decide) (op_135 hM q00_RI ⟨by decide, by decide⟩) (fun r1 M1 w => ?_))
  obtain ⟨rfl, q', w1, w2, w3⟩ := w
  exact hr (f := dm_vret) rfl rfl ⟨rfl, q', w1, w2, w3⟩
