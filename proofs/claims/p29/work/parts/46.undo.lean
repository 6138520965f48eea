/-! acts undone, stamps lost; questions -/
theorem RI_90 {T : Int} {q : rS} (h : RI T q) {i : Nat} {x : Int32} (hx : -1 ≤ x.toInt ∧ x.toInt < 1000) : RI T (sA q 90 (upd (q.2.2.1 90) i x)) := by
  obtain ⟨h1, h2, h3, h4, h5, h6, h7⟩ := h
  refine ⟨h1, h2, h3, h4, h5, h6, fun j j0 j1 => ?_⟩
  obtain ⟨k1, k2, k3, k4, k5, k6⟩ := h7 j j0 j1
  refine ⟨k1, k2, k3, k4, ?_, k6⟩
  show -1 ≤ rA (upd (q.2.2.1 90) i x) j ∧ rA (upd (q.2.2.1 90) i x) j < 1000
  rw [rA_upd j0]
  split
  · exact hx
  · exact k5
theorem RI_91 {T : Int} {q : rS} (h : RI T q) {i : Nat} {x : Int32} (hx : -1 ≤ x.toInt ∧ x.toInt < 1000) : RI T (sA q 91 (upd (q.2.2.1 91) i x)) := by
  obtain ⟨h1, h2, h3, h4, h5, h6, h7⟩ := h
  refine ⟨h1, h2, h3, h4, h5, h6, fun j j0 j1 => ?_⟩
  obtain ⟨k1, k2, k3, k4, k5, k6⟩ := h7 j j0 j1
  refine ⟨k1, k2, k3, k4, k5, ?_⟩
  show -1 ≤ rA (upd (q.2.2.1 91) i x) j ∧ rA (upd (q.2.2.1 91) i x) j < 1000
  rw [rA_upd j0]
  split
  · exact hx
  · exact k6
theorem RI_un {T : Int} {q : rS} (h : RI T q) {m nd v : Int32} (hsb : SB (q.2.2.2 69) (q.2.2.2 71) (q.2.2.2 72) (q.2.2.1 73) (q.2.2.1 74) (q.2.2.1 81) (q.2.2.1 82) m.toInt nd.toInt) (hac : 0 < (q.1 26).toInt) (hv : 0 ≤ v.toInt ∧ v.toInt ≤ T) : RI T (sF (sF (sF (sF q 15 m) 16 v) 17 nd) 26 (q.1 26 - (1 : Int32))) := by
  obtain ⟨h1, h2, h3, h4, h5, h6, h7⟩ := h
  have h9 := i_rng (q.1 26)
  have en : (q.1 26 - (1 : Int32)).toInt = (q.1 26).toInt - 1 := i_subc 1 rfl (by omega) (by omega)
  refine ⟨hsb, h2, hv, h4, ?_, h6, fun j j0 j1 => ?_⟩
  · show 0 ≤ (q.1 26 - (1 : Int32)).toInt ∧ (q.1 26 - (1 : Int32)).toInt ≤ T
    omega
  · have j2 : j < (q.1 26).toInt - 1 := by rw [← en]; exact j1
    exact h7 j j0 (by omega)
set_option maxHeartbeats 4000000 in
theorem op_170 {X : dm_Mem} {q : rS} {M : dm_Mem} {T : Int} (hM : Rm X q M) (hR : RI T q) (hT6 : 0 ≤ T ∧ T ≤ 600) (s : Int32) : hT 3 170 [.ref 68, .int s] M (fun r M' => ∃ (x : Int32) (q' : rS), isB x ∧ r = some (.int x) ∧ Rm X q' M' ∧ RI (T + 1) q' ∧ q'.1 41 = q.1 41) := by
  refine hx (t := cd_170) rfl (Nat.le_of_ble_eq_true rfl) (lv := [(0, .ref 68), (1, .int s)]) rfl ?_
  refine hs (f := dm_ald 1 0) rfl rfl ?_
  refine hs (f := dm_push 2 (.int 0)) rfl rfl ?_
  refine r_puti rfl hM rfl (fun M1 hM1 => ?_)
  replace hM1 := rm_to (q' := (sF q 40 (0 : Int32))) hM1 (show sF q 40 (0 : Int32) = (sF q 40 (0 : Int32)) from (show sF q 40 (0 : Int32) = (sF q 40 (0 : Int32)) from rfl))
  obtain ⟨q2, eq2⟩ : ∃ z, z = (sF q 40 (0 : Int32)) := ⟨_, rfl⟩
  rw [← eq2] at hM1
  have Rq2 : RI T q2 := by rw [eq2]; exact hR
  have Kq2 : KP q q2 := by rw [eq2]; exact ⟨rfl, rfl, rfl, rfl, rfl, rfl, rfl, rfl, rfl, rfl, rfl, rfl, rfl⟩
  have fq2 : q2.1 41 = q.1 41 := Kq2.2.2.2.2.1
  have evq2 := Rq2.2.2.1
  have mxq2 := Rq2.1.2.1
  have btq2 := Rq2.2.2.2.2.2.1
  refine hs (f := dm_ald 6 0) rfl rfl ?_
  refine hs (f := dm_ild 7 1) rfl rfl ?_
  refine r_inv rfl hM1 rfl (as := [.ref 68, .int s]) rfl (Nat.le_of_ble_eq_true rfl) (hT_mono (by decide) (r_137 hM1 Rq2.1.2.1 s) (fun r1 M4 w => ?_))
  obtain ⟨rfl, ⟨rfl, u3a, u3b⟩ | ⟨rfl, u3n⟩⟩ := w
  · skip
    refine hs (f := dm_if_eq 13 21) (pc' := 13) rfl rfl ?_
    refine hs (f := dm_ald 14 0) rfl rfl ?_
    refine hs (f := dm_ild 15 1) rfl rfl ?_
    refine r_inv rfl hM1 rfl (as := [.ref 68, .int s]) rfl (Nat.le_of_ble_eq_true rfl) (hT_mono (by decide) (r_138 hM1 s (by omega) (by have := Rq2.1.2.1; omega)) (fun r1 M6 w => ?_))
    obtain ⟨rfl, ⟨rfl, u5a⟩ | ⟨rfl, u5n⟩⟩ := w
    · skip
      refine hs (f := dm_if_ne 21 23) (pc' := 23) rfl rfl ?_
      refine hs (f := dm_ald 24 0) rfl rfl ?_
      refine hs (f := dm_ild 25 1) rfl rfl ?_
      refine hs (f := dm_push 26 (.int (-1))) rfl rfl ?_
      refine r_inv rfl hM1 rfl (as := [.ref 68, .int s, .int (-1)]) rfl (Nat.le_of_ble_eq_true rfl) (hT_mono (by decide) (w_155 hM1 Rq2 (by omega) s (-1 : Int32) (by have := Rq2.1.2.1; omega) (by decide)) (fun r1 M7 w => ?_))
      obtain ⟨rfl, q8, hM7, Rq8, ⟨Kq81, Kq82, Kq83, Kq84, Kq85, Kq86, Kq87, Kq88, Kq89, Kq810, Kq811, Kq812, Kq813⟩, Wq8, Oq8⟩ := w
      have mq8 : (q8.1 15).toInt = (q2.1 15).toInt := by rw [Kq81]
      have nq8 : (q8.1 17).toInt = (q2.1 17).toInt := by rw [Kq83]
      have fq8 : q8.1 41 = q.1 41 := Kq85.trans fq2
      have vq8 : (q8.1 16).toInt = (q2.1 16).toInt := by rw [Kq82]
      have b73q8 : rA (q8.2.2.1 73) (q8.1 15).toInt = rA (q2.2.2.1 73) (q2.1 15).toInt ∧ rA (q8.2.2.1 74) (q8.1 15).toInt = rA (q2.2.2.1 74) (q2.1 15).toInt := by rw [Kq87, Kq88, Kq81]; exact ⟨rfl, rfl⟩
      have b82q8 : ∀ m : Int, rA (q8.2.2.1 82) m = rA (q2.2.2.1 82) m ∧ rA (q8.2.2.1 81) m = rA (q2.2.2.1 81) m := fun m => by rw [Kq810, Kq89]; exact ⟨rfl, rfl⟩
      have b82q8s := b82q8 s.toInt
      have acq8 := Rq8.2.2.2.2.1
      have ac0 := Rq2.2.2.2.2.1
      have mm := Rq2.1.2.1
      refine hs (f := dm_ald 30 0) rfl rfl ?_
      refine r_geta (c := 87) rfl hM7 rfl ?_
      refine hs (f := dm_ald 34 0) rfl rfl ?_
      refine r_geti (q8.1 26) rfl hM7 rfl rfl ?_
      refine hs (f := dm_push 38 (.int 1)) rfl rfl ?_
      have e9 : ((q8.1 26) - (1 : Int32)).toInt = (q8.1 26).toInt - 1 := by have w := i_subc (x := (q8.1 26)) (y := (1 : Int32)) 1 rfl (by omega) (by omega); omega
      refine hs (f := dm_ii 39 (fun x y => x - y)) (st' := [.int ((q8.1 26) - (1 : Int32)), .ref 90]) rfl rfl ?_
      refine hs (f := dm_ild 40 1) rfl rfl ?_
      refine hs (f := dm_i1 41 (fun x => .int x.toInt16.toInt32)) (st' := [.int (s.toInt16.toInt32), .int ((q8.1 26) - (1 : Int32)), .ref 90]) rfl rfl ?_
      refine r_sast (L := 3000) (i := ((q8.1 26) - (1 : Int32))) (x := (s.toInt16.toInt32)) (q8.2.2.1 90) rfl hM7 rfl (by omega) rfl (fun M10 hM10 => ?_)
      replace hM10 := rm_to (q' := (sA q8 90 (upd (q8.2.2.1 90) ((q8.1 26) - (1 : Int32)).toInt.toNat (vp_nar .short (s.toInt16.toInt32))))) hM10 (show sA q8 90 (upd (q8.2.2.1 90) ((q8.1 26) - (1 : Int32)).toInt.toNat (vp_nar .short (s.toInt16.toInt32))) = (sA q8 90 (upd (q8.2.2.1 90) ((q8.1 26) - (1 : Int32)).toInt.toNat (vp_nar .short (s.toInt16.toInt32)))) from (show sA q8 90 (upd (q8.2.2.1 90) ((q8.1 26) - (1 : Int32)).toInt.toNat (vp_nar .short (s.toInt16.toInt32))) = (sA q8 90 (upd (q8.2.2.1 90) ((q8.1 26) - (1 : Int32)).toInt.toNat (vp_nar .short (s.toInt16.toInt32)))) from rfl))
      refine hs (f := dm_ald 43 0) rfl rfl ?_
      refine r_geta (c := 72) rfl hM10 rfl ?_
      refine hs (f := dm_ild 47 1) rfl rfl ?_
      refine hs (f := dm_push 48 (.int 0)) rfl rfl ?_
      refine r_zast (L := 1000) (i := s) (x := (0 : Int32)) (q8.2.2.1 75) rfl hM10 rfl (by omega) rfl (fun M11 hM11 => ?_)
      replace hM11 := rm_to (q' := (sA (sA q8 75 (upd (q8.2.2.1 75) s.toInt.toNat (vp_nar .boolean (0 : Int32)))) 90 (upd (q8.2.2.1 90) ((q8.1 26) - (1 : Int32)).toInt.toNat (vp_nar .short (s.toInt16.toInt32))))) hM11 (show sA (sA q8 90 (upd (q8.2.2.1 90) ((q8.1 26) - (1 : Int32)).toInt.toNat (vp_nar .short (s.toInt16.toInt32)))) 75 (upd (q8.2.2.1 75) s.toInt.toNat (vp_nar .boolean (0 : Int32))) = (sA (sA q8 75 (upd (q8.2.2.1 75) s.toInt.toNat (vp_nar .boolean (0 : Int32)))) 90 (upd (q8.2.2.1 90) ((q8.1 26) - (1 : Int32)).toInt.toNat (vp_nar .short (s.toInt16.toInt32)))) from (show sA (sA q8 90 (upd (q8.2.2.1 90) ((q8.1 26) - (1 : Int32)).toInt.toNat (vp_nar .short (s.toInt16.toInt32)))) 75 (upd (q8.2.2.1 75) s.toInt.toNat (vp_nar .boolean (0 : Int32))) = (sA (sA q8 75 (upd (q8.2.2.1 75) s.toInt.toNat (vp_nar .boolean (0 : Int32)))) 90 (upd (q8.2.2.1 90) ((q8.1 26) - (1 : Int32)).toInt.toNat (vp_nar .short (s.toInt16.toInt32)))) from Eq.trans (show sA (sA q8 90 (upd (q8.2.2.1 90) ((q8.1 26) - (1 : Int32)).toInt.toNat (vp_nar .short (s.toInt16.toInt32)))) 75 (upd (q8.2.2.1 75) s.toInt.toNat (vp_nar .boolean (0 : Int32))) = sA (sA q8 75 (upd (q8.2.2.1 75) s.toInt.toNat (vp_nar .boolean (0 : Int32)))) 90 (upd (q8.2.2.1 90) ((q8.1 26) - (1 : Int32)).toInt.toNat (vp_nar .short (s.toInt16.toInt32))) from sA_cm (by decide)) (congrArg (fun z => sA z 90 (upd (q8.2.2.1 90) ((q8.1 26) - (1 : Int32)).toInt.toNat (vp_nar .short (s.toInt16.toInt32)))) (show sA q8 75 (upd (q8.2.2.1 75) s.toInt.toNat (vp_nar .boolean (0 : Int32))) = (sA q8 75 (upd (q8.2.2.1 75) s.toInt.toNat (vp_nar .boolean (0 : Int32)))) from rfl))))
      refine hs (f := dm_ald 50 0) rfl rfl ?_
      refine r_geta (c := 73) rfl hM11 rfl ?_
      refine hs (f := dm_ild 54 1) rfl rfl ?_
      refine hs (f := dm_push 55 (.int 1)) rfl rfl ?_
      refine r_zast (L := 1000) (i := s) (x := (1 : Int32)) (q8.2.2.1 76) rfl hM11 rfl (by omega) rfl (fun M12 hM12 => ?_)
      replace hM12 := rm_to (q' := (sA (sA (sA q8 75 (upd (q8.2.2.1 75) s.toInt.toNat (vp_nar .boolean (0 : Int32)))) 76 (upd (q8.2.2.1 76) s.toInt.toNat (vp_nar .boolean (1 : Int32)))) 90 (upd (q8.2.2.1 90) ((q8.1 26) - (1 : Int32)).toInt.toNat (vp_nar .short (s.toInt16.toInt32))))) hM12 (show sA (sA (sA q8 75 (upd (q8.2.2.1 75) s.toInt.toNat (vp_nar .boolean (0 : Int32)))) 90 (upd (q8.2.2.1 90) ((q8.1 26) - (1 : Int32)).toInt.toNat (vp_nar .short (s.toInt16.toInt32)))) 76 (upd (q8.2.2.1 76) s.toInt.toNat (vp_nar .boolean (1 : Int32))) = (sA (sA (sA q8 75 (upd (q8.2.2.1 75) s.toInt.toNat (vp_nar .boolean (0 : Int32)))) 76 (upd (q8.2.2.1 76) s.toInt.toNat (vp_nar .boolean (1 : Int32)))) 90 (upd (q8.2.2.1 90) ((q8.1 26) - (1 : Int32)).toInt.toNat (vp_nar .short (s.toInt16.toInt32)))) from (show sA (sA (sA q8 75 (upd (q8.2.2.1 75) s.toInt.toNat (vp_nar .boolean (0 : Int32)))) 90 (upd (q8.2.2.1 90) ((q8.1 26) - (1 : Int32)).toInt.toNat (vp_nar .short (s.toInt16.toInt32)))) 76 (upd (q8.2.2.1 76) s.toInt.toNat (vp_nar .boolean (1 : Int32))) = (sA (sA (sA q8 75 (upd (q8.2.2.1 75) s.toInt.toNat (vp_nar .boolean (0 : Int32)))) 76 (upd (q8.2.2.1 76) s.toInt.toNat (vp_nar .boolean (1 : Int32)))) 90 (upd (q8.2.2.1 90) ((q8.1 26) - (1 : Int32)).toInt.toNat (vp_nar .short (s.toInt16.toInt32)))) from Eq.trans (show sA (sA (sA q8 75 (upd (q8.2.2.1 75) s.toInt.toNat (vp_nar .boolean (0 : Int32)))) 90 (upd (q8.2.2.1 90) ((q8.1 26) - (1 : Int32)).toInt.toNat (vp_nar .short (s.toInt16.toInt32)))) 76 (upd (q8.2.2.1 76) s.toInt.toNat (vp_nar .boolean (1 : Int32))) = sA (sA (sA q8 75 (upd (q8.2.2.1 75) s.toInt.toNat (vp_nar .boolean (0 : Int32)))) 76 (upd (q8.2.2.1 76) s.toInt.toNat (vp_nar .boolean (1 : Int32)))) 90 (upd (q8.2.2.1 90) ((q8.1 26) - (1 : Int32)).toInt.toNat (vp_nar .short (s.toInt16.toInt32))) from sA_cm (by decide)) (congrArg (fun z => sA z 90 (upd (q8.2.2.1 90) ((q8.1 26) - (1 : Int32)).toInt.toNat (vp_nar .short (s.toInt16.toInt32)))) (show sA (sA q8 75 (upd (q8.2.2.1 75) s.toInt.toNat (vp_nar .boolean (0 : Int32)))) 76 (upd (q8.2.2.1 76) s.toInt.toNat (vp_nar .boolean (1 : Int32))) = (sA (sA q8 75 (upd (q8.2.2.1 75) s.toInt.toNat (vp_nar .boolean (0 : Int32)))) 76 (upd (q8.2.2.1 76) s.toInt.toNat (vp_nar .boolean (1 : Int32)))) from rfl))))
      refine hs (f := dm_push 57 (.int 1)) rfl rfl ?_
      exact h_retB rfl isB_1 (⟨_, _, isB_1, rfl, hM12, RI_90 (q := q8) Rq8 (by rw [nar_s (by omega) (by omega)]; omega), fq8⟩)
    · skip
      refine hs (f := dm_if_ne 21 23) (pc' := 21) rfl rfl ?_
      refine hs (f := dm_push 22 (.int 0)) rfl rfl ?_
      exact h_retB rfl isB_0 (⟨_, q2, isB_0, rfl, hM1, RI_up Rq2 (by omega), fq2⟩)
  · skip
    refine hs (f := dm_if_eq 13 21) (pc' := 21) rfl rfl ?_
    refine hs (f := dm_push 22 (.int 0)) rfl rfl ?_
    exact h_retB rfl isB_0 (⟨_, q2, isB_0, rfl, hM1, RI_up Rq2 (by omega), fq2⟩)
set_option maxHeartbeats 4000000 in
theorem op_172 {X : dm_Mem} {q : rS} {M : dm_Mem} {T : Int} (hM : Rm X q M) (hR : RI T q) (hT6 : 0 ≤ T ∧ T ≤ 600)  : hT 1 172 [.ref 68] M (fun r M' => ∃ (x : Int32) (q' : rS), isB x ∧ r = some (.int x) ∧ Rm X q' M' ∧ RI (T + 1) q' ∧ q'.1 41 = q.1 41) := by
  refine hx (t := cd_172) rfl (Nat.le_of_ble_eq_true rfl) (lv := [(0, .ref 68)]) rfl ?_
  refine hs (f := dm_ald 1 0) rfl rfl ?_
  refine hs (f := dm_push 2 (.int 0)) rfl rfl ?_
  refine r_puti rfl hM rfl (fun M1 hM1 => ?_)
  replace hM1 := rm_to (q' := (sF q 40 (0 : Int32))) hM1 (show sF q 40 (0 : Int32) = (sF q 40 (0 : Int32)) from (show sF q 40 (0 : Int32) = (sF q 40 (0 : Int32)) from rfl))
  obtain ⟨q2, eq2⟩ : ∃ z, z = (sF q 40 (0 : Int32)) := ⟨_, rfl⟩
  rw [← eq2] at hM1
  have Rq2 : RI T q2 := by rw [eq2]; exact hR
  have Kq2 : KP q q2 := by rw [eq2]; exact ⟨rfl, rfl, rfl, rfl, rfl, rfl, rfl, rfl, rfl, rfl, rfl, rfl, rfl⟩
  have fq2 : q2.1 41 = q.1 41 := Kq2.2.2.2.2.1
  have evq2 := Rq2.2.2.1
  have mxq2 := Rq2.1.2.1
  have btq2 := Rq2.2.2.2.2.2.1
  refine hs (f := dm_ald 6 0) rfl rfl ?_
  refine r_geti (q2.1 26) rfl hM1 rfl rfl ?_
  refine g_if_ne (n := 12) (tt := 14) rfl (fun h3 => ?_) (fun h3 => ?_)
  · skip
    have h3 : ¬ (q2.1 26).toInt = 0 := h3
    have ac := Rq2.2.2.2.2.1
    have acl := Rq2.2.2.2.2.2.2 ((q2.1 26).toInt - 1) (by omega) (by omega)
    have mm := Rq2.1.2.1
    have en : (q2.1 26 - (1 : Int32)).toInt = (q2.1 26).toInt - 1 := i_subc 1 rfl (by omega) (by omega)
    have acm := acl
    rw [← en] at acm
    have j24 : ∀ (nn : Nat), ∀ (m nd : Int32) (M : dm_Mem), Rm X (sF (sF (sF q2 15 m) 17 nd) 26 (q2.1 26 - (1 : Int32))) M → (SB (q2.2.2.2 69) (q2.2.2.2 71) (q2.2.2.2 72) (q2.2.2.1 73) (q2.2.2.1 74) (q2.2.2.1 81) (q2.2.2.1 82) m.toInt nd.toInt) → m.toInt.toNat = nn → hG 0 cd_172 24 [(0, .ref 68)] [] M (fun r M' => ∃ (x : Int32) (q' : rS), isB x ∧ r = some (.int x) ∧ Rm X q' M' ∧ RI (T + 1) q' ∧ q'.1 41 = q.1 41) := by
      intro nn
      induction nn using Nat.strongRecOn with
      | ind nn IH =>
        intro m nd M hM hsb hms
        refine hs (f := dm_ald 25 0) rfl rfl ?_
        refine r_geti m rfl hM rfl rfl ?_
        refine hs (f := dm_ald 29 0) rfl rfl ?_
        refine r_geta (c := 81) rfl hM rfl ?_
        refine hs (f := dm_ald 33 0) rfl rfl ?_
        refine r_geti (q2.1 26 - (1 : Int32)) rfl hM rfl rfl ?_
        refine r_sald (L := 3000) (i := (q2.1 26 - (1 : Int32))) ((q2.2.2.1 84) (q2.1 26 - (1 : Int32)).toInt.toNat) rfl hM rfl (by omega) rfl ?_
        generalize g5 : (q2.2.2.1 84) (q2.1 26 - (1 : Int32)).toInt.toNat = v4
        have x6 : v4.toInt = rA (q2.2.2.1 84) ((q2.1 26 - (1 : Int32)).toInt) := rA_of (i := (q2.1 26 - (1 : Int32))) g5 rfl
        refine g_ic_le (n := 40) (tt := 81) rfl (fun h7 => ?_) (fun h7 => ?_)
        · skip
          have h7 : m.toInt ≤ v4.toInt := h7
          refine hs (f := dm_ald 82 0) rfl rfl ?_
          refine hs (f := dm_ald 83 0) rfl rfl ?_
          refine r_geta (c := 82) rfl hM rfl ?_
          refine hs (f := dm_ald 87 0) rfl rfl ?_
          refine r_geti (q2.1 26 - (1 : Int32)) rfl hM rfl rfl ?_
          refine r_sald (L := 3000) (i := (q2.1 26 - (1 : Int32))) ((q2.2.2.1 85) (q2.1 26 - (1 : Int32)).toInt.toNat) rfl hM rfl (by omega) rfl ?_
          generalize g9 : (q2.2.2.1 85) (q2.1 26 - (1 : Int32)).toInt.toNat = v8
          have x10 : v8.toInt = rA (q2.2.2.1 85) ((q2.1 26 - (1 : Int32)).toInt) := rA_of (i := (q2.1 26 - (1 : Int32))) g9 rfl
          refine r_puti rfl hM rfl (fun M11 hM11 => ?_)
          replace hM11 := rm_to (q' := (sF (sF (sF (sF q2 15 m) 16 v8) 17 nd) 26 (q2.1 26 - (1 : Int32)))) hM11 (show sF (sF (sF (sF q2 15 m) 17 nd) 26 (q2.1 26 - (1 : Int32))) 16 v8 = (sF (sF (sF (sF q2 15 m) 16 v8) 17 nd) 26 (q2.1 26 - (1 : Int32))) from (show sF (sF (sF (sF q2 15 m) 17 nd) 26 (q2.1 26 - (1 : Int32))) 16 v8 = (sF (sF (sF (sF q2 15 m) 16 v8) 17 nd) 26 (q2.1 26 - (1 : Int32))) from Eq.trans (show sF (sF (sF (sF q2 15 m) 17 nd) 26 (q2.1 26 - (1 : Int32))) 16 v8 = sF (sF (sF (sF q2 15 m) 17 nd) 16 v8) 26 (q2.1 26 - (1 : Int32)) from sF_cm (by decide)) (congrArg (fun z => sF z 26 (q2.1 26 - (1 : Int32))) (show sF (sF (sF q2 15 m) 17 nd) 16 v8 = (sF (sF (sF q2 15 m) 16 v8) 17 nd) from Eq.trans (show sF (sF (sF q2 15 m) 17 nd) 16 v8 = sF (sF (sF q2 15 m) 16 v8) 17 nd from sF_cm (by decide)) (congrArg (fun z => sF z 17 nd) (show sF (sF q2 15 m) 16 v8 = (sF (sF q2 15 m) 16 v8) from rfl))))))
          refine hs (f := dm_ald 95 0) rfl rfl ?_
          refine r_geta (c := 83) rfl hM11 rfl ?_
          refine hs (f := dm_ald 99 0) rfl rfl ?_
          refine r_geti (q2.1 26 - (1 : Int32)) rfl hM11 rfl rfl ?_
          refine r_sald (L := 3000) (i := (q2.1 26 - (1 : Int32))) ((q2.2.2.1 86) (q2.1 26 - (1 : Int32)).toInt.toNat) rfl hM11 rfl (by omega) rfl ?_
          generalize g13 : (q2.2.2.1 86) (q2.1 26 - (1 : Int32)).toInt.toNat = v12
          have x14 : v12.toInt = rA (q2.2.2.1 86) ((q2.1 26 - (1 : Int32)).toInt) := rA_of (i := (q2.1 26 - (1 : Int32))) g13 rfl
          refine hs (f := dm_push 104 (.int (-1))) rfl rfl ?_
          refine g_ic_eq (n := 107) (tt := 130) rfl (fun h15 => ?_) (fun h15 => ?_)
          · skip
            have h15 : v12.toInt = (-1) := h15
            refine hs (f := dm_ald 131 0) rfl rfl ?_
            refine r_geta (c := 84) rfl hM11 rfl ?_
            refine hs (f := dm_ald 135 0) rfl rfl ?_
            refine r_geti (q2.1 26 - (1 : Int32)) rfl hM11 rfl rfl ?_
            refine r_sald (L := 3000) (i := (q2.1 26 - (1 : Int32))) ((q2.2.2.1 87) (q2.1 26 - (1 : Int32)).toInt.toNat) rfl hM11 rfl (by omega) rfl ?_
            generalize g17 : (q2.2.2.1 87) (q2.1 26 - (1 : Int32)).toInt.toNat = v16
            have x18 : v16.toInt = rA (q2.2.2.1 87) ((q2.1 26 - (1 : Int32)).toInt) := rA_of (i := (q2.1 26 - (1 : Int32))) g17 rfl
            refine hs (f := dm_push 140 (.int (-1))) rfl rfl ?_
            refine g_ic_eq (n := 143) (tt := 166) rfl (fun h19 => ?_) (fun h19 => ?_)
            · skip
              have h19 : v16.toInt = (-1) := h19
              refine hs (f := dm_ald 167 0) rfl rfl ?_
              refine r_geta (c := 87) rfl hM11 rfl ?_
              refine hs (f := dm_ald 171 0) rfl rfl ?_
              refine r_geti (q2.1 26 - (1 : Int32)) rfl hM11 rfl rfl ?_
              refine r_sald (L := 3000) (i := (q2.1 26 - (1 : Int32))) ((q2.2.2.1 90) (q2.1 26 - (1 : Int32)).toInt.toNat) rfl hM11 rfl (by omega) rfl ?_
              generalize g21 : (q2.2.2.1 90) (q2.1 26 - (1 : Int32)).toInt.toNat = v20
              have x22 : v20.toInt = rA (q2.2.2.1 90) ((q2.1 26 - (1 : Int32)).toInt) := rA_of (i := (q2.1 26 - (1 : Int32))) g21 rfl
              refine hs (f := dm_push 176 (.int (-1))) rfl rfl ?_
              refine g_ic_eq (n := 179) (tt := 194) rfl (fun h23 => ?_) (fun h23 => ?_)
              · skip
                have h23 : v20.toInt = (-1) := h23
                refine hs (f := dm_ald 195 0) rfl rfl ?_
                refine r_geta (c := 88) rfl hM11 rfl ?_
                refine hs (f := dm_ald 199 0) rfl rfl ?_
                refine r_geti (q2.1 26 - (1 : Int32)) rfl hM11 rfl rfl ?_
                refine r_sald (L := 3000) (i := (q2.1 26 - (1 : Int32))) ((q2.2.2.1 91) (q2.1 26 - (1 : Int32)).toInt.toNat) rfl hM11 rfl (by omega) rfl ?_
                generalize g25 : (q2.2.2.1 91) (q2.1 26 - (1 : Int32)).toInt.toNat = v24
                have x26 : v24.toInt = rA (q2.2.2.1 91) ((q2.1 26 - (1 : Int32)).toInt) := rA_of (i := (q2.1 26 - (1 : Int32))) g25 rfl
                refine hs (f := dm_push 204 (.int (-1))) rfl rfl ?_
                refine g_ic_eq (n := 207) (tt := 222) rfl (fun h27 => ?_) (fun h27 => ?_)
                · skip
                  have h27 : v24.toInt = (-1) := h27
                  refine hs (f := dm_push 223 (.int 1)) rfl rfl ?_
                  exact h_retB rfl isB_1 (⟨_, _, isB_1, rfl, hM11, RI_up (RI_un Rq2 hsb (by omega) (by omega)) (by omega), fq2⟩)
                · skip
                  have h27 : ¬ v24.toInt = (-1) := h27
                  refine hs (f := dm_ald 208 0) rfl rfl ?_
                  refine r_geta (c := 73) rfl hM11 rfl ?_
                  refine hs (f := dm_ald 212 0) rfl rfl ?_
                  refine r_geta (c := 88) rfl hM11 rfl ?_
                  refine hs (f := dm_ald 216 0) rfl rfl ?_
                  refine r_geti (q2.1 26 - (1 : Int32)) rfl hM11 rfl rfl ?_
                  refine r_sald (L := 3000) (i := (q2.1 26 - (1 : Int32))) ((q2.2.2.1 91) (q2.1 26 - (1 : Int32)).toInt.toNat) rfl hM11 rfl (by omega) rfl ?_
                  generalize g29 : (q2.2.2.1 91) (q2.1 26 - (1 : Int32)).toInt.toNat = v28
                  have x30 : v28.toInt = rA (q2.2.2.1 91) ((q2.1 26 - (1 : Int32)).toInt) := rA_of (i := (q2.1 26 - (1 : Int32))) g29 rfl
                  refine hs (f := dm_push 221 (.int 1)) rfl rfl ?_
                  refine r_zast (L := 1000) (i := v28) (x := (1 : Int32)) (q2.2.2.1 76) rfl hM11 rfl (by omega) rfl (fun M31 hM31 => ?_)
                  replace hM31 := rm_to (q' := (sA (sF (sF (sF (sF q2 15 m) 16 v8) 17 nd) 26 (q2.1 26 - (1 : Int32))) 76 (upd (q2.2.2.1 76) v28.toInt.toNat (vp_nar .boolean (1 : Int32))))) hM31 (show sA (sF (sF (sF (sF q2 15 m) 16 v8) 17 nd) 26 (q2.1 26 - (1 : Int32))) 76 (upd (q2.2.2.1 76) v28.toInt.toNat (vp_nar .boolean (1 : Int32))) = (sA (sF (sF (sF (sF q2 15 m) 16 v8) 17 nd) 26 (q2.1 26 - (1 : Int32))) 76 (upd (q2.2.2.1 76) v28.toInt.toNat (vp_nar .boolean (1 : Int32)))) from (show sA (sF (sF (sF (sF q2 15 m) 16 v8) 17 nd) 26 (q2.1 26 - (1 : Int32))) 76 (upd (q2.2.2.1 76) v28.toInt.toNat (vp_nar .boolean (1 : Int32))) = (sA (sF (sF (sF (sF q2 15 m) 16 v8) 17 nd) 26 (q2.1 26 - (1 : Int32))) 76 (upd (q2.2.2.1 76) v28.toInt.toNat (vp_nar .boolean (1 : Int32)))) from rfl))
                  refine hs (f := dm_push 223 (.int 1)) rfl rfl ?_
                  exact h_retB rfl isB_1 (⟨_, _, isB_1, rfl, hM31, RI_up (RI_un Rq2 hsb (by omega) (by omega)) (by omega), fq2⟩)
              · skip
                have h23 : ¬ v20.toInt = (-1) := h23
                refine hs (f := dm_ald 180 0) rfl rfl ?_
                refine r_geta (c := 73) rfl hM11 rfl ?_
                refine hs (f := dm_ald 184 0) rfl rfl ?_
                refine r_geta (c := 87) rfl hM11 rfl ?_
                refine hs (f := dm_ald 188 0) rfl rfl ?_
                refine r_geti (q2.1 26 - (1 : Int32)) rfl hM11 rfl rfl ?_
                refine r_sald (L := 3000) (i := (q2.1 26 - (1 : Int32))) ((q2.2.2.1 90) (q2.1 26 - (1 : Int32)).toInt.toNat) rfl hM11 rfl (by omega) rfl ?_
                generalize g33 : (q2.2.2.1 90) (q2.1 26 - (1 : Int32)).toInt.toNat = v32
                have x34 : v32.toInt = rA (q2.2.2.1 90) ((q2.1 26 - (1 : Int32)).toInt) := rA_of (i := (q2.1 26 - (1 : Int32))) g33 rfl
                refine hs (f := dm_push 193 (.int 0)) rfl rfl ?_
                refine r_zast (L := 1000) (i := v32) (x := (0 : Int32)) (q2.2.2.1 76) rfl hM11 rfl (by omega) rfl (fun M35 hM35 => ?_)
                replace hM35 := rm_to (q' := (sA (sF (sF (sF (sF q2 15 m) 16 v8) 17 nd) 26 (q2.1 26 - (1 : Int32))) 76 (upd (q2.2.2.1 76) v32.toInt.toNat (vp_nar .boolean (0 : Int32))))) hM35 (show sA (sF (sF (sF (sF q2 15 m) 16 v8) 17 nd) 26 (q2.1 26 - (1 : Int32))) 76 (upd (q2.2.2.1 76) v32.toInt.toNat (vp_nar .boolean (0 : Int32))) = (sA (sF (sF (sF (sF q2 15 m) 16 v8) 17 nd) 26 (q2.1 26 - (1 : Int32))) 76 (upd (q2.2.2.1 76) v32.toInt.toNat (vp_nar .boolean (0 : Int32)))) from (show sA (sF (sF (sF (sF q2 15 m) 16 v8) 17 nd) 26 (q2.1 26 - (1 : Int32))) 76 (upd (q2.2.2.1 76) v32.toInt.toNat (vp_nar .boolean (0 : Int32))) = (sA (sF (sF (sF (sF q2 15 m) 16 v8) 17 nd) 26 (q2.1 26 - (1 : Int32))) 76 (upd (q2.2.2.1 76) v32.toInt.toNat (vp_nar .boolean (0 : Int32)))) from rfl))
                refine hs (f := dm_ald 195 0) rfl rfl ?_
                refine r_geta (c := 88) rfl hM35 rfl ?_
                refine hs (f := dm_ald 199 0) rfl rfl ?_
                refine r_geti (q2.1 26 - (1 : Int32)) rfl hM35 rfl rfl ?_
                refine r_sald (L := 3000) (i := (q2.1 26 - (1 : Int32))) ((q2.2.2.1 91) (q2.1 26 - (1 : Int32)).toInt.toNat) rfl hM35 rfl (by omega) rfl ?_
                generalize g37 : (q2.2.2.1 91) (q2.1 26 - (1 : Int32)).toInt.toNat = v36
                have x38 : v36.toInt = rA (q2.2.2.1 91) ((q2.1 26 - (1 : Int32)).toInt) := rA_of (i := (q2.1 26 - (1 : Int32))) g37 rfl
                refine hs (f := dm_push 204 (.int (-1))) rfl rfl ?_
                refine g_ic_eq (n := 207) (tt := 222) rfl (fun h39 => ?_) (fun h39 => ?_)
                · skip
                  have h39 : v36.toInt = (-1) := h39
                  refine hs (f := dm_push 223 (.int 1)) rfl rfl ?_
                  exact h_retB rfl isB_1 (⟨_, _, isB_1, rfl, hM35, RI_up (RI_un Rq2 hsb (by omega) (by omega)) (by omega), fq2⟩)
                · skip
                  have h39 : ¬ v36.toInt = (-1) := h39
                  refine hs (f := dm_ald 208 0) rfl rfl ?_
                  refine r_geta (c := 73) rfl hM35 rfl ?_
                  refine hs (f := dm_ald 212 0) rfl rfl ?_
                  refine r_geta (c := 88) rfl hM35 rfl ?_
                  refine hs (f := dm_ald 216 0) rfl rfl ?_
                  refine r_geti (q2.1 26 - (1 : Int32)) rfl hM35 rfl rfl ?_
                  refine r_sald (L := 3000) (i := (q2.1 26 - (1 : Int32))) ((q2.2.2.1 91) (q2.1 26 - (1 : Int32)).toInt.toNat) rfl hM35 rfl (by omega) rfl ?_
                  generalize g41 : (q2.2.2.1 91) (q2.1 26 - (1 : Int32)).toInt.toNat = v40
                  have x42 : v40.toInt = rA (q2.2.2.1 91) ((q2.1 26 - (1 : Int32)).toInt) := rA_of (i := (q2.1 26 - (1 : Int32))) g41 rfl
                  refine hs (f := dm_push 221 (.int 1)) rfl rfl ?_
                  refine r_zast (L := 1000) (i := v40) (x := (1 : Int32)) (upd (q2.2.2.1 76) v32.toInt.toNat (vp_nar .boolean (0 : Int32))) rfl hM35 rfl (by omega) rfl (fun M43 hM43 => ?_)
                  replace hM43 := rm_to (q' := (sA (sF (sF (sF (sF q2 15 m) 16 v8) 17 nd) 26 (q2.1 26 - (1 : Int32))) 76 (upd (upd (q2.2.2.1 76) v32.toInt.toNat (vp_nar .boolean (0 : Int32))) v40.toInt.toNat (vp_nar .boolean (1 : Int32))))) hM43 (show sA (sA (sF (sF (sF (sF q2 15 m) 16 v8) 17 nd) 26 (q2.1 26 - (1 : Int32))) 76 (upd (q2.2.2.1 76) v32.toInt.toNat (vp_nar .boolean (0 : Int32)))) 76 (upd (upd (q2.2.2.1 76) v32.toInt.toNat (vp_nar .boolean (0 : Int32))) v40.toInt.toNat (vp_nar .boolean (1 : Int32))) = (sA (sF (sF (sF (sF q2 15 m) 16 v8) 17 nd) 26 (q2.1 26 - (1 : Int32))) 76 (upd (upd (q2.2.2.1 76) v32.toInt.toNat (vp_nar .boolean (0 : Int32))) v40.toInt.toNat (vp_nar .boolean (1 : Int32)))) from (show sA (sA (sF (sF (sF (sF q2 15 m) 16 v8) 17 nd) 26 (q2.1 26 - (1 : Int32))) 76 (upd (q2.2.2.1 76) v32.toInt.toNat (vp_nar .boolean (0 : Int32)))) 76 (upd (upd (q2.2.2.1 76) v32.toInt.toNat (vp_nar .boolean (0 : Int32))) v40.toInt.toNat (vp_nar .boolean (1 : Int32))) = (sA (sF (sF (sF (sF q2 15 m) 16 v8) 17 nd) 26 (q2.1 26 - (1 : Int32))) 76 (upd (upd (q2.2.2.1 76) v32.toInt.toNat (vp_nar .boolean (0 : Int32))) v40.toInt.toNat (vp_nar .boolean (1 : Int32)))) from sA_sA))
                  refine hs (f := dm_push 223 (.int 1)) rfl rfl ?_
                  exact h_retB rfl isB_1 (⟨_, _, isB_1, rfl, hM43, RI_up (RI_un Rq2 hsb (by omega) (by omega)) (by omega), fq2⟩)
            · skip
              have h19 : ¬ v16.toInt = (-1) := h19
              refine hs (f := dm_ald 144 0) rfl rfl ?_
              refine r_geta (c := 72) rfl hM11 rfl ?_
              refine hs (f := dm_ald 148 0) rfl rfl ?_
              refine r_geta (c := 84) rfl hM11 rfl ?_
              refine hs (f := dm_ald 152 0) rfl rfl ?_
              refine r_geti (q2.1 26 - (1 : Int32)) rfl hM11 rfl rfl ?_
              refine r_sald (L := 3000) (i := (q2.1 26 - (1 : Int32))) ((q2.2.2.1 87) (q2.1 26 - (1 : Int32)).toInt.toNat) rfl hM11 rfl (by omega) rfl ?_
              generalize g45 : (q2.2.2.1 87) (q2.1 26 - (1 : Int32)).toInt.toNat = v44
              have x46 : v44.toInt = rA (q2.2.2.1 87) ((q2.1 26 - (1 : Int32)).toInt) := rA_of (i := (q2.1 26 - (1 : Int32))) g45 rfl
              refine hs (f := dm_ald 157 0) rfl rfl ?_
              refine r_geta (c := 86) rfl hM11 rfl ?_
              refine hs (f := dm_ald 161 0) rfl rfl ?_
              refine r_geti (q2.1 26 - (1 : Int32)) rfl hM11 rfl rfl ?_
              refine r_zald (L := 3000) (i := (q2.1 26 - (1 : Int32))) ((q2.2.2.1 89) (q2.1 26 - (1 : Int32)).toInt.toNat) rfl hM11 rfl (by omega) rfl ?_
              refine r_zast (L := 1000) (i := v44) (x := ((q2.2.2.1 89) (q2.1 26 - (1 : Int32)).toInt.toNat)) (q2.2.2.1 75) rfl hM11 rfl (by omega) rfl (fun M47 hM47 => ?_)
              replace hM47 := rm_to (q' := (sA (sF (sF (sF (sF q2 15 m) 16 v8) 17 nd) 26 (q2.1 26 - (1 : Int32))) 75 (upd (q2.2.2.1 75) v44.toInt.toNat (vp_nar .boolean ((q2.2.2.1 89) (q2.1 26 - (1 : Int32)).toInt.toNat))))) hM47 (show sA (sF (sF (sF (sF q2 15 m) 16 v8) 17 nd) 26 (q2.1 26 - (1 : Int32))) 75 (upd (q2.2.2.1 75) v44.toInt.toNat (vp_nar .boolean ((q2.2.2.1 89) (q2.1 26 - (1 : Int32)).toInt.toNat))) = (sA (sF (sF (sF (sF q2 15 m) 16 v8) 17 nd) 26 (q2.1 26 - (1 : Int32))) 75 (upd (q2.2.2.1 75) v44.toInt.toNat (vp_nar .boolean ((q2.2.2.1 89) (q2.1 26 - (1 : Int32)).toInt.toNat)))) from (show sA (sF (sF (sF (sF q2 15 m) 16 v8) 17 nd) 26 (q2.1 26 - (1 : Int32))) 75 (upd (q2.2.2.1 75) v44.toInt.toNat (vp_nar .boolean ((q2.2.2.1 89) (q2.1 26 - (1 : Int32)).toInt.toNat))) = (sA (sF (sF (sF (sF q2 15 m) 16 v8) 17 nd) 26 (q2.1 26 - (1 : Int32))) 75 (upd (q2.2.2.1 75) v44.toInt.toNat (vp_nar .boolean ((q2.2.2.1 89) (q2.1 26 - (1 : Int32)).toInt.toNat)))) from rfl))
              refine hs (f := dm_ald 167 0) rfl rfl ?_
              refine r_geta (c := 87) rfl hM47 rfl ?_
              refine hs (f := dm_ald 171 0) rfl rfl ?_
              refine r_geti (q2.1 26 - (1 : Int32)) rfl hM47 rfl rfl ?_
              refine r_sald (L := 3000) (i := (q2.1 26 - (1 : Int32))) ((q2.2.2.1 90) (q2.1 26 - (1 : Int32)).toInt.toNat) rfl hM47 rfl (by omega) rfl ?_
              generalize g49 : (q2.2.2.1 90) (q2.1 26 - (1 : Int32)).toInt.toNat = v48
              have x50 : v48.toInt = rA (q2.2.2.1 90) ((q2.1 26 - (1 : Int32)).toInt) := rA_of (i := (q2.1 26 - (1 : Int32))) g49 rfl
              refine hs (f := dm_push 176 (.int (-1))) rfl rfl ?_
              refine g_ic_eq (n := 179) (tt := 194) rfl (fun h51 => ?_) (fun h51 => ?_)
              · skip
                have h51 : v48.toInt = (-1) := h51
                refine hs (f := dm_ald 195 0) rfl rfl ?_
                refine r_geta (c := 88) rfl hM47 rfl ?_
                refine hs (f := dm_ald 199 0) rfl rfl ?_
                refine r_geti (q2.1 26 - (1 : Int32)) rfl hM47 rfl rfl ?_
                refine r_sald (L := 3000) (i := (q2.1 26 - (1 : Int32))) ((q2.2.2.1 91) (q2.1 26 - (1 : Int32)).toInt.toNat) rfl hM47 rfl (by omega) rfl ?_
                generalize g53 : (q2.2.2.1 91) (q2.1 26 - (1 : Int32)).toInt.toNat = v52
                have x54 : v52.toInt = rA (q2.2.2.1 91) ((q2.1 26 - (1 : Int32)).toInt) := rA_of (i := (q2.1 26 - (1 : Int32))) g53 rfl
                refine hs (f := dm_push 204 (.int (-1))) rfl rfl ?_
                refine g_ic_eq (n := 207) (tt := 222) rfl (fun h55 => ?_) (fun h55 => ?_)
                · skip
                  have h55 : v52.toInt = (-1) := h55
                  refine hs (f := dm_push 223 (.int 1)) rfl rfl ?_
                  exact h_retB rfl isB_1 (⟨_, _, isB_1, rfl, hM47, RI_up (RI_un Rq2 hsb (by omega) (by omega)) (by omega), fq2⟩)
                · skip
                  have h55 : ¬ v52.toInt = (-1) := h55
                  refine hs (f := dm_ald 208 0) rfl rfl ?_
                  refine r_geta (c := 73) rfl hM47 rfl ?_
                  refine hs (f := dm_ald 212 0) rfl rfl ?_
                  refine r_geta (c := 88) rfl hM47 rfl ?_
                  refine hs (f := dm_ald 216 0) rfl rfl ?_
                  refine r_geti (q2.1 26 - (1 : Int32)) rfl hM47 rfl rfl ?_
                  refine r_sald (L := 3000) (i := (q2.1 26 - (1 : Int32))) ((q2.2.2.1 91) (q2.1 26 - (1 : Int32)).toInt.toNat) rfl hM47 rfl (by omega) rfl ?_
                  generalize g57 : (q2.2.2.1 91) (q2.1 26 - (1 : Int32)).toInt.toNat = v56
                  have x58 : v56.toInt = rA (q2.2.2.1 91) ((q2.1 26 - (1 : Int32)).toInt) := rA_of (i := (q2.1 26 - (1 : Int32))) g57 rfl
                  refine hs (f := dm_push 221 (.int 1)) rfl rfl ?_
                  refine r_zast (L := 1000) (i := v56) (x := (1 : Int32)) (q2.2.2.1 76) rfl hM47 rfl (by omega) rfl (fun M59 hM59 => ?_)
                  replace hM59 := rm_to (q' := (sA (sA (sF (sF (sF (sF q2 15 m) 16 v8) 17 nd) 26 (q2.1 26 - (1 : Int32))) 75 (upd (q2.2.2.1 75) v44.toInt.toNat (vp_nar .boolean ((q2.2.2.1 89) (q2.1 26 - (1 : Int32)).toInt.toNat)))) 76 (upd (q2.2.2.1 76) v56.toInt.toNat (vp_nar .boolean (1 : Int32))))) hM59 (show sA (sA (sF (sF (sF (sF q2 15 m) 16 v8) 17 nd) 26 (q2.1 26 - (1 : Int32))) 75 (upd (q2.2.2.1 75) v44.toInt.toNat (vp_nar .boolean ((q2.2.2.1 89) (q2.1 26 - (1 : Int32)).toInt.toNat)))) 76 (upd (q2.2.2.1 76) v56.toInt.toNat (vp_nar .boolean (1 : Int32))) = (sA (sA (sF (sF (sF (sF q2 15 m) 16 v8) 17 nd) 26 (q2.1 26 - (1 : Int32))) 75 (upd (q2.2.2.1 75) v44.toInt.toNat (vp_nar .boolean ((q2.2.2.1 89) (q2.1 26 - (1 : Int32)).toInt.toNat)))) 76 (upd (q2.2.2.1 76) v56.toInt.toNat (vp_nar .boolean (1 : Int32)))) from (show sA (sA (sF (sF (sF (sF q2 15 m) 16 v8) 17 nd) 26 (q2.1 26 - (1 : Int32))) 75 (upd (q2.2.2.1 75) v44.toInt.toNat (vp_nar .boolean ((q2.2.2.1 89) (q2.1 26 - (1 : Int32)).toInt.toNat)))) 76 (upd (q2.2.2.1 76) v56.toInt.toNat (vp_nar .boolean (1 : Int32))) = (sA (sA (sF (sF (sF (sF q2 15 m) 16 v8) 17 nd) 26 (q2.1 26 - (1 : Int32))) 75 (upd (q2.2.2.1 75) v44.toInt.toNat (vp_nar .boolean ((q2.2.2.1 89) (q2.1 26 - (1 : Int32)).toInt.toNat)))) 76 (upd (q2.2.2.1 76) v56.toInt.toNat (vp_nar .boolean (1 : Int32)))) from rfl))
                  refine hs (f := dm_push 223 (.int 1)) rfl rfl ?_
                  exact h_retB rfl isB_1 (⟨_, _, isB_1, rfl, hM59, RI_up (RI_un Rq2 hsb (by omega) (by omega)) (by omega), fq2⟩)
              · skip
                have h51 : ¬ v48.toInt = (-1) := h51
                refine hs (f := dm_ald 180 0) rfl rfl ?_
                refine r_geta (c := 73) rfl hM47 rfl ?_
                refine hs (f := dm_ald 184 0) rfl rfl ?_
                refine r_geta (c := 87) rfl hM47 rfl ?_
                refine hs (f := dm_ald 188 0) rfl rfl ?_
                refine r_geti (q2.1 26 - (1 : Int32)) rfl hM47 rfl rfl ?_
                refine r_sald (L := 3000) (i := (q2.1 26 - (1 : Int32))) ((q2.2.2.1 90) (q2.1 26 - (1 : Int32)).toInt.toNat) rfl hM47 rfl (by omega) rfl ?_
                generalize g61 : (q2.2.2.1 90) (q2.1 26 - (1 : Int32)).toInt.toNat = v60
                have x62 : v60.toInt = rA (q2.2.2.1 90) ((q2.1 26 - (1 : Int32)).toInt) := rA_of (i := (q2.1 26 - (1 : Int32))) g61 rfl
                refine hs (f := dm_push 193 (.int 0)) rfl rfl ?_
                refine r_zast (L := 1000) (i := v60) (x := (0 : Int32)) (q2.2.2.1 76) rfl hM47 rfl (by omega) rfl (fun M63 hM63 => ?_)
                replace hM63 := rm_to (q' := (sA (sA (sF (sF (sF (sF q2 15 m) 16 v8) 17 nd) 26 (q2.1 26 - (1 : Int32))) 75 (upd (q2.2.2.1 75) v44.toInt.toNat (vp_nar .boolean ((q2.2.2.1 89) (q2.1 26 - (1 : Int32)).toInt.toNat)))) 76 (upd (q2.2.2.1 76) v60.toInt.toNat (vp_nar .boolean (0 : Int32))))) hM63 (show sA (sA (sF (sF (sF (sF q2 15 m) 16 v8) 17 nd) 26 (q2.1 26 - (1 : Int32))) 75 (upd (q2.2.2.1 75) v44.toInt.toNat (vp_nar .boolean ((q2.2.2.1 89) (q2.1 26 - (1 : Int32)).toInt.toNat)))) 76 (upd (q2.2.2.1 76) v60.toInt.toNat (vp_nar .boolean (0 : Int32))) = (sA (sA (sF (sF (sF (sF q2 15 m) 16 v8) 17 nd) 26 (q2.1 26 - (1 : Int32))) 75 (upd (q2.2.2.1 75) v44.toInt.toNat (vp_nar .boolean ((q2.2.2.1 89) (q2.1 26 - (1 : Int32)).toInt.toNat)))) 76 (upd (q2.2.2.1 76) v60.toInt.toNat (vp_nar .boolean (0 : Int32)))) from (show sA (sA (sF (sF (sF (sF q2 15 m) 16 v8) 17 nd) 26 (q2.1 26 - (1 : Int32))) 75 (upd (q2.2.2.1 75) v44.toInt.toNat (vp_nar .boolean ((q2.2.2.1 89) (q2.1 26 - (1 : Int32)).toInt.toNat)))) 76 (upd (q2.2.2.1 76) v60.toInt.toNat (vp_nar .boolean (0 : Int32))) = (sA (sA (sF (sF (sF (sF q2 15 m) 16 v8) 17 nd) 26 (q2.1 26 - (1 : Int32))) 75 (upd (q2.2.2.1 75) v44.toInt.toNat (vp_nar .boolean ((q2.2.2.1 89) (q2.1 26 - (1 : Int32)).toInt.toNat)))) 76 (upd (q2.2.2.1 76) v60.toInt.toNat (vp_nar .boolean (0 : Int32)))) from rfl))
                refine hs (f := dm_ald 195 0) rfl rfl ?_
                refine r_geta (c := 88) rfl hM63 rfl ?_
                refine hs (f := dm_ald 199 0) rfl rfl ?_
                refine r_geti (q2.1 26 - (1 : Int32)) rfl hM63 rfl rfl ?_
                refine r_sald (L := 3000) (i := (q2.1 26 - (1 : Int32))) ((q2.2.2.1 91) (q2.1 26 - (1 : Int32)).toInt.toNat) rfl hM63 rfl (by omega) rfl ?_
                generalize g65 : (q2.2.2.1 91) (q2.1 26 - (1 : Int32)).toInt.toNat = v64
                have x66 : v64.toInt = rA (q2.2.2.1 91) ((q2.1 26 - (1 : Int32)).toInt) := rA_of (i := (q2.1 26 - (1 : Int32))) g65 rfl
                refine hs (f := dm_push 204 (.int (-1))) rfl rfl ?_
                refine g_ic_eq (n := 207) (tt := 222) rfl (fun h67 => ?_) (fun h67 => ?_)
                · skip
                  have h67 : v64.toInt = (-1) := h67
                  refine hs (f := dm_push 223 (.int 1)) rfl rfl ?_
                  exact h_retB rfl isB_1 (⟨_, _, isB_1, rfl, hM63, RI_up (RI_un Rq2 hsb (by omega) (by omega)) (by omega), fq2⟩)
                · skip
                  have h67 : ¬ v64.toInt = (-1) := h67
                  refine hs (f := dm_ald 208 0) rfl rfl ?_
                  refine r_geta (c := 73) rfl hM63 rfl ?_
                  refine hs (f := dm_ald 212 0) rfl rfl ?_
                  refine r_geta (c := 88) rfl hM63 rfl ?_
                  refine hs (f := dm_ald 216 0) rfl rfl ?_
                  refine r_geti (q2.1 26 - (1 : Int32)) rfl hM63 rfl rfl ?_
                  refine r_sald (L := 3000) (i := (q2.1 26 - (1 : Int32))) ((q2.2.2.1 91) (q2.1 26 - (1 : Int32)).toInt.toNat) rfl hM63 rfl (by omega) rfl ?_
                  generalize g69 : (q2.2.2.1 91) (q2.1 26 - (1 : Int32)).toInt.toNat = v68
                  have x70 : v68.toInt = rA (q2.2.2.1 91) ((q2.1 26 - (1 : Int32)).toInt) := rA_of (i := (q2.1 26 - (1 : Int32))) g69 rfl
                  refine hs (f := dm_push 221 (.int 1)) rfl rfl ?_
                  refine r_zast (L := 1000) (i := v68) (x := (1 : Int32)) (upd (q2.2.2.1 76) v60.toInt.toNat (vp_nar .boolean (0 : Int32))) rfl hM63 rfl (by omega) rfl (fun M71 hM71 => ?_)
                  replace hM71 := rm_to (q' := (sA (sA (sF (sF (sF (sF q2 15 m) 16 v8) 17 nd) 26 (q2.1 26 - (1 : Int32))) 75 (upd (q2.2.2.1 75) v44.toInt.toNat (vp_nar .boolean ((q2.2.2.1 89) (q2.1 26 - (1 : Int32)).toInt.toNat)))) 76 (upd (upd (q2.2.2.1 76) v60.toInt.toNat (vp_nar .boolean (0 : Int32))) v68.toInt.toNat (vp_nar .boolean (1 : Int32))))) hM71 (show sA (sA (sA (sF (sF (sF (sF q2 15 m) 16 v8) 17 nd) 26 (q2.1 26 - (1 : Int32))) 75 (upd (q2.2.2.1 75) v44.toInt.toNat (vp_nar .boolean ((q2.2.2.1 89) (q2.1 26 - (1 : Int32)).toInt.toNat)))) 76 (upd (q2.2.2.1 76) v60.toInt.toNat (vp_nar .boolean (0 : Int32)))) 76 (upd (upd (q2.2.2.1 76) v60.toInt.toNat (vp_nar .boolean (0 : Int32))) v68.toInt.toNat (vp_nar .boolean (1 : Int32))) = (sA (sA (sF (sF (sF (sF q2 15 m) 16 v8) 17 nd) 26 (q2.1 26 - (1 : Int32))) 75 (upd (q2.2.2.1 75) v44.toInt.toNat (vp_nar .boolean ((q2.2.2.1 89) (q2.1 26 - (1 : Int32)).toInt.toNat)))) 76 (upd (upd (q2.2.2.1 76) v60.toInt.toNat (vp_nar .boolean (0 : Int32))) v68.toInt.toNat (vp_nar .boolean (1 : Int32)))) from (show sA (sA (sA (sF (sF (sF (sF q2 15 m) 16 v8) 17 nd) 26 (q2.1 26 - (1 : Int32))) 75 (upd (q2.2.2.1 75) v44.toInt.toNat (vp_nar .boolean ((q2.2.2.1 89) (q2.1 26 - (1 : Int32)).toInt.toNat)))) 76 (upd (q2.2.2.1 76) v60.toInt.toNat (vp_nar .boolean (0 : Int32)))) 76 (upd (upd (q2.2.2.1 76) v60.toInt.toNat (vp_nar .boolean (0 : Int32))) v68.toInt.toNat (vp_nar .boolean (1 : Int32))) = (sA (sA (sF (sF (sF (sF q2 15 m) 16 v8) 17 nd) 26 (q2.1 26 - (1 : Int32))) 75 (upd (q2.2.2.1 75) v44.toInt.toNat (vp_nar .boolean ((q2.2.2.1 89) (q2.1 26 - (1 : Int32)).toInt.toNat)))) 76 (upd (upd (q2.2.2.1 76) v60.toInt.toNat (vp_nar .boolean (0 : Int32))) v68.toInt.toNat (vp_nar .boolean (1 : Int32)))) from sA_sA))
                  refine hs (f := dm_push 223 (.int 1)) rfl rfl ?_
                  exact h_retB rfl isB_1 (⟨_, _, isB_1, rfl, hM71, RI_up (RI_un Rq2 hsb (by omega) (by omega)) (by omega), fq2⟩)
          · skip
            have h15 : ¬ v12.toInt = (-1) := h15
            refine hs (f := dm_ald 108 0) rfl rfl ?_
            refine r_geta (c := 72) rfl hM11 rfl ?_
            refine hs (f := dm_ald 112 0) rfl rfl ?_
            refine r_geta (c := 83) rfl hM11 rfl ?_
            refine hs (f := dm_ald 116 0) rfl rfl ?_
            refine r_geti (q2.1 26 - (1 : Int32)) rfl hM11 rfl rfl ?_
            refine r_sald (L := 3000) (i := (q2.1 26 - (1 : Int32))) ((q2.2.2.1 86) (q2.1 26 - (1 : Int32)).toInt.toNat) rfl hM11 rfl (by omega) rfl ?_
            generalize g73 : (q2.2.2.1 86) (q2.1 26 - (1 : Int32)).toInt.toNat = v72
            have x74 : v72.toInt = rA (q2.2.2.1 86) ((q2.1 26 - (1 : Int32)).toInt) := rA_of (i := (q2.1 26 - (1 : Int32))) g73 rfl
            refine hs (f := dm_ald 121 0) rfl rfl ?_
            refine r_geta (c := 85) rfl hM11 rfl ?_
            refine hs (f := dm_ald 125 0) rfl rfl ?_
            refine r_geti (q2.1 26 - (1 : Int32)) rfl hM11 rfl rfl ?_
            refine r_zald (L := 3000) (i := (q2.1 26 - (1 : Int32))) ((q2.2.2.1 88) (q2.1 26 - (1 : Int32)).toInt.toNat) rfl hM11 rfl (by omega) rfl ?_
            refine r_zast (L := 1000) (i := v72) (x := ((q2.2.2.1 88) (q2.1 26 - (1 : Int32)).toInt.toNat)) (q2.2.2.1 75) rfl hM11 rfl (by omega) rfl (fun M75 hM75 => ?_)
            replace hM75 := rm_to (q' := (sA (sF (sF (sF (sF q2 15 m) 16 v8) 17 nd) 26 (q2.1 26 - (1 : Int32))) 75 (upd (q2.2.2.1 75) v72.toInt.toNat (vp_nar .boolean ((q2.2.2.1 88) (q2.1 26 - (1 : Int32)).toInt.toNat))))) hM75 (show sA (sF (sF (sF (sF q2 15 m) 16 v8) 17 nd) 26 (q2.1 26 - (1 : Int32))) 75 (upd (q2.2.2.1 75) v72.toInt.toNat (vp_nar .boolean ((q2.2.2.1 88) (q2.1 26 - (1 : Int32)).toInt.toNat))) = (sA (sF (sF (sF (sF q2 15 m) 16 v8) 17 nd) 26 (q2.1 26 - (1 : Int32))) 75 (upd (q2.2.2.1 75) v72.toInt.toNat (vp_nar .boolean ((q2.2.2.1 88) (q2.1 26 - (1 : Int32)).toInt.toNat)))) from (show sA (sF (sF (sF (sF q2 15 m) 16 v8) 17 nd) 26 (q2.1 26 - (1 : Int32))) 75 (upd (q2.2.2.1 75) v72.toInt.toNat (vp_nar .boolean ((q2.2.2.1 88) (q2.1 26 - (1 : Int32)).toInt.toNat))) = (sA (sF (sF (sF (sF q2 15 m) 16 v8) 17 nd) 26 (q2.1 26 - (1 : Int32))) 75 (upd (q2.2.2.1 75) v72.toInt.toNat (vp_nar .boolean ((q2.2.2.1 88) (q2.1 26 - (1 : Int32)).toInt.toNat)))) from rfl))
            refine hs (f := dm_ald 131 0) rfl rfl ?_
            refine r_geta (c := 84) rfl hM75 rfl ?_
            refine hs (f := dm_ald 135 0) rfl rfl ?_
            refine r_geti (q2.1 26 - (1 : Int32)) rfl hM75 rfl rfl ?_
            refine r_sald (L := 3000) (i := (q2.1 26 - (1 : Int32))) ((q2.2.2.1 87) (q2.1 26 - (1 : Int32)).toInt.toNat) rfl hM75 rfl (by omega) rfl ?_
            generalize g77 : (q2.2.2.1 87) (q2.1 26 - (1 : Int32)).toInt.toNat = v76
            have x78 : v76.toInt = rA (q2.2.2.1 87) ((q2.1 26 - (1 : Int32)).toInt) := rA_of (i := (q2.1 26 - (1 : Int32))) g77 rfl
            refine hs (f := dm_push 140 (.int (-1))) rfl rfl ?_
            refine g_ic_eq (n := 143) (tt := 166) rfl (fun h79 => ?_) (fun h79 => ?_)
            · skip
              have h79 : v76.toInt = (-1) := h79
              refine hs (f := dm_ald 167 0) rfl rfl ?_
              refine r_geta (c := 87) rfl hM75 rfl ?_
              refine hs (f := dm_ald 171 0) rfl rfl ?_
              refine r_geti (q2.1 26 - (1 : Int32)) rfl hM75 rfl rfl ?_
              refine r_sald (L := 3000) (i := (q2.1 26 - (1 : Int32))) ((q2.2.2.1 90) (q2.1 26 - (1 : Int32)).toInt.toNat) rfl hM75 rfl (by omega) rfl ?_
              generalize g81 : (q2.2.2.1 90) (q2.1 26 - (1 : Int32)).toInt.toNat = v80
              have x82 : v80.toInt = rA (q2.2.2.1 90) ((q2.1 26 - (1 : Int32)).toInt) := rA_of (i := (q2.1 26 - (1 : Int32))) g81 rfl
              refine hs (f := dm_push 176 (.int (-1))) rfl rfl ?_
              refine g_ic_eq (n := 179) (tt := 194) rfl (fun h83 => ?_) (fun h83 => ?_)
              · skip
                have h83 : v80.toInt = (-1) := h83
                refine hs (f := dm_ald 195 0) rfl rfl ?_
                refine r_geta (c := 88) rfl hM75 rfl ?_
                refine hs (f := dm_ald 199 0) rfl rfl ?_
                refine r_geti (q2.1 26 - (1 : Int32)) rfl hM75 rfl rfl ?_
                refine r_sald (L := 3000) (i := (q2.1 26 - (1 : Int32))) ((q2.2.2.1 91) (q2.1 26 - (1 : Int32)).toInt.toNat) rfl hM75 rfl (by omega) rfl ?_
                generalize g85 : (q2.2.2.1 91) (q2.1 26 - (1 : Int32)).toInt.toNat = v84
                have x86 : v84.toInt = rA (q2.2.2.1 91) ((q2.1 26 - (1 : Int32)).toInt) := rA_of (i := (q2.1 26 - (1 : Int32))) g85 rfl
                refine hs (f := dm_push 204 (.int (-1))) rfl rfl ?_
                refine g_ic_eq (n := 207) (tt := 222) rfl (fun h87 => ?_) (fun h87 => ?_)
                · skip
                  have h87 : v84.toInt = (-1) := h87
                  refine hs (f := dm_push 223 (.int 1)) rfl rfl ?_
                  exact h_retB rfl isB_1 (⟨_, _, isB_1, rfl, hM75, RI_up (RI_un Rq2 hsb (by omega) (by omega)) (by omega), fq2⟩)
                · skip
                  have h87 : ¬ v84.toInt = (-1) := h87
                  refine hs (f := dm_ald 208 0) rfl rfl ?_
                  refine r_geta (c := 73) rfl hM75 rfl ?_
                  refine hs (f := dm_ald 212 0) rfl rfl ?_
                  refine r_geta (c := 88) rfl hM75 rfl ?_
                  refine hs (f := dm_ald 216 0) rfl rfl ?_
                  refine r_geti (q2.1 26 - (1 : Int32)) rfl hM75 rfl rfl ?_
                  refine r_sald (L := 3000) (i := (q2.1 26 - (1 : Int32))) ((q2.2.2.1 91) (q2.1 26 - (1 : Int32)).toInt.toNat) rfl hM75 rfl (by omega) rfl ?_
                  generalize g89 : (q2.2.2.1 91) (q2.1 26 - (1 : Int32)).toInt.toNat = v88
                  have x90 : v88.toInt = rA (q2.2.2.1 91) ((q2.1 26 - (1 : Int32)).toInt) := rA_of (i := (q2.1 26 - (1 : Int32))) g89 rfl
                  refine hs (f := dm_push 221 (.int 1)) rfl rfl ?_
                  refine r_zast (L := 1000) (i := v88) (x := (1 : Int32)) (q2.2.2.1 76) rfl hM75 rfl (by omega) rfl (fun M91 hM91 => ?_)
                  replace hM91 := rm_to (q' := (sA (sA (sF (sF (sF (sF q2 15 m) 16 v8) 17 nd) 26 (q2.1 26 - (1 : Int32))) 75 (upd (q2.2.2.1 75) v72.toInt.toNat (vp_nar .boolean ((q2.2.2.1 88) (q2.1 26 - (1 : Int32)).toInt.toNat)))) 76 (upd (q2.2.2.1 76) v88.toInt.toNat (vp_nar .boolean (1 : Int32))))) hM91 (show sA (sA (sF (sF (sF (sF q2 15 m) 16 v8) 17 nd) 26 (q2.1 26 - (1 : Int32))) 75 (upd (q2.2.2.1 75) v72.toInt.toNat (vp_nar .boolean ((q2.2.2.1 88) (q2.1 26 - (1 : Int32)).toInt.toNat)))) 76 (upd (q2.2.2.1 76) v88.toInt.toNat (vp_nar .boolean (1 : Int32))) = (sA (sA (sF (sF (sF (sF q2 15 m) 16 v8) 17 nd) 26 (q2.1 26 - (1 : Int32))) 75 (upd (q2.2.2.1 75) v72.toInt.toNat (vp_nar .boolean ((q2.2.2.1 88) (q2.1 26 - (1 : Int32)).toInt.toNat)))) 76 (upd (q2.2.2.1 76) v88.toInt.toNat (vp_nar .boolean (1 : Int32)))) from (show sA (sA (sF (sF (sF (sF q2 15 m) 16 v8) 17 nd) 26 (q2.1 26 - (1 : Int32))) 75 (upd (q2.2.2.1 75) v72.toInt.toNat (vp_nar .boolean ((q2.2.2.1 88) (q2.1 26 - (1 : Int32)).toInt.toNat)))) 76 (upd (q2.2.2.1 76) v88.toInt.toNat (vp_nar .boolean (1 : Int32))) = (sA (sA (sF (sF (sF (sF q2 15 m) 16 v8) 17 nd) 26 (q2.1 26 - (1 : Int32))) 75 (upd (q2.2.2.1 75) v72.toInt.toNat (vp_nar .boolean ((q2.2.2.1 88) (q2.1 26 - (1 : Int32)).toInt.toNat)))) 76 (upd (q2.2.2.1 76) v88.toInt.toNat (vp_nar .boolean (1 : Int32)))) from rfl))
                  refine hs (f := dm_push 223 (.int 1)) rfl rfl ?_
                  exact h_retB rfl isB_1 (⟨_, _, isB_1, rfl, hM91, RI_up (RI_un Rq2 hsb (by omega) (by omega)) (by omega), fq2⟩)
              · skip
                have h83 : ¬ v80.toInt = (-1) := h83
                refine hs (f := dm_ald 180 0) rfl rfl ?_
                refine r_geta (c := 73) rfl hM75 rfl ?_
                refine hs (f := dm_ald 184 0) rfl rfl ?_
                refine r_geta (c := 87) rfl hM75 rfl ?_
                refine hs (f := dm_ald 188 0) rfl rfl ?_
                refine r_geti (q2.1 26 - (1 : Int32)) rfl hM75 rfl rfl ?_
                refine r_sald (L := 3000) (i := (q2.1 26 - (1 : Int32))) ((q2.2.2.1 90) (q2.1 26 - (1 : Int32)).toInt.toNat) rfl hM75 rfl (by omega) rfl ?_
                generalize g93 : (q2.2.2.1 90) (q2.1 26 - (1 : Int32)).toInt.toNat = v92
                have x94 : v92.toInt = rA (q2.2.2.1 90) ((q2.1 26 - (1 : Int32)).toInt) := rA_of (i := (q2.1 26 - (1 : Int32))) g93 rfl
                refine hs (f := dm_push 193 (.int 0)) rfl rfl ?_
                refine r_zast (L := 1000) (i := v92) (x := (0 : Int32)) (q2.2.2.1 76) rfl hM75 rfl (by omega) rfl (fun M95 hM95 => ?_)
                replace hM95 := rm_to (q' := (sA (sA (sF (sF (sF (sF q2 15 m) 16 v8) 17 nd) 26 (q2.1 26 - (1 : Int32))) 75 (upd (q2.2.2.1 75) v72.toInt.toNat (vp_nar .boolean ((q2.2.2.1 88) (q2.1 26 - (1 : Int32)).toInt.toNat)))) 76 (upd (q2.2.2.1 76) v92.toInt.toNat (vp_nar .boolean (0 : Int32))))) hM95 (show sA (sA (sF (sF (sF (sF q2 15 m) 16 v8) 17 nd) 26 (q2.1 26 - (1 : Int32))) 75 (upd (q2.2.2.1 75) v72.toInt.toNat (vp_nar .boolean ((q2.2.2.1 88) (q2.1 26 - (1 : Int32)).toInt.toNat)))) 76 (upd (q2.2.2.1 76) v92.toInt.toNat (vp_nar .boolean (0 : Int32))) = (sA (sA (sF (sF (sF (sF q2 15 m) 16 v8) 17 nd) 26 (q2.1 26 - (1 : Int32))) 75 (upd (q2.2.2.1 75) v72.toInt.toNat (vp_nar .boolean ((q2.2.2.1 88) (q2.1 26 - (1 : Int32)).toInt.toNat)))) 76 (upd (q2.2.2.1 76) v92.toInt.toNat (vp_nar .boolean (0 : Int32)))) from (show sA (sA (sF (sF (sF (sF q2 15 m) 16 v8) 17 nd) 26 (q2.1 26 - (1 : Int32))) 75 (upd (q2.2.2.1 75) v72.toInt.toNat (vp_nar .boolean ((q2.2.2.1 88) (q2.1 26 - (1 : Int32)).toInt.toNat)))) 76 (upd (q2.2.2.1 76) v92.toInt.toNat (vp_nar .boolean (0 : Int32))) = (sA (sA (sF (sF (sF (sF q2 15 m) 16 v8) 17 nd) 26 (q2.1 26 - (1 : Int32))) 75 (upd (q2.2.2.1 75) v72.toInt.toNat (vp_nar .boolean ((q2.2.2.1 88) (q2.1 26 - (1 : Int32)).toInt.toNat)))) 76 (upd (q2.2.2.1 76) v92.toInt.toNat (vp_nar .boolean (0 : Int32)))) from rfl))
                refine hs (f := dm_ald 195 0) rfl rfl ?_
                refine r_geta (c := 88) rfl hM95 rfl ?_
                refine hs (f := dm_ald 199 0) rfl rfl ?_
                refine r_geti (q2.1 26 - (1 : Int32)) rfl hM95 rfl rfl ?_
                refine r_sald (L := 3000) (i := (q2.1 26 - (1 : Int32))) ((q2.2.2.1 91) (q2.1 26 - (1 : Int32)).toInt.toNat) rfl hM95 rfl (by omega) rfl ?_
                generalize g97 : (q2.2.2.1 91) (q2.1 26 - (1 : Int32)).toInt.toNat = v96
                have x98 : v96.toInt = rA (q2.2.2.1 91) ((q2.1 26 - (1 : Int32)).toInt) := rA_of (i := (q2.1 26 - (1 : Int32))) g97 rfl
                refine hs (f := dm_push 204 (.int (-1))) rfl rfl ?_
                refine g_ic_eq (n := 207) (tt := 222) rfl (fun h99 => ?_) (fun h99 => ?_)
                · skip
                  have h99 : v96.toInt = (-1) := h99
                  refine hs (f := dm_push 223 (.int 1)) rfl rfl ?_
                  exact h_retB rfl isB_1 (⟨_, _, isB_1, rfl, hM95, RI_up (RI_un Rq2 hsb (by omega) (by omega)) (by omega), fq2⟩)
                · skip
                  have h99 : ¬ v96.toInt = (-1) := h99
                  refine hs (f := dm_ald 208 0) rfl rfl ?_
                  refine r_geta (c := 73) rfl hM95 rfl ?_
                  refine hs (f := dm_ald 212 0) rfl rfl ?_
                  refine r_geta (c := 88) rfl hM95 rfl ?_
                  refine hs (f := dm_ald 216 0) rfl rfl ?_
                  refine r_geti (q2.1 26 - (1 : Int32)) rfl hM95 rfl rfl ?_
                  refine r_sald (L := 3000) (i := (q2.1 26 - (1 : Int32))) ((q2.2.2.1 91) (q2.1 26 - (1 : Int32)).toInt.toNat) rfl hM95 rfl (by omega) rfl ?_
                  generalize g101 : (q2.2.2.1 91) (q2.1 26 - (1 : Int32)).toInt.toNat = v100
                  have x102 : v100.toInt = rA (q2.2.2.1 91) ((q2.1 26 - (1 : Int32)).toInt) := rA_of (i := (q2.1 26 - (1 : Int32))) g101 rfl
                  refine hs (f := dm_push 221 (.int 1)) rfl rfl ?_
                  refine r_zast (L := 1000) (i := v100) (x := (1 : Int32)) (upd (q2.2.2.1 76) v92.toInt.toNat (vp_nar .boolean (0 : Int32))) rfl hM95 rfl (by omega) rfl (fun M103 hM103 => ?_)
                  replace hM103 := rm_to (q' := (sA (sA (sF (sF (sF (sF q2 15 m) 16 v8) 17 nd) 26 (q2.1 26 - (1 : Int32))) 75 (upd (q2.2.2.1 75) v72.toInt.toNat (vp_nar .boolean ((q2.2.2.1 88) (q2.1 26 - (1 : Int32)).toInt.toNat)))) 76 (upd (upd (q2.2.2.1 76) v92.toInt.toNat (vp_nar .boolean (0 : Int32))) v100.toInt.toNat (vp_nar .boolean (1 : Int32))))) hM103 (show sA (sA (sA (sF (sF (sF (sF q2 15 m) 16 v8) 17 nd) 26 (q2.1 26 - (1 : Int32))) 75 (upd (q2.2.2.1 75) v72.toInt.toNat (vp_nar .boolean ((q2.2.2.1 88) (q2.1 26 - (1 : Int32)).toInt.toNat)))) 76 (upd (q2.2.2.1 76) v92.toInt.toNat (vp_nar .boolean (0 : Int32)))) 76 (upd (upd (q2.2.2.1 76) v92.toInt.toNat (vp_nar .boolean (0 : Int32))) v100.toInt.toNat (vp_nar .boolean (1 : Int32))) = (sA (sA (sF (sF (sF (sF q2 15 m) 16 v8) 17 nd) 26 (q2.1 26 - (1 : Int32))) 75 (upd (q2.2.2.1 75) v72.toInt.toNat (vp_nar .boolean ((q2.2.2.1 88) (q2.1 26 - (1 : Int32)).toInt.toNat)))) 76 (upd (upd (q2.2.2.1 76) v92.toInt.toNat (vp_nar .boolean (0 : Int32))) v100.toInt.toNat (vp_nar .boolean (1 : Int32)))) from (show sA (sA (sA (sF (sF (sF (sF q2 15 m) 16 v8) 17 nd) 26 (q2.1 26 - (1 : Int32))) 75 (upd (q2.2.2.1 75) v72.toInt.toNat (vp_nar .boolean ((q2.2.2.1 88) (q2.1 26 - (1 : Int32)).toInt.toNat)))) 76 (upd (q2.2.2.1 76) v92.toInt.toNat (vp_nar .boolean (0 : Int32)))) 76 (upd (upd (q2.2.2.1 76) v92.toInt.toNat (vp_nar .boolean (0 : Int32))) v100.toInt.toNat (vp_nar .boolean (1 : Int32))) = (sA (sA (sF (sF (sF (sF q2 15 m) 16 v8) 17 nd) 26 (q2.1 26 - (1 : Int32))) 75 (upd (q2.2.2.1 75) v72.toInt.toNat (vp_nar .boolean ((q2.2.2.1 88) (q2.1 26 - (1 : Int32)).toInt.toNat)))) 76 (upd (upd (q2.2.2.1 76) v92.toInt.toNat (vp_nar .boolean (0 : Int32))) v100.toInt.toNat (vp_nar .boolean (1 : Int32)))) from sA_sA))
                  refine hs (f := dm_push 223 (.int 1)) rfl rfl ?_
                  exact h_retB rfl isB_1 (⟨_, _, isB_1, rfl, hM103, RI_up (RI_un Rq2 hsb (by omega) (by omega)) (by omega), fq2⟩)
            · skip
              have h79 : ¬ v76.toInt = (-1) := h79
              refine hs (f := dm_ald 144 0) rfl rfl ?_
              refine r_geta (c := 72) rfl hM75 rfl ?_
              refine hs (f := dm_ald 148 0) rfl rfl ?_
              refine r_geta (c := 84) rfl hM75 rfl ?_
              refine hs (f := dm_ald 152 0) rfl rfl ?_
              refine r_geti (q2.1 26 - (1 : Int32)) rfl hM75 rfl rfl ?_
              refine r_sald (L := 3000) (i := (q2.1 26 - (1 : Int32))) ((q2.2.2.1 87) (q2.1 26 - (1 : Int32)).toInt.toNat) rfl hM75 rfl (by omega) rfl ?_
              generalize g105 : (q2.2.2.1 87) (q2.1 26 - (1 : Int32)).toInt.toNat = v104
              have x106 : v104.toInt = rA (q2.2.2.1 87) ((q2.1 26 - (1 : Int32)).toInt) := rA_of (i := (q2.1 26 - (1 : Int32))) g105 rfl
              refine hs (f := dm_ald 157 0) rfl rfl ?_
              refine r_geta (c := 86) rfl hM75 rfl ?_
              refine hs (f := dm_ald 161 0) rfl rfl ?_
              refine r_geti (q2.1 26 - (1 : Int32)) rfl hM75 rfl rfl ?_
              refine r_zald (L := 3000) (i := (q2.1 26 - (1 : Int32))) ((q2.2.2.1 89) (q2.1 26 - (1 : Int32)).toInt.toNat) rfl hM75 rfl (by omega) rfl ?_
              refine r_zast (L := 1000) (i := v104) (x := ((q2.2.2.1 89) (q2.1 26 - (1 : Int32)).toInt.toNat)) (upd (q2.2.2.1 75) v72.toInt.toNat (vp_nar .boolean ((q2.2.2.1 88) (q2.1 26 - (1 : Int32)).toInt.toNat))) rfl hM75 rfl (by omega) rfl (fun M107 hM107 => ?_)
              replace hM107 := rm_to (q' := (sA (sF (sF (sF (sF q2 15 m) 16 v8) 17 nd) 26 (q2.1 26 - (1 : Int32))) 75 (upd (upd (q2.2.2.1 75) v72.toInt.toNat (vp_nar .boolean ((q2.2.2.1 88) (q2.1 26 - (1 : Int32)).toInt.toNat))) v104.toInt.toNat (vp_nar .boolean ((q2.2.2.1 89) (q2.1 26 - (1 : Int32)).toInt.toNat))))) hM107 (show sA (sA (sF (sF (sF (sF q2 15 m) 16 v8) 17 nd) 26 (q2.1 26 - (1 : Int32))) 75 (upd (q2.2.2.1 75) v72.toInt.toNat (vp_nar .boolean ((q2.2.2.1 88) (q2.1 26 - (1 : Int32)).toInt.toNat)))) 75 (upd (upd (q2.2.2.1 75) v72.toInt.toNat (vp_nar .boolean ((q2.2.2.1 88) (q2.1 26 - (1 : Int32)).toInt.toNat))) v104.toInt.toNat (vp_nar .boolean ((q2.2.2.1 89) (q2.1 26 - (1 : Int32)).toInt.toNat))) = (sA (sF (sF (sF (sF q2 15 m) 16 v8) 17 nd) 26 (q2.1 26 - (1 : Int32))) 75 (upd (upd (q2.2.2.1 75) v72.toInt.toNat (vp_nar .boolean ((q2.2.2.1 88) (q2.1 26 - (1 : Int32)).toInt.toNat))) v104.toInt.toNat (vp_nar .boolean ((q2.2.2.1 89) (q2.1 26 - (1 : Int32)).toInt.toNat)))) from (show sA (sA (sF (sF (sF (sF q2 15 m) 16 v8) 17 nd) 26 (q2.1 26 - (1 : Int32))) 75 (upd (q2.2.2.1 75) v72.toInt.toNat (vp_nar .boolean ((q2.2.2.1 88) (q2.1 26 - (1 : Int32)).toInt.toNat)))) 75 (upd (upd (q2.2.2.1 75) v72.toInt.toNat (vp_nar .boolean ((q2.2.2.1 88) (q2.1 26 - (1 : Int32)).toInt.toNat))) v104.toInt.toNat (vp_nar .boolean ((q2.2.2.1 89) (q2.1 26 - (1 : Int32)).toInt.toNat))) = (sA (sF (sF (sF (sF q2 15 m) 16 v8) 17 nd) 26 (q2.1 26 - (1 : Int32))) 75 (upd (upd (q2.2.2.1 75) v72.toInt.toNat (vp_nar .boolean ((q2.2.2.1 88) (q2.1 26 - (1 : Int32)).toInt.toNat))) v104.toInt.toNat (vp_nar .boolean ((q2.2.2.1 89) (q2.1 26 - (1 : Int32)).toInt.toNat)))) from sA_sA))
              refine hs (f := dm_ald 167 0) rfl rfl ?_
              refine r_geta (c := 87) rfl hM107 rfl ?_
              refine hs (f := dm_ald 171 0) rfl rfl ?_
              refine r_geti (q2.1 26 - (1 : Int32)) rfl hM107 rfl rfl ?_
              refine r_sald (L := 3000) (i := (q2.1 26 - (1 : Int32))) ((q2.2.2.1 90) (q2.1 26 - (1 : Int32)).toInt.toNat) rfl hM107 rfl (by omega) rfl ?_
              generalize g109 : (q2.2.2.1 90) (q2.1 26 - (1 : Int32)).toInt.toNat = v108
              have x110 : v108.toInt = rA (q2.2.2.1 90) ((q2.1 26 - (1 : Int32)).toInt) := rA_of (i := (q2.1 26 - (1 : Int32))) g109 rfl
              refine hs (f := dm_push 176 (.int (-1))) rfl rfl ?_
              refine g_ic_eq (n := 179) (tt := 194) rfl (fun h111 => ?_) (fun h111 => ?_)
              · skip
                have h111 : v108.toInt = (-1) := h111
                refine hs (f := dm_ald 195 0) rfl rfl ?_
                refine r_geta (c := 88) rfl hM107 rfl ?_
                refine hs (f := dm_ald 199 0) rfl rfl ?_
                refine r_geti (q2.1 26 - (1 : Int32)) rfl hM107 rfl rfl ?_
                refine r_sald (L := 3000) (i := (q2.1 26 - (1 : Int32))) ((q2.2.2.1 91) (q2.1 26 - (1 : Int32)).toInt.toNat) rfl hM107 rfl (by omega) rfl ?_
                generalize g113 : (q2.2.2.1 91) (q2.1 26 - (1 : Int32)).toInt.toNat = v112
                have x114 : v112.toInt = rA (q2.2.2.1 91) ((q2.1 26 - (1 : Int32)).toInt) := rA_of (i := (q2.1 26 - (1 : Int32))) g113 rfl
                refine hs (f := dm_push 204 (.int (-1))) rfl rfl ?_
                refine g_ic_eq (n := 207) (tt := 222) rfl (fun h115 => ?_) (fun h115 => ?_)
                · skip
                  have h115 : v112.toInt = (-1) := h115
                  refine hs (f := dm_push 223 (.int 1)) rfl rfl ?_
                  exact h_retB rfl isB_1 (⟨_, _, isB_1, rfl, hM107, RI_up (RI_un Rq2 hsb (by omega) (by omega)) (by omega), fq2⟩)
                · skip
                  have h115 : ¬ v112.toInt = (-1) := h115
                  refine hs (f := dm_ald 208 0) rfl rfl ?_
                  refine r_geta (c := 73) rfl hM107 rfl ?_
                  refine hs (f := dm_ald 212 0) rfl rfl ?_
                  refine r_geta (c := 88) rfl hM107 rfl ?_
                  refine hs (f := dm_ald 216 0) rfl rfl ?_
                  refine r_geti (q2.1 26 - (1 : Int32)) rfl hM107 rfl rfl ?_
                  refine r_sald (L := 3000) (i := (q2.1 26 - (1 : Int32))) ((q2.2.2.1 91) (q2.1 26 - (1 : Int32)).toInt.toNat) rfl hM107 rfl (by omega) rfl ?_
                  generalize g117 : (q2.2.2.1 91) (q2.1 26 - (1 : Int32)).toInt.toNat = v116
                  have x118 : v116.toInt = rA (q2.2.2.1 91) ((q2.1 26 - (1 : Int32)).toInt) := rA_of (i := (q2.1 26 - (1 : Int32))) g117 rfl
                  refine hs (f := dm_push 221 (.int 1)) rfl rfl ?_
                  refine r_zast (L := 1000) (i := v116) (x := (1 : Int32)) (q2.2.2.1 76) rfl hM107 rfl (by omega) rfl (fun M119 hM119 => ?_)
                  replace hM119 := rm_to (q' := (sA (sA (sF (sF (sF (sF q2 15 m) 16 v8) 17 nd) 26 (q2.1 26 - (1 : Int32))) 75 (upd (upd (q2.2.2.1 75) v72.toInt.toNat (vp_nar .boolean ((q2.2.2.1 88) (q2.1 26 - (1 : Int32)).toInt.toNat))) v104.toInt.toNat (vp_nar .boolean ((q2.2.2.1 89) (q2.1 26 - (1 : Int32)).toInt.toNat)))) 76 (upd (q2.2.2.1 76) v116.toInt.toNat (vp_nar .boolean (1 : Int32))))) hM119 (show sA (sA (sF (sF (sF (sF q2 15 m) 16 v8) 17 nd) 26 (q2.1 26 - (1 : Int32))) 75 (upd (upd (q2.2.2.1 75) v72.toInt.toNat (vp_nar .boolean ((q2.2.2.1 88) (q2.1 26 - (1 : Int32)).toInt.toNat))) v104.toInt.toNat (vp_nar .boolean ((q2.2.2.1 89) (q2.1 26 - (1 : Int32)).toInt.toNat)))) 76 (upd (q2.2.2.1 76) v116.toInt.toNat (vp_nar .boolean (1 : Int32))) = (sA (sA (sF (sF (sF (sF q2 15 m) 16 v8) 17 nd) 26 (q2.1 26 - (1 : Int32))) 75 (upd (upd (q2.2.2.1 75) v72.toInt.toNat (vp_nar .boolean ((q2.2.2.1 88) (q2.1 26 - (1 : Int32)).toInt.toNat))) v104.toInt.toNat (vp_nar .boolean ((q2.2.2.1 89) (q2.1 26 - (1 : Int32)).toInt.toNat)))) 76 (upd (q2.2.2.1 76) v116.toInt.toNat (vp_nar .boolean (1 : Int32)))) from (show sA (sA (sF (sF (sF (sF q2 15 m) 16 v8) 17 nd) 26 (q2.1 26 - (1 : Int32))) 75 (upd (upd (q2.2.2.1 75) v72.toInt.toNat (vp_nar .boolean ((q2.2.2.1 88) (q2.1 26 - (1 : Int32)).toInt.toNat))) v104.toInt.toNat (vp_nar .boolean ((q2.2.2.1 89) (q2.1 26 - (1 : Int32)).toInt.toNat)))) 76 (upd (q2.2.2.1 76) v116.toInt.toNat (vp_nar .boolean (1 : Int32))) = (sA (sA (sF (sF (sF (sF q2 15 m) 16 v8) 17 nd) 26 (q2.1 26 - (1 : Int32))) 75 (upd (upd (q2.2.2.1 75) v72.toInt.toNat (vp_nar .boolean ((q2.2.2.1 88) (q2.1 26 - (1 : Int32)).toInt.toNat))) v104.toInt.toNat (vp_nar .boolean ((q2.2.2.1 89) (q2.1 26 - (1 : Int32)).toInt.toNat)))) 76 (upd (q2.2.2.1 76) v116.toInt.toNat (vp_nar .boolean (1 : Int32)))) from rfl))
                  refine hs (f := dm_push 223 (.int 1)) rfl rfl ?_
                  exact h_retB rfl isB_1 (⟨_, _, isB_1, rfl, hM119, RI_up (RI_un Rq2 hsb (by omega) (by omega)) (by omega), fq2⟩)
              · skip
                have h111 : ¬ v108.toInt = (-1) := h111
                refine hs (f := dm_ald 180 0) rfl rfl ?_
                refine r_geta (c := 73) rfl hM107 rfl ?_
                refine hs (f := dm_ald 184 0) rfl rfl ?_
                refine r_geta (c := 87) rfl hM107 rfl ?_
                refine hs (f := dm_ald 188 0) rfl rfl ?_
                refine r_geti (q2.1 26 - (1 : Int32)) rfl hM107 rfl rfl ?_
                refine r_sald (L := 3000) (i := (q2.1 26 - (1 : Int32))) ((q2.2.2.1 90) (q2.1 26 - (1 : Int32)).toInt.toNat) rfl hM107 rfl (by omega) rfl ?_
                generalize g121 : (q2.2.2.1 90) (q2.1 26 - (1 : Int32)).toInt.toNat = v120
                have x122 : v120.toInt = rA (q2.2.2.1 90) ((q2.1 26 - (1 : Int32)).toInt) := rA_of (i := (q2.1 26 - (1 : Int32))) g121 rfl
                refine hs (f := dm_push 193 (.int 0)) rfl rfl ?_
                refine r_zast (L := 1000) (i := v120) (x := (0 : Int32)) (q2.2.2.1 76) rfl hM107 rfl (by omega) rfl (fun M123 hM123 => ?_)
                replace hM123 := rm_to (q' := (sA (sA (sF (sF (sF (sF q2 15 m) 16 v8) 17 nd) 26 (q2.1 26 - (1 : Int32))) 75 (upd (upd (q2.2.2.1 75) v72.toInt.toNat (vp_nar .boolean ((q2.2.2.1 88) (q2.1 26 - (1 : Int32)).toInt.toNat))) v104.toInt.toNat (vp_nar .boolean ((q2.2.2.1 89) (q2.1 26 - (1 : Int32)).toInt.toNat)))) 76 (upd (q2.2.2.1 76) v120.toInt.toNat (vp_nar .boolean (0 : Int32))))) hM123 (show sA (sA (sF (sF (sF (sF q2 15 m) 16 v8) 17 nd) 26 (q2.1 26 - (1 : Int32))) 75 (upd (upd (q2.2.2.1 75) v72.toInt.toNat (vp_nar .boolean ((q2.2.2.1 88) (q2.1 26 - (1 : Int32)).toInt.toNat))) v104.toInt.toNat (vp_nar .boolean ((q2.2.2.1 89) (q2.1 26 - (1 : Int32)).toInt.toNat)))) 76 (upd (q2.2.2.1 76) v120.toInt.toNat (vp_nar .boolean (0 : Int32))) = (sA (sA (sF (sF (sF (sF q2 15 m) 16 v8) 17 nd) 26 (q2.1 26 - (1 : Int32))) 75 (upd (upd (q2.2.2.1 75) v72.toInt.toNat (vp_nar .boolean ((q2.2.2.1 88) (q2.1 26 - (1 : Int32)).toInt.toNat))) v104.toInt.toNat (vp_nar .boolean ((q2.2.2.1 89) (q2.1 26 - (1 : Int32)).toInt.toNat)))) 76 (upd (q2.2.2.1 76) v120.toInt.toNat (vp_nar .boolean (0 : Int32)))) from (show sA (sA (sF (sF (sF (sF q2 15 m) 16 v8) 17 nd) 26 (q2.1 26 - (1 : Int32))) 75 (upd (upd (q2.2.2.1 75) v72.toInt.toNat (vp_nar .boolean ((q2.2.2.1 88) (q2.1 26 - (1 : Int32)).toInt.toNat))) v104.toInt.toNat (vp_nar .boolean ((q2.2.2.1 89) (q2.1 26 - (1 : Int32)).toInt.toNat)))) 76 (upd (q2.2.2.1 76) v120.toInt.toNat (vp_nar .boolean (0 : Int32))) = (sA (sA (sF (sF (sF (sF q2 15 m) 16 v8) 17 nd) 26 (q2.1 26 - (1 : Int32))) 75 (upd (upd (q2.2.2.1 75) v72.toInt.toNat (vp_nar .boolean ((q2.2.2.1 88) (q2.1 26 - (1 : Int32)).toInt.toNat))) v104.toInt.toNat (vp_nar .boolean ((q2.2.2.1 89) (q2.1 26 - (1 : Int32)).toInt.toNat)))) 76 (upd (q2.2.2.1 76) v120.toInt.toNat (vp_nar .boolean (0 : Int32)))) from rfl))
                refine hs (f := dm_ald 195 0) rfl rfl ?_
                refine r_geta (c := 88) rfl hM123 rfl ?_
                refine hs (f := dm_ald 199 0) rfl rfl ?_
                refine r_geti (q2.1 26 - (1 : Int32)) rfl hM123 rfl rfl ?_
                refine r_sald (L := 3000) (i := (q2.1 26 - (1 : Int32))) ((q2.2.2.1 91) (q2.1 26 - (1 : Int32)).toInt.toNat) rfl hM123 rfl (by omega) rfl ?_
                generalize g125 : (q2.2.2.1 91) (q2.1 26 - (1 : Int32)).toInt.toNat = v124
                have x126 : v124.toInt = rA (q2.2.2.1 91) ((q2.1 26 - (1 : Int32)).toInt) := rA_of (i := (q2.1 26 - (1 : Int32))) g125 rfl
                refine hs (f := dm_push 204 (.int (-1))) rfl rfl ?_
                refine g_ic_eq (n := 207) (tt := 222) rfl (fun h127 => ?_) (fun h127 => ?_)
                · skip
                  have h127 : v124.toInt = (-1) := h127
                  refine hs (f := dm_push 223 (.int 1)) rfl rfl ?_
                  exact h_retB rfl isB_1 (⟨_, _, isB_1, rfl, hM123, RI_up (RI_un Rq2 hsb (by omega) (by omega)) (by omega), fq2⟩)
                · skip
                  have h127 : ¬ v124.toInt = (-1) := h127
                  refine hs (f := dm_ald 208 0) rfl rfl ?_
                  refine r_geta (c := 73) rfl hM123 rfl ?_
                  refine hs (f := dm_ald 212 0) rfl rfl ?_
                  refine r_geta (c := 88) rfl hM123 rfl ?_
                  refine hs (f := dm_ald 216 0) rfl rfl ?_
                  refine r_geti (q2.1 26 - (1 : Int32)) rfl hM123 rfl rfl ?_
                  refine r_sald (L := 3000) (i := (q2.1 26 - (1 : Int32))) ((q2.2.2.1 91) (q2.1 26 - (1 : Int32)).toInt.toNat) rfl hM123 rfl (by omega) rfl ?_
                  generalize g129 : (q2.2.2.1 91) (q2.1 26 - (1 : Int32)).toInt.toNat = v128
                  have x130 : v128.toInt = rA (q2.2.2.1 91) ((q2.1 26 - (1 : Int32)).toInt) := rA_of (i := (q2.1 26 - (1 : Int32))) g129 rfl
                  refine hs (f := dm_push 221 (.int 1)) rfl rfl ?_
                  refine r_zast (L := 1000) (i := v128) (x := (1 : Int32)) (upd (q2.2.2.1 76) v120.toInt.toNat (vp_nar .boolean (0 : Int32))) rfl hM123 rfl (by omega) rfl (fun M131 hM131 => ?_)
                  replace hM131 := rm_to (q' := (sA (sA (sF (sF (sF (sF q2 15 m) 16 v8) 17 nd) 26 (q2.1 26 - (1 : Int32))) 75 (upd (upd (q2.2.2.1 75) v72.toInt.toNat (vp_nar .boolean ((q2.2.2.1 88) (q2.1 26 - (1 : Int32)).toInt.toNat))) v104.toInt.toNat (vp_nar .boolean ((q2.2.2.1 89) (q2.1 26 - (1 : Int32)).toInt.toNat)))) 76 (upd (upd (q2.2.2.1 76) v120.toInt.toNat (vp_nar .boolean (0 : Int32))) v128.toInt.toNat (vp_nar .boolean (1 : Int32))))) hM131 (show sA (sA (sA (sF (sF (sF (sF q2 15 m) 16 v8) 17 nd) 26 (q2.1 26 - (1 : Int32))) 75 (upd (upd (q2.2.2.1 75) v72.toInt.toNat (vp_nar .boolean ((q2.2.2.1 88) (q2.1 26 - (1 : Int32)).toInt.toNat))) v104.toInt.toNat (vp_nar .boolean ((q2.2.2.1 89) (q2.1 26 - (1 : Int32)).toInt.toNat)))) 76 (upd (q2.2.2.1 76) v120.toInt.toNat (vp_nar .boolean (0 : Int32)))) 76 (upd (upd (q2.2.2.1 76) v120.toInt.toNat (vp_nar .boolean (0 : Int32))) v128.toInt.toNat (vp_nar .boolean (1 : Int32))) = (sA (sA (sF (sF (sF (sF q2 15 m) 16 v8) 17 nd) 26 (q2.1 26 - (1 : Int32))) 75 (upd (upd (q2.2.2.1 75) v72.toInt.toNat (vp_nar .boolean ((q2.2.2.1 88) (q2.1 26 - (1 : Int32)).toInt.toNat))) v104.toInt.toNat (vp_nar .boolean ((q2.2.2.1 89) (q2.1 26 - (1 : Int32)).toInt.toNat)))) 76 (upd (upd (q2.2.2.1 76) v120.toInt.toNat (vp_nar .boolean (0 : Int32))) v128.toInt.toNat (vp_nar .boolean (1 : Int32)))) from (show sA (sA (sA (sF (sF (sF (sF q2 15 m) 16 v8) 17 nd) 26 (q2.1 26 - (1 : Int32))) 75 (upd (upd (q2.2.2.1 75) v72.toInt.toNat (vp_nar .boolean ((q2.2.2.1 88) (q2.1 26 - (1 : Int32)).toInt.toNat))) v104.toInt.toNat (vp_nar .boolean ((q2.2.2.1 89) (q2.1 26 - (1 : Int32)).toInt.toNat)))) 76 (upd (q2.2.2.1 76) v120.toInt.toNat (vp_nar .boolean (0 : Int32)))) 76 (upd (upd (q2.2.2.1 76) v120.toInt.toNat (vp_nar .boolean (0 : Int32))) v128.toInt.toNat (vp_nar .boolean (1 : Int32))) = (sA (sA (sF (sF (sF (sF q2 15 m) 16 v8) 17 nd) 26 (q2.1 26 - (1 : Int32))) 75 (upd (upd (q2.2.2.1 75) v72.toInt.toNat (vp_nar .boolean ((q2.2.2.1 88) (q2.1 26 - (1 : Int32)).toInt.toNat))) v104.toInt.toNat (vp_nar .boolean ((q2.2.2.1 89) (q2.1 26 - (1 : Int32)).toInt.toNat)))) 76 (upd (upd (q2.2.2.1 76) v120.toInt.toNat (vp_nar .boolean (0 : Int32))) v128.toInt.toNat (vp_nar .boolean (1 : Int32)))) from sA_sA))
                  refine hs (f := dm_push 223 (.int 1)) rfl rfl ?_
                  exact h_retB rfl isB_1 (⟨_, _, isB_1, rfl, hM131, RI_up (RI_un Rq2 hsb (by omega) (by omega)) (by omega), fq2⟩)
        · skip
          have h7 : m.toInt > v4.toInt := h7
          have sz := SB_at hsb (s := m.toInt - 1) (by have := hsb.1; omega) (by omega)
          have sy := hsb.2.2.2.2.2.2
          have sx := hsb.2.1
          have sw := SB_top hsb
          refine hs (f := dm_ald 41 0) rfl rfl ?_
          refine hs (f := dm_dup 42) (st' := [.ref 68, .ref 68]) rfl rfl ?_
          refine r_geti m rfl hM rfl rfl ?_
          refine hs (f := dm_push 46 (.int 1)) rfl rfl ?_
          have e132 : (m - (1 : Int32)).toInt = m.toInt - 1 := by have w := i_subc (x := m) (y := (1 : Int32)) 1 rfl (by omega) (by omega); omega
          refine hs (f := dm_ii 47 (fun x y => x - y)) (st' := [.int (m - (1 : Int32)), .ref 68]) rfl rfl ?_
          have sz2 := SB_at hsb (s := (m - (1 : Int32)).toInt) (by have := hsb.1; omega) (by omega)
          refine r_puti rfl hM rfl (fun M133 hM133 => ?_)
          replace hM133 := rm_to (q' := (sF (sF (sF q2 15 (m - (1 : Int32))) 17 nd) 26 (q2.1 26 - (1 : Int32)))) hM133 (show sF (sF (sF (sF q2 15 m) 17 nd) 26 (q2.1 26 - (1 : Int32))) 15 (m - (1 : Int32)) = (sF (sF (sF q2 15 (m - (1 : Int32))) 17 nd) 26 (q2.1 26 - (1 : Int32))) from (show sF (sF (sF (sF q2 15 m) 17 nd) 26 (q2.1 26 - (1 : Int32))) 15 (m - (1 : Int32)) = (sF (sF (sF q2 15 (m - (1 : Int32))) 17 nd) 26 (q2.1 26 - (1 : Int32))) from Eq.trans (show sF (sF (sF (sF q2 15 m) 17 nd) 26 (q2.1 26 - (1 : Int32))) 15 (m - (1 : Int32)) = sF (sF (sF (sF q2 15 m) 17 nd) 15 (m - (1 : Int32))) 26 (q2.1 26 - (1 : Int32)) from sF_cm (by decide)) (congrArg (fun z => sF z 26 (q2.1 26 - (1 : Int32))) (show sF (sF (sF q2 15 m) 17 nd) 15 (m - (1 : Int32)) = (sF (sF q2 15 (m - (1 : Int32))) 17 nd) from Eq.trans (show sF (sF (sF q2 15 m) 17 nd) 15 (m - (1 : Int32)) = sF (sF (sF q2 15 m) 15 (m - (1 : Int32))) 17 nd from sF_cm (by decide)) (congrArg (fun z => sF z 17 nd) (show sF (sF q2 15 m) 15 (m - (1 : Int32)) = (sF q2 15 (m - (1 : Int32))) from sF_sF))))))
          refine hs (f := dm_ald 51 0) rfl rfl ?_
          refine hs (f := dm_dup 52) (st' := [.ref 68, .ref 68]) rfl rfl ?_
          refine r_geti nd rfl hM133 rfl rfl ?_
          refine hs (f := dm_ald 56 0) rfl rfl ?_
          refine r_geta (c := 78) rfl hM133 rfl ?_
          refine hs (f := dm_ald 60 0) rfl rfl ?_
          refine r_geti (m - (1 : Int32)) rfl hM133 rfl rfl ?_
          refine r_iald (L := 1000) (i := (m - (1 : Int32))) ((q2.2.2.1 81) (m - (1 : Int32)).toInt.toNat) rfl hM133 rfl (by omega) rfl ?_
          generalize g135 : (q2.2.2.1 81) (m - (1 : Int32)).toInt.toNat = v134
          have x136 : v134.toInt = rA (q2.2.2.1 81) ((m - (1 : Int32)).toInt) := rA_of (i := (m - (1 : Int32))) g135 rfl
          refine hs (f := dm_ald 65 0) rfl rfl ?_
          refine r_geta (c := 79) rfl hM133 rfl ?_
          refine hs (f := dm_ald 69 0) rfl rfl ?_
          refine r_geti (m - (1 : Int32)) rfl hM133 rfl rfl ?_
          refine r_iald (L := 1000) (i := (m - (1 : Int32))) ((q2.2.2.1 82) (m - (1 : Int32)).toInt.toNat) rfl hM133 rfl (by omega) rfl ?_
          generalize g138 : (q2.2.2.1 82) (m - (1 : Int32)).toInt.toNat = v137
          have x139 : v137.toInt = rA (q2.2.2.1 82) ((m - (1 : Int32)).toInt) := rA_of (i := (m - (1 : Int32))) g138 rfl
          have e140 : (v134 + v137).toInt = rA (q2.2.2.1 81) ((m - (1 : Int32)).toInt) + rA (q2.2.2.1 82) ((m - (1 : Int32)).toInt) := by have w := i_add (x := v134) (y := v137) (by omega) (by omega); omega
          refine hs (f := dm_ii 74 (fun x y => x + y)) (st' := [.int (v134 + v137), .int nd, .ref 68]) rfl rfl ?_
          have e141 : (nd - (v134 + v137)).toInt = nd.toInt - (rA (q2.2.2.1 81) ((m - (1 : Int32)).toInt) + rA (q2.2.2.1 82) ((m - (1 : Int32)).toInt)) := by have w := i_sub (x := nd) (y := (v134 + v137)) (by omega) (by omega); omega
          refine hs (f := dm_ii 75 (fun x y => x - y)) (st' := [.int (nd - (v134 + v137)), .ref 68]) rfl rfl ?_
          refine r_puti rfl hM133 rfl (fun M142 hM142 => ?_)
          replace hM142 := rm_to (q' := (sF (sF (sF q2 15 (m - (1 : Int32))) 17 (nd - (v134 + v137))) 26 (q2.1 26 - (1 : Int32)))) hM142 (show sF (sF (sF (sF q2 15 (m - (1 : Int32))) 17 nd) 26 (q2.1 26 - (1 : Int32))) 17 (nd - (v134 + v137)) = (sF (sF (sF q2 15 (m - (1 : Int32))) 17 (nd - (v134 + v137))) 26 (q2.1 26 - (1 : Int32))) from (show sF (sF (sF (sF q2 15 (m - (1 : Int32))) 17 nd) 26 (q2.1 26 - (1 : Int32))) 17 (nd - (v134 + v137)) = (sF (sF (sF q2 15 (m - (1 : Int32))) 17 (nd - (v134 + v137))) 26 (q2.1 26 - (1 : Int32))) from Eq.trans (show sF (sF (sF (sF q2 15 (m - (1 : Int32))) 17 nd) 26 (q2.1 26 - (1 : Int32))) 17 (nd - (v134 + v137)) = sF (sF (sF (sF q2 15 (m - (1 : Int32))) 17 nd) 17 (nd - (v134 + v137))) 26 (q2.1 26 - (1 : Int32)) from sF_cm (by decide)) (congrArg (fun z => sF z 26 (q2.1 26 - (1 : Int32))) (show sF (sF (sF q2 15 (m - (1 : Int32))) 17 nd) 17 (nd - (v134 + v137)) = (sF (sF q2 15 (m - (1 : Int32))) 17 (nd - (v134 + v137))) from sF_sF))))
          refine hs (f := dm_goto 24) rfl rfl ?_
          exact (IH _ (by have z := hsb.1; omega)) (m - (1 : Int32)) (nd - (v134 + v137)) _ hM142 (by rw [e141, e132]; exact SB_pop hsb (by omega)) rfl
    refine hs (f := dm_ald 15 0) rfl rfl ?_
    refine hs (f := dm_dup 16) (st' := [.ref 68, .ref 68]) rfl rfl ?_
    refine r_geti (q2.1 26) rfl hM1 rfl rfl ?_
    refine hs (f := dm_push 20 (.int 1)) rfl rfl ?_
    have e143 : ((q2.1 26) - (1 : Int32)).toInt = (q2.1 26).toInt - 1 := by have w := i_subc (x := (q2.1 26)) (y := (1 : Int32)) 1 rfl (by omega) (by omega); omega
    refine hs (f := dm_ii 21 (fun x y => x - y)) (st' := [.int ((q2.1 26) - (1 : Int32)), .ref 68]) rfl rfl ?_
    refine r_puti rfl hM1 rfl (fun M144 hM144 => ?_)
    replace hM144 := rm_to (q' := (sF q2 26 ((q2.1 26) - (1 : Int32)))) hM144 (show sF q2 26 ((q2.1 26) - (1 : Int32)) = (sF q2 26 ((q2.1 26) - (1 : Int32))) from (show sF q2 26 ((q2.1 26) - (1 : Int32)) = (sF q2 26 ((q2.1 26) - (1 : Int32))) from rfl))
    replace hM144 := rm_to (q' := (sF (sF q2 15 (q2.1 15)) 26 ((q2.1 26) - (1 : Int32)))) hM144 (Eq.trans (sF_id (q := (sF q2 26 ((q2.1 26) - (1 : Int32)))) (k := 15) (v := (q2.1 15)) rfl) (show sF (sF q2 26 ((q2.1 26) - (1 : Int32))) 15 (q2.1 15) = (sF (sF q2 15 (q2.1 15)) 26 ((q2.1 26) - (1 : Int32))) from (show sF (sF q2 26 ((q2.1 26) - (1 : Int32))) 15 (q2.1 15) = (sF (sF q2 15 (q2.1 15)) 26 ((q2.1 26) - (1 : Int32))) from Eq.trans (show sF (sF q2 26 ((q2.1 26) - (1 : Int32))) 15 (q2.1 15) = sF (sF q2 15 (q2.1 15)) 26 ((q2.1 26) - (1 : Int32)) from sF_cm (by decide)) (congrArg (fun z => sF z 26 ((q2.1 26) - (1 : Int32))) (show sF q2 15 (q2.1 15) = (sF q2 15 (q2.1 15)) from rfl)))))
    replace hM144 := rm_to (q' := (sF (sF (sF q2 15 (q2.1 15)) 17 (q2.1 17)) 26 ((q2.1 26) - (1 : Int32)))) hM144 (Eq.trans (sF_id (q := (sF (sF q2 15 (q2.1 15)) 26 ((q2.1 26) - (1 : Int32)))) (k := 17) (v := (q2.1 17)) rfl) (show sF (sF (sF q2 15 (q2.1 15)) 26 ((q2.1 26) - (1 : Int32))) 17 (q2.1 17) = (sF (sF (sF q2 15 (q2.1 15)) 17 (q2.1 17)) 26 ((q2.1 26) - (1 : Int32))) from (show sF (sF (sF q2 15 (q2.1 15)) 26 ((q2.1 26) - (1 : Int32))) 17 (q2.1 17) = (sF (sF (sF q2 15 (q2.1 15)) 17 (q2.1 17)) 26 ((q2.1 26) - (1 : Int32))) from Eq.trans (show sF (sF (sF q2 15 (q2.1 15)) 26 ((q2.1 26) - (1 : Int32))) 17 (q2.1 17) = sF (sF (sF q2 15 (q2.1 15)) 17 (q2.1 17)) 26 ((q2.1 26) - (1 : Int32)) from sF_cm (by decide)) (congrArg (fun z => sF z 26 ((q2.1 26) - (1 : Int32))) (show sF (sF q2 15 (q2.1 15)) 17 (q2.1 17) = (sF (sF q2 15 (q2.1 15)) 17 (q2.1 17)) from rfl)))))
    exact (j24 _) (q2.1 15) (q2.1 17) _ hM144 Rq2.1 rfl
  · skip
    have h3 : (q2.1 26).toInt = 0 := h3
    refine hs (f := dm_push 13 (.int 0)) rfl rfl ?_
    exact h_retB rfl isB_0 (⟨_, q2, isB_0, rfl, hM1, RI_up Rq2 (by omega), fq2⟩)
set_option maxHeartbeats 4000000 in
theorem op_174 {X : dm_Mem} {q : rS} {M : dm_Mem} {T : Int} (hM : Rm X q M) (hR : RI T q) (hT6 : 0 ≤ T ∧ T ≤ 600) (a b : Int32) : hT 3 174 [.ref 68, .int a, .int b] M (fun r M' => ∃ (x : Int32) (q' : rS), r = some (.int x) ∧ Rm X q' M' ∧ RI (T + 1) q' ∧ q'.1 41 = q.1 41) := by
  refine hx (t := cd_174) rfl (Nat.le_of_ble_eq_true rfl) (lv := [(0, .ref 68), (1, .int a), (2, .int b)]) rfl ?_
  refine hs (f := dm_ald 1 0) rfl rfl ?_
  refine hs (f := dm_push 2 (.int 0)) rfl rfl ?_
  refine r_puti rfl hM rfl (fun M1 hM1 => ?_)
  replace hM1 := rm_to (q' := (sF q 40 (0 : Int32))) hM1 (show sF q 40 (0 : Int32) = (sF q 40 (0 : Int32)) from (show sF q 40 (0 : Int32) = (sF q 40 (0 : Int32)) from rfl))
  obtain ⟨q2, eq2⟩ : ∃ z, z = (sF q 40 (0 : Int32)) := ⟨_, rfl⟩
  rw [← eq2] at hM1
  have Rq2 : RI T q2 := by rw [eq2]; exact hR
  have Kq2 : KP q q2 := by rw [eq2]; exact ⟨rfl, rfl, rfl, rfl, rfl, rfl, rfl, rfl, rfl, rfl, rfl, rfl, rfl⟩
  have fq2 : q2.1 41 = q.1 41 := Kq2.2.2.2.2.1
  have evq2 := Rq2.2.2.1
  have mxq2 := Rq2.1.2.1
  have btq2 := Rq2.2.2.2.2.2.1
  refine hs (f := dm_ald 6 0) rfl rfl ?_
  refine hs (f := dm_ild 7 1) rfl rfl ?_
  refine r_inv rfl hM1 rfl (as := [.ref 68, .int a]) rfl (Nat.le_of_ble_eq_true rfl) (hT_mono (by decide) (r_136 hM1 a) (fun r1 M4 w => ?_))
  obtain ⟨rfl, ⟨rfl, u3a, u3b⟩ | ⟨rfl, u3n⟩⟩ := w
  · skip
    refine hs (f := dm_if_eq 13 21) (pc' := 13) rfl rfl ?_
    refine hs (f := dm_ald 14 0) rfl rfl ?_
    refine hs (f := dm_ild 15 2) rfl rfl ?_
    refine r_inv rfl hM1 rfl (as := [.ref 68, .int b]) rfl (Nat.le_of_ble_eq_true rfl) (hT_mono (by decide) (r_136 hM1 b) (fun r1 M6 w => ?_))
    obtain ⟨rfl, ⟨rfl, u5a, u5b⟩ | ⟨rfl, u5n⟩⟩ := w
    · skip
      refine hs (f := dm_if_ne 21 23) (pc' := 23) rfl rfl ?_
      refine hs (f := dm_ald 24 0) rfl rfl ?_
      refine hs (f := dm_ild 25 1) rfl rfl ?_
      refine hs (f := dm_ild 26 2) rfl rfl ?_
      have sau7 := SB_at Rq2.1 (s := a.toInt) (by omega) (by omega)
      have sbu7 := SB_at Rq2.1 (s := b.toInt) (by omega) (by omega)
      refine r_inv rfl hM1 rfl (as := [.ref 68, .int a, .int b]) rfl (Nat.le_of_ble_eq_true rfl) (hT_mono (by decide) (r_173 hM1 a b (by omega) (by omega) (by omega) (by omega) (by omega) (by omega) (by omega) (by omega)) (fun r1 M8 w => ?_))
      obtain ⟨rfl, ⟨rfl, _⟩ | ⟨rfl, _⟩⟩ := w
      · skip
        refine hs (f := dm_ist 30 3) (lv' := [(3, .int 1), (0, .ref 68), (1, .int a), (2, .int b)]) rfl rfl ?_
        refine hs (f := dm_ald 31 0) rfl rfl ?_
        refine hs (f := dm_ild 32 2) rfl rfl ?_
        refine hs (f := dm_ild 33 1) rfl rfl ?_
        have sau9 := SB_at Rq2.1 (s := b.toInt) (by omega) (by omega)
        have sbu9 := SB_at Rq2.1 (s := a.toInt) (by omega) (by omega)
        refine r_inv rfl hM1 rfl (as := [.ref 68, .int b, .int a]) rfl (Nat.le_of_ble_eq_true rfl) (hT_mono (by decide) (r_173 hM1 b a (by omega) (by omega) (by omega) (by omega) (by omega) (by omega) (by omega) (by omega)) (fun r1 M10 w => ?_))
        obtain ⟨rfl, ⟨rfl, _⟩ | ⟨rfl, _⟩⟩ := w
        · skip
          refine hs (f := dm_ist 38 4) (lv' := [(4, .int 1), (3, .int 1), (0, .ref 68), (1, .int a), (2, .int b)]) rfl rfl ?_
          refine hs (f := dm_ild 39 3) rfl rfl ?_
          refine hs (f := dm_if_eq 42 51) (pc' := 42) rfl rfl ?_
          refine hs (f := dm_ild 44 4) rfl rfl ?_
          refine hs (f := dm_if_eq 47 51) (pc' := 47) rfl rfl ?_
          refine hs (f := dm_push 48 (.int 0)) rfl rfl ?_
          refine hs (f := dm_goto 69) rfl rfl ?_
          exact hr (f := dm_ret .int) rfl rfl (⟨_, q2, rfl, hM1, RI_up Rq2 (by omega), fq2⟩)
        · skip
          refine hs (f := dm_ist 38 4) (lv' := [(4, .int 0), (3, .int 1), (0, .ref 68), (1, .int a), (2, .int b)]) rfl rfl ?_
          refine hs (f := dm_ild 39 3) rfl rfl ?_
          refine hs (f := dm_if_eq 42 51) (pc' := 42) rfl rfl ?_
          refine hs (f := dm_ild 44 4) rfl rfl ?_
          refine hs (f := dm_if_eq 47 51) (pc' := 51) rfl rfl ?_
          refine hs (f := dm_ild 52 3) rfl rfl ?_
          refine hs (f := dm_if_eq 55 59) (pc' := 55) rfl rfl ?_
          refine hs (f := dm_push 56 (.int 1)) rfl rfl ?_
          refine hs (f := dm_goto 69) rfl rfl ?_
          exact hr (f := dm_ret .int) rfl rfl (⟨_, q2, rfl, hM1, RI_up Rq2 (by omega), fq2⟩)
      · skip
        refine hs (f := dm_ist 30 3) (lv' := [(3, .int 0), (0, .ref 68), (1, .int a), (2, .int b)]) rfl rfl ?_
        refine hs (f := dm_ald 31 0) rfl rfl ?_
        refine hs (f := dm_ild 32 2) rfl rfl ?_
        refine hs (f := dm_ild 33 1) rfl rfl ?_
        have sau11 := SB_at Rq2.1 (s := b.toInt) (by omega) (by omega)
        have sbu11 := SB_at Rq2.1 (s := a.toInt) (by omega) (by omega)
        refine r_inv rfl hM1 rfl (as := [.ref 68, .int b, .int a]) rfl (Nat.le_of_ble_eq_true rfl) (hT_mono (by decide) (r_173 hM1 b a (by omega) (by omega) (by omega) (by omega) (by omega) (by omega) (by omega) (by omega)) (fun r1 M12 w => ?_))
        obtain ⟨rfl, ⟨rfl, _⟩ | ⟨rfl, _⟩⟩ := w
        · skip
          refine hs (f := dm_ist 38 4) (lv' := [(4, .int 1), (3, .int 0), (0, .ref 68), (1, .int a), (2, .int b)]) rfl rfl ?_
          refine hs (f := dm_ild 39 3) rfl rfl ?_
          refine hs (f := dm_if_eq 42 51) (pc' := 51) rfl rfl ?_
          refine hs (f := dm_ild 52 3) rfl rfl ?_
          refine hs (f := dm_if_eq 55 59) (pc' := 59) rfl rfl ?_
          refine hs (f := dm_ild 61 4) rfl rfl ?_
          refine hs (f := dm_if_eq 64 68) (pc' := 64) rfl rfl ?_
          refine hs (f := dm_push 65 (.int 2)) rfl rfl ?_
          refine hs (f := dm_goto 69) rfl rfl ?_
          exact hr (f := dm_ret .int) rfl rfl (⟨_, q2, rfl, hM1, RI_up Rq2 (by omega), fq2⟩)
        · skip
          refine hs (f := dm_ist 38 4) (lv' := [(4, .int 0), (3, .int 0), (0, .ref 68), (1, .int a), (2, .int b)]) rfl rfl ?_
          refine hs (f := dm_ild 39 3) rfl rfl ?_
          refine hs (f := dm_if_eq 42 51) (pc' := 51) rfl rfl ?_
          refine hs (f := dm_ild 52 3) rfl rfl ?_
          refine hs (f := dm_if_eq 55 59) (pc' := 59) rfl rfl ?_
          refine hs (f := dm_ild 61 4) rfl rfl ?_
          refine hs (f := dm_if_eq 64 68) (pc' := 68) rfl rfl ?_
          refine hs (f := dm_push 69 (.int 3)) rfl rfl ?_
          exact hr (f := dm_ret .int) rfl rfl (⟨_, q2, rfl, hM1, RI_up Rq2 (by omega), fq2⟩)
    · skip
      refine hs (f := dm_if_ne 21 23) (pc' := 21) rfl rfl ?_
      refine hs (f := dm_push 22 (.int (-1))) rfl rfl ?_
      exact hr (f := dm_ret .int) rfl rfl (⟨_, q2, rfl, hM1, RI_up Rq2 (by omega), fq2⟩)
  · skip
    refine hs (f := dm_if_eq 13 21) (pc' := 21) rfl rfl ?_
    refine hs (f := dm_push 22 (.int (-1))) rfl rfl ?_
    exact hr (f := dm_ret .int) rfl rfl (⟨_, q2, rfl, hM1, RI_up Rq2 (by omega), fq2⟩)
theorem r_208 {M : dm_Mem} (x : Int64) : hT 1 208 [.long x] M (fun r M' => ∃ v : Int32, r = some (.int v) ∧ M' = M) := by
  refine hx (t := cd_208) rfl (Nat.le_of_ble_eq_true rfl) (lv := [(0, .long x)]) rfl ?_
  refine hs (f := dm_lld 1 0) rfl rfl ?_
  refine hs (f := dm_lld 2 0) rfl rfl ?_
  refine hs (f := dm_push 3 (.int 1)) rfl rfl ?_
  refine hs (f := dm_li 4 (fun x y => (x.toUInt64 >>> (y.toInt64.toUInt64 &&& Int64.toUInt64 63)).toInt64)) (st' := [.long ((x.toUInt64 >>> ((1 : Int32).toInt64.toUInt64 &&& Int64.toUInt64 63)).toInt64), .long x]) rfl rfl ?_
  refine hs (f := dm_push 7 (.long 6148914691236517205)) rfl rfl ?_
  refine hs (f := dm_ll 8 (fun x y => x &&& y)) (st' := [.long (((x.toUInt64 >>> ((1 : Int32).toInt64.toUInt64 &&& Int64.toUInt64 63)).toInt64) &&& (6148914691236517205 : Int64)), .long x]) rfl rfl ?_
  refine hs (f := dm_ll 9 (fun x y => x - y)) (st' := [.long (x - (((x.toUInt64 >>> ((1 : Int32).toInt64.toUInt64 &&& Int64.toUInt64 63)).toInt64) &&& (6148914691236517205 : Int64)))]) rfl rfl ?_
  refine hs (f := dm_lst 10 0) (lv' := [(0, .long (x - (((x.toUInt64 >>> ((1 : Int32).toInt64.toUInt64 &&& Int64.toUInt64 63)).toInt64) &&& (6148914691236517205 : Int64))))]) rfl rfl ?_
  refine hs (f := dm_lld 11 0) rfl rfl ?_
  refine hs (f := dm_push 14 (.long 3689348814741910323)) rfl rfl ?_
  refine hs (f := dm_ll 15 (fun x y => x &&& y)) (st' := [.long ((x - (((x.toUInt64 >>> ((1 : Int32).toInt64.toUInt64 &&& Int64.toUInt64 63)).toInt64) &&& (6148914691236517205 : Int64))) &&& (3689348814741910323 : Int64))]) rfl rfl ?_
  refine hs (f := dm_lld 16 0) rfl rfl ?_
  refine hs (f := dm_push 17 (.int 2)) rfl rfl ?_
  refine hs (f := dm_li 18 (fun x y => (x.toUInt64 >>> (y.toInt64.toUInt64 &&& Int64.toUInt64 63)).toInt64)) (st' := [.long (((x - (((x.toUInt64 >>> ((1 : Int32).toInt64.toUInt64 &&& Int64.toUInt64 63)).toInt64) &&& (6148914691236517205 : Int64))).toUInt64 >>> ((2 : Int32).toInt64.toUInt64 &&& Int64.toUInt64 63)).toInt64), .long ((x - (((x.toUInt64 >>> ((1 : Int32).toInt64.toUInt64 &&& Int64.toUInt64 63)).toInt64) &&& (6148914691236517205 : Int64))) &&& (3689348814741910323 : Int64))]) rfl rfl ?_
  refine hs (f := dm_push 21 (.long 3689348814741910323)) rfl rfl ?_
  refine hs (f := dm_ll 22 (fun x y => x &&& y)) (st' := [.long ((((x - (((x.toUInt64 >>> ((1 : Int32).toInt64.toUInt64 &&& Int64.toUInt64 63)).toInt64) &&& (6148914691236517205 : Int64))).toUInt64 >>> ((2 : Int32).toInt64.toUInt64 &&& Int64.toUInt64 63)).toInt64) &&& (3689348814741910323 : Int64)), .long ((x - (((x.toUInt64 >>> ((1 : Int32).toInt64.toUInt64 &&& Int64.toUInt64 63)).toInt64) &&& (6148914691236517205 : Int64))) &&& (3689348814741910323 : Int64))]) rfl rfl ?_
  refine hs (f := dm_ll 23 (fun x y => x + y)) (st' := [.long (((x - (((x.toUInt64 >>> ((1 : Int32).toInt64.toUInt64 &&& Int64.toUInt64 63)).toInt64) &&& (6148914691236517205 : Int64))) &&& (3689348814741910323 : Int64)) + ((((x - (((x.toUInt64 >>> ((1 : Int32).toInt64.toUInt64 &&& Int64.toUInt64 63)).toInt64) &&& (6148914691236517205 : Int64))).toUInt64 >>> ((2 : Int32).toInt64.toUInt64 &&& Int64.toUInt64 63)).toInt64) &&& (3689348814741910323 : Int64)))]) rfl rfl ?_
  refine hs (f := dm_lst 24 0) (lv' := [(0, .long (((x - (((x.toUInt64 >>> ((1 : Int32).toInt64.toUInt64 &&& Int64.toUInt64 63)).toInt64) &&& (6148914691236517205 : Int64))) &&& (3689348814741910323 : Int64)) + ((((x - (((x.toUInt64 >>> ((1 : Int32).toInt64.toUInt64 &&& Int64.toUInt64 63)).toInt64) &&& (6148914691236517205 : Int64))).toUInt64 >>> ((2 : Int32).toInt64.toUInt64 &&& Int64.toUInt64 63)).toInt64) &&& (3689348814741910323 : Int64))))]) rfl rfl ?_
  refine hs (f := dm_lld 25 0) rfl rfl ?_
  refine hs (f := dm_lld 26 0) rfl rfl ?_
  refine hs (f := dm_push 27 (.int 4)) rfl rfl ?_
  refine hs (f := dm_li 28 (fun x y => (x.toUInt64 >>> (y.toInt64.toUInt64 &&& Int64.toUInt64 63)).toInt64)) (st' := [.long (((((x - (((x.toUInt64 >>> ((1 : Int32).toInt64.toUInt64 &&& Int64.toUInt64 63)).toInt64) &&& (6148914691236517205 : Int64))) &&& (3689348814741910323 : Int64)) + ((((x - (((x.toUInt64 >>> ((1 : Int32).toInt64.toUInt64 &&& Int64.toUInt64 63)).toInt64) &&& (6148914691236517205 : Int64))).toUInt64 >>> ((2 : Int32).toInt64.toUInt64 &&& Int64.toUInt64 63)).toInt64) &&& (3689348814741910323 : Int64))).toUInt64 >>> ((4 : Int32).toInt64.toUInt64 &&& Int64.toUInt64 63)).toInt64), .long (((x - (((x.toUInt64 >>> ((1 : Int32).toInt64.toUInt64 &&& Int64.toUInt64 63)).toInt64) &&& (6148914691236517205 : Int64))) &&& (3689348814741910323 : Int64)) + ((((x - (((x.toUInt64 >>> ((1 : Int32).toInt64.toUInt64 &&& Int64.toUInt64 63)).toInt64) &&& (6148914691236517205 : Int64))).toUInt64 >>> ((2 : Int32).toInt64.toUInt64 &&& Int64.toUInt64 63)).toInt64) &&& (3689348814741910323 : Int64)))]) rfl rfl ?_
  refine hs (f := dm_ll 29 (fun x y => x + y)) (st' := [.long ((((x - (((x.toUInt64 >>> ((1 : Int32).toInt64.toUInt64 &&& Int64.toUInt64 63)).toInt64) &&& (6148914691236517205 : Int64))) &&& (3689348814741910323 : Int64)) + ((((x - (((x.toUInt64 >>> ((1 : Int32).toInt64.toUInt64 &&& Int64.toUInt64 63)).toInt64) &&& (6148914691236517205 : Int64))).toUInt64 >>> ((2 : Int32).toInt64.toUInt64 &&& Int64.toUInt64 63)).toInt64) &&& (3689348814741910323 : Int64))) + (((((x - (((x.toUInt64 >>> ((1 : Int32).toInt64.toUInt64 &&& Int64.toUInt64 63)).toInt64) &&& (6148914691236517205 : Int64))) &&& (3689348814741910323 : Int64)) + ((((x - (((x.toUInt64 >>> ((1 : Int32).toInt64.toUInt64 &&& Int64.toUInt64 63)).toInt64) &&& (6148914691236517205 : Int64))).toUInt64 >>> ((2 : Int32).toInt64.toUInt64 &&& Int64.toUInt64 63)).toInt64) &&& (3689348814741910323 : Int64))).toUInt64 >>> ((4 : Int32).toInt64.toUInt64 &&& Int64.toUInt64 63)).toInt64))]) rfl rfl ?_
  refine hs (f := dm_push 32 (.long 1085102592571150095)) rfl rfl ?_
  refine hs (f := dm_ll 33 (fun x y => x &&& y)) (st' := [.long (((((x - (((x.toUInt64 >>> ((1 : Int32).toInt64.toUInt64 &&& Int64.toUInt64 63)).toInt64) &&& (6148914691236517205 : Int64))) &&& (3689348814741910323 : Int64)) + ((((x - (((x.toUInt64 >>> ((1 : Int32).toInt64.toUInt64 &&& Int64.toUInt64 63)).toInt64) &&& (6148914691236517205 : Int64))).toUInt64 >>> ((2 : Int32).toInt64.toUInt64 &&& Int64.toUInt64 63)).toInt64) &&& (3689348814741910323 : Int64))) + (((((x - (((x.toUInt64 >>> ((1 : Int32).toInt64.toUInt64 &&& Int64.toUInt64 63)).toInt64) &&& (6148914691236517205 : Int64))) &&& (3689348814741910323 : Int64)) + ((((x - (((x.toUInt64 >>> ((1 : Int32).toInt64.toUInt64 &&& Int64.toUInt64 63)).toInt64) &&& (6148914691236517205 : Int64))).toUInt64 >>> ((2 : Int32).toInt64.toUInt64 &&& Int64.toUInt64 63)).toInt64) &&& (3689348814741910323 : Int64))).toUInt64 >>> ((4 : Int32).toInt64.toUInt64 &&& Int64.toUInt64 63)).toInt64)) &&& (1085102592571150095 : Int64))]) rfl rfl ?_
  refine hs (f := dm_lst 34 0) (lv' := [(0, .long (((((x - (((x.toUInt64 >>> ((1 : Int32).toInt64.toUInt64 &&& Int64.toUInt64 63)).toInt64) &&& (6148914691236517205 : Int64))) &&& (3689348814741910323 : Int64)) + ((((x - (((x.toUInt64 >>> ((1 : Int32).toInt64.toUInt64 &&& Int64.toUInt64 63)).toInt64) &&& (6148914691236517205 : Int64))).toUInt64 >>> ((2 : Int32).toInt64.toUInt64 &&& Int64.toUInt64 63)).toInt64) &&& (3689348814741910323 : Int64))) + (((((x - (((x.toUInt64 >>> ((1 : Int32).toInt64.toUInt64 &&& Int64.toUInt64 63)).toInt64) &&& (6148914691236517205 : Int64))) &&& (3689348814741910323 : Int64)) + ((((x - (((x.toUInt64 >>> ((1 : Int32).toInt64.toUInt64 &&& Int64.toUInt64 63)).toInt64) &&& (6148914691236517205 : Int64))).toUInt64 >>> ((2 : Int32).toInt64.toUInt64 &&& Int64.toUInt64 63)).toInt64) &&& (3689348814741910323 : Int64))).toUInt64 >>> ((4 : Int32).toInt64.toUInt64 &&& Int64.toUInt64 63)).toInt64)) &&& (1085102592571150095 : Int64)))]) rfl rfl ?_
  refine hs (f := dm_lld 35 0) rfl rfl ?_
  refine hs (f := dm_lld 36 0) rfl rfl ?_
  refine hs (f := dm_push 38 (.int 8)) rfl rfl ?_
  refine hs (f := dm_li 39 (fun x y => (x.toUInt64 >>> (y.toInt64.toUInt64 &&& Int64.toUInt64 63)).toInt64)) (st' := [.long (((((((x - (((x.toUInt64 >>> ((1 : Int32).toInt64.toUInt64 &&& Int64.toUInt64 63)).toInt64) &&& (6148914691236517205 : Int64))) &&& (3689348814741910323 : Int64)) + ((((x - (((x.toUInt64 >>> ((1 : Int32).toInt64.toUInt64 &&& Int64.toUInt64 63)).toInt64) &&& (6148914691236517205 : Int64))).toUInt64 >>> ((2 : Int32).toInt64.toUInt64 &&& Int64.toUInt64 63)).toInt64) &&& (3689348814741910323 : Int64))) + (((((x - (((x.toUInt64 >>> ((1 : Int32).toInt64.toUInt64 &&& Int64.toUInt64 63)).toInt64) &&& (6148914691236517205 : Int64))) &&& (3689348814741910323 : Int64)) + ((((x - (((x.toUInt64 >>> ((1 : Int32).toInt64.toUInt64 &&& Int64.toUInt64 63)).toInt64) &&& (6148914691236517205 : Int64))).toUInt64 >>> ((2 : Int32).toInt64.toUInt64 &&& Int64.toUInt64 63)).toInt64) &&& (3689348814741910323 : Int64))).toUInt64 >>> ((4 : Int32).toInt64.toUInt64 &&& Int64.toUInt64 63)).toInt64)) &&& (1085102592571150095 : Int64)).toUInt64 >>> ((8 : Int32).toInt64.toUInt64 &&& Int64.toUInt64 63)).toInt64), .long (((((x - (((x.toUInt64 >>> ((1 : Int32).toInt64.toUInt64 &&& Int64.toUInt64 63)).toInt64) &&& (6148914691236517205 : Int64))) &&& (3689348814741910323 : Int64)) + ((((x - (((x.toUInt64 >>> ((1 : Int32).toInt64.toUInt64 &&& Int64.toUInt64 63)).toInt64) &&& (6148914691236517205 : Int64))).toUInt64 >>> ((2 : Int32).toInt64.toUInt64 &&& Int64.toUInt64 63)).toInt64) &&& (3689348814741910323 : Int64))) + (((((x - (((x.toUInt64 >>> ((1 : Int32).toInt64.toUInt64 &&& Int64.toUInt64 63)).toInt64) &&& (6148914691236517205 : Int64))) &&& (3689348814741910323 : Int64)) + ((((x - (((x.toUInt64 >>> ((1 : Int32).toInt64.toUInt64 &&& Int64.toUInt64 63)).toInt64) &&& (6148914691236517205 : Int64))).toUInt64 >>> ((2 : Int32).toInt64.toUInt64 &&& Int64.toUInt64 63)).toInt64) &&& (3689348814741910323 : Int64))).toUInt64 >>> ((4 : Int32).toInt64.toUInt64 &&& Int64.toUInt64 63)).toInt64)) &&& (1085102592571150095 : Int64))]) rfl rfl ?_
  refine hs (f := dm_ll 40 (fun x y => x + y)) (st' := [.long ((((((x - (((x.toUInt64 >>> ((1 : Int32).toInt64.toUInt64 &&& Int64.toUInt64 63)).toInt64) &&& (6148914691236517205 : Int64))) &&& (3689348814741910323 : Int64)) + ((((x - (((x.toUInt64 >>> ((1 : Int32).toInt64.toUInt64 &&& Int64.toUInt64 63)).toInt64) &&& (6148914691236517205 : Int64))).toUInt64 >>> ((2 : Int32).toInt64.toUInt64 &&& Int64.toUInt64 63)).toInt64) &&& (3689348814741910323 : Int64))) + (((((x - (((x.toUInt64 >>> ((1 : Int32).toInt64.toUInt64 &&& Int64.toUInt64 63)).toInt64) &&& (6148914691236517205 : Int64))) &&& (3689348814741910323 : Int64)) + ((((x - (((x.toUInt64 >>> ((1 : Int32).toInt64.toUInt64 &&& Int64.toUInt64 63)).toInt64) &&& (6148914691236517205 : Int64))).toUInt64 >>> ((2 : Int32).toInt64.toUInt64 &&& Int64.toUInt64 63)).toInt64) &&& (3689348814741910323 : Int64))).toUInt64 >>> ((4 : Int32).toInt64.toUInt64 &&& Int64.toUInt64 63)).toInt64)) &&& (1085102592571150095 : Int64)) + (((((((x - (((x.toUInt64 >>> ((1 : Int32).toInt64.toUInt64 &&& Int64.toUInt64 63)).toInt64) &&& (6148914691236517205 : Int64))) &&& (3689348814741910323 : Int64)) + ((((x - (((x.toUInt64 >>> ((1 : Int32).toInt64.toUInt64 &&& Int64.toUInt64 63)).toInt64) &&& (6148914691236517205 : Int64))).toUInt64 >>> ((2 : Int32).toInt64.toUInt64 &&& Int64.toUInt64 63)).toInt64) &&& (3689348814741910323 : Int64))) + (((((x - (((x.toUInt64 >>> ((1 : Int32).toInt64.toUInt64 &&& Int64.toUInt64 63)).toInt64) &&& (6148914691236517205 : Int64))) &&& (3689348814741910323 : Int64)) + ((((x - (((x.toUInt64 >>> ((1 : Int32).toInt64.toUInt64 &&& Int64.toUInt64 63)).toInt64) &&& (6148914691236517205 : Int64))).toUInt64 >>> ((2 : Int32).toInt64.toUInt64 &&& Int64.toUInt64 63)).toInt64) &&& (3689348814741910323 : Int64))).toUInt64 >>> ((4 : Int32).toInt64.toUInt64 &&& Int64.toUInt64 63)).toInt64)) &&& (1085102592571150095 : Int64)).toUInt64 >>> ((8 : Int32).toInt64.toUInt64 &&& Int64.toUInt64 63)).toInt64))]) rfl rfl ?_
  refine hs (f := dm_lst 41 0) (lv' := [(0, .long ((((((x - (((x.toUInt64 >>> ((1 : Int32).toInt64.toUInt64 &&& Int64.toUInt64 63)).toInt64) &&& (6148914691236517205 : Int64))) &&& (3689348814741910323 : Int64)) + ((((x - (((x.toUInt64 >>> ((1 : Int32).toInt64.toUInt64 &&& Int64.toUInt64 63)).toInt64) &&& (6148914691236517205 : Int64))).toUInt64 >>> ((2 : Int32).toInt64.toUInt64 &&& Int64.toUInt64 63)).toInt64) &&& (3689348814741910323 : Int64))) + (((((x - (((x.toUInt64 >>> ((1 : Int32).toInt64.toUInt64 &&& Int64.toUInt64 63)).toInt64) &&& (6148914691236517205 : Int64))) &&& (3689348814741910323 : Int64)) + ((((x - (((x.toUInt64 >>> ((1 : Int32).toInt64.toUInt64 &&& Int64.toUInt64 63)).toInt64) &&& (6148914691236517205 : Int64))).toUInt64 >>> ((2 : Int32).toInt64.toUInt64 &&& Int64.toUInt64 63)).toInt64) &&& (3689348814741910323 : Int64))).toUInt64 >>> ((4 : Int32).toInt64.toUInt64 &&& Int64.toUInt64 63)).toInt64)) &&& (1085102592571150095 : Int64)) + (((((((x - (((x.toUInt64 >>> ((1 : Int32).toInt64.toUInt64 &&& Int64.toUInt64 63)).toInt64) &&& (6148914691236517205 : Int64))) &&& (3689348814741910323 : Int64)) + ((((x - (((x.toUInt64 >>> ((1 : Int32).toInt64.toUInt64 &&& Int64.toUInt64 63)).toInt64) &&& (6148914691236517205 : Int64))).toUInt64 >>> ((2 : Int32).toInt64.toUInt64 &&& Int64.toUInt64 63)).toInt64) &&& (3689348814741910323 : Int64))) + (((((x - (((x.toUInt64 >>> ((1 : Int32).toInt64.toUInt64 &&& Int64.toUInt64 63)).toInt64) &&& (6148914691236517205 : Int64))) &&& (3689348814741910323 : Int64)) + ((((x - (((x.toUInt64 >>> ((1 : Int32).toInt64.toUInt64 &&& Int64.toUInt64 63)).toInt64) &&& (6148914691236517205 : Int64))).toUInt64 >>> ((2 : Int32).toInt64.toUInt64 &&& Int64.toUInt64 63)).toInt64) &&& (3689348814741910323 : Int64))).toUInt64 >>> ((4 : Int32).toInt64.toUInt64 &&& Int64.toUInt64 63)).toInt64)) &&& (1085102592571150095 : Int64)).toUInt64 >>> ((8 : Int32).toInt64.toUInt64 &&& Int64.toUInt64 63)).toInt64)))]) rfl rfl ?_
  refine hs (f := dm_lld 42 0) rfl rfl ?_
  refine hs (f := dm_lld 43 0) rfl rfl ?_
  refine hs (f := dm_push 45 (.int 16)) rfl rfl ?_
  refine hs (f := dm_li 46 (fun x y => (x.toUInt64 >>> (y.toInt64.toUInt64 &&& Int64.toUInt64 63)).toInt64)) (st' := [.long ((((((((x - (((x.toUInt64 >>> ((1 : Int32).toInt64.toUInt64 &&& Int64.toUInt64 63)).toInt64) &&& (6148914691236517205 : Int64))) &&& (3689348814741910323 : Int64)) + ((((x - (((x.toUInt64 >>> ((1 : Int32).toInt64.toUInt64 &&& Int64.toUInt64 63)).toInt64) &&& (6148914691236517205 : Int64))).toUInt64 >>> ((2 : Int32).toInt64.toUInt64 &&& Int64.toUInt64 63)).toInt64) &&& (3689348814741910323 : Int64))) + (((((x - (((x.toUInt64 >>> ((1 : Int32).toInt64.toUInt64 &&& Int64.toUInt64 63)).toInt64) &&& (6148914691236517205 : Int64))) &&& (3689348814741910323 : Int64)) + ((((x - (((x.toUInt64 >>> ((1 : Int32).toInt64.toUInt64 &&& Int64.toUInt64 63)).toInt64) &&& (6148914691236517205 : Int64))).toUInt64 >>> ((2 : Int32).toInt64.toUInt64 &&& Int64.toUInt64 63)).toInt64) &&& (3689348814741910323 : Int64))).toUInt64 >>> ((4 : Int32).toInt64.toUInt64 &&& Int64.toUInt64 63)).toInt64)) &&& (1085102592571150095 : Int64)) + (((((((x - (((x.toUInt64 >>> ((1 : Int32).toInt64.toUInt64 &&& Int64.toUInt64 63)).toInt64) &&& (6148914691236517205 : Int64))) &&& (3689348814741910323 : Int64)) + ((((x - (((x.toUInt64 >>> ((1 : Int32).toInt64.toUInt64 &&& Int64.toUInt64 63)).toInt64) &&& (6148914691236517205 : Int64))).toUInt64 >>> ((2 : Int32).toInt64.toUInt64 &&& Int64.toUInt64 63)).toInt64) &&& (3689348814741910323 : Int64))) + (((((x - (((x.toUInt64 >>> ((1 : Int32).toInt64.toUInt64 &&& Int64.toUInt64 63)).toInt64) &&& (6148914691236517205 : Int64))) &&& (3689348814741910323 : Int64)) + ((((x - (((x.toUInt64 >>> ((1 : Int32).toInt64.toUInt64 &&& Int64.toUInt64 63)).toInt64) &&& (6148914691236517205 : Int64))).toUInt64 >>> ((2 : Int32).toInt64.toUInt64 &&& Int64.toUInt64 63)).toInt64) &&& (3689348814741910323 : Int64))).toUInt64 >>> ((4 : Int32).toInt64.toUInt64 &&& Int64.toUInt64 63)).toInt64)) &&& (1085102592571150095 : Int64)).toUInt64 >>> ((8 : Int32).toInt64.toUInt64 &&& Int64.toUInt64 63)).toInt64)).toUInt64 >>> ((16 : Int32).toInt64.toUInt64 &&& Int64.toUInt64 63)).toInt64), .long ((((((x - (((x.toUInt64 >>> ((1 : Int32).toInt64.toUInt64 &&& Int64.toUInt64 63)).toInt64) &&& (6148914691236517205 : Int64))) &&& (3689348814741910323 : Int64)) + ((((x - (((x.toUInt64 >>> ((1 : Int32).toInt64.toUInt64 &&& Int64.toUInt64 63)).toInt64) &&& (6148914691236517205 : Int64))).toUInt64 >>> ((2 : Int32).toInt64.toUInt64 &&& Int64.toUInt64 63)).toInt64) &&& (3689348814741910323 : Int64))) + (((((x - (((x.toUInt64 >>> ((1 : Int32).toInt64.toUInt64 &&& Int64.toUInt64 63)).toInt64) &&& (6148914691236517205 : Int64))) &&& (3689348814741910323 : Int64)) + ((((x - (((x.toUInt64 >>> ((1 : Int32).toInt64.toUInt64 &&& Int64.toUInt64 63)).toInt64) &&& (6148914691236517205 : Int64))).toUInt64 >>> ((2 : Int32).toInt64.toUInt64 &&& Int64.toUInt64 63)).toInt64) &&& (3689348814741910323 : Int64))).toUInt64 >>> ((4 : Int32).toInt64.toUInt64 &&& Int64.toUInt64 63)).toInt64)) &&& (1085102592571150095 : Int64)) + (((((((x - (((x.toUInt64 >>> ((1 : Int32).toInt64.toUInt64 &&& Int64.toUInt64 63)).toInt64) &&& (6148914691236517205 : Int64))) &&& (3689348814741910323 : Int64)) + ((((x - (((x.toUInt64 >>> ((1 : Int32).toInt64.toUInt64 &&& Int64.toUInt64 63)).toInt64) &&& (6148914691236517205 : Int64))).toUInt64 >>> ((2 : Int32).toInt64.toUInt64 &&& Int64.toUInt64 63)).toInt64) &&& (3689348814741910323 : Int64))) + (((((x - (((x.toUInt64 >>> ((1 : Int32).toInt64.toUInt64 &&& Int64.toUInt64 63)).toInt64) &&& (6148914691236517205 : Int64))) &&& (3689348814741910323 : Int64)) + ((((x - (((x.toUInt64 >>> ((1 : Int32).toInt64.toUInt64 &&& Int64.toUInt64 63)).toInt64) &&& (6148914691236517205 : Int64))).toUInt64 >>> ((2 : Int32).toInt64.toUInt64 &&& Int64.toUInt64 63)).toInt64) &&& (3689348814741910323 : Int64))).toUInt64 >>> ((4 : Int32).toInt64.toUInt64 &&& Int64.toUInt64 63)).toInt64)) &&& (1085102592571150095 : Int64)).toUInt64 >>> ((8 : Int32).toInt64.toUInt64 &&& Int64.toUInt64 63)).toInt64))]) rfl rfl ?_
  refine hs (f := dm_ll 47 (fun x y => x + y)) (st' := [.long (((((((x - (((x.toUInt64 >>> ((1 : Int32).toInt64.toUInt64 &&& Int64.toUInt64 63)).toInt64) &&& (6148914691236517205 : Int64))) &&& (3689348814741910323 : Int64)) + ((((x - (((x.toUInt64 >>> ((1 : Int32).toInt64.toUInt64 &&& Int64.toUInt64 63)).toInt64) &&& (6148914691236517205 : Int64))).toUInt64 >>> ((2 : Int32).toInt64.toUInt64 &&& Int64.toUInt64 63)).toInt64) &&& (3689348814741910323 : Int64))) + (((((x - (((x.toUInt64 >>> ((1 : Int32).toInt64.toUInt64 &&& Int64.toUInt64 63)).toInt64) &&& (6148914691236517205 : Int64))) &&& (3689348814741910323 : Int64)) + ((((x - (((x.toUInt64 >>> ((1 : Int32).toInt64.toUInt64 &&& Int64.toUInt64 63)).toInt64) &&& (6148914691236517205 : Int64))).toUInt64 >>> ((2 : Int32).toInt64.toUInt64 &&& Int64.toUInt64 63)).toInt64) &&& (3689348814741910323 : Int64))).toUInt64 >>> ((4 : Int32).toInt64.toUInt64 &&& Int64.toUInt64 63)).toInt64)) &&& (1085102592571150095 : Int64)) + (((((((x - (((x.toUInt64 >>> ((1 : Int32).toInt64.toUInt64 &&& Int64.toUInt64 63)).toInt64) &&& (6148914691236517205 : Int64))) &&& (3689348814741910323 : Int64)) + ((((x - (((x.toUInt64 >>> ((1 : Int32).toInt64.toUInt64 &&& Int64.toUInt64 63)).toInt64) &&& (6148914691236517205 : Int64))).toUInt64 >>> ((2 : Int32).toInt64.toUInt64 &&& Int64.toUInt64 63)).toInt64) &&& (3689348814741910323 : Int64))) + (((((x - (((x.toUInt64 >>> ((1 : Int32).toInt64.toUInt64 &&& Int64.toUInt64 63)).toInt64) &&& (6148914691236517205 : Int64))) &&& (3689348814741910323 : Int64)) + ((((x - (((x.toUInt64 >>> ((1 : Int32).toInt64.toUInt64 &&& Int64.toUInt64 63)).toInt64) &&& (6148914691236517205 : Int64))).toUInt64 >>> ((2 : Int32).toInt64.toUInt64 &&& Int64.toUInt64 63)).toInt64) &&& (3689348814741910323 : Int64))).toUInt64 >>> ((4 : Int32).toInt64.toUInt64 &&& Int64.toUInt64 63)).toInt64)) &&& (1085102592571150095 : Int64)).toUInt64 >>> ((8 : Int32).toInt64.toUInt64 &&& Int64.toUInt64 63)).toInt64)) + ((((((((x - (((x.toUInt64 >>> ((1 : Int32).toInt64.toUInt64 &&& Int64.toUInt64 63)).toInt64) &&& (6148914691236517205 : Int64))) &&& (3689348814741910323 : Int64)) + ((((x - (((x.toUInt64 >>> ((1 : Int32).toInt64.toUInt64 &&& Int64.toUInt64 63)).toInt64) &&& (6148914691236517205 : Int64))).toUInt64 >>> ((2 : Int32).toInt64.toUInt64 &&& Int64.toUInt64 63)).toInt64) &&& (3689348814741910323 : Int64))) + (((((x - (((x.toUInt64 >>> ((1 : Int32).toInt64.toUInt64 &&& Int64.toUInt64 63)).toInt64) &&& (6148914691236517205 : Int64))) &&& (3689348814741910323 : Int64)) + ((((x - (((x.toUInt64 >>> ((1 : Int32).toInt64.toUInt64 &&& Int64.toUInt64 63)).toInt64) &&& (6148914691236517205 : Int64))).toUInt64 >>> ((2 : Int32).toInt64.toUInt64 &&& Int64.toUInt64 63)).toInt64) &&& (3689348814741910323 : Int64))).toUInt64 >>> ((4 : Int32).toInt64.toUInt64 &&& Int64.toUInt64 63)).toInt64)) &&& (1085102592571150095 : Int64)) + (((((((x - (((x.toUInt64 >>> ((1 : Int32).toInt64.toUInt64 &&& Int64.toUInt64 63)).toInt64) &&& (6148914691236517205 : Int64))) &&& (3689348814741910323 : Int64)) + ((((x - (((x.toUInt64 >>> ((1 : Int32).toInt64.toUInt64 &&& Int64.toUInt64 63)).toInt64) &&& (6148914691236517205 : Int64))).toUInt64 >>> ((2 : Int32).toInt64.toUInt64 &&& Int64.toUInt64 63)).toInt64) &&& (3689348814741910323 : Int64))) + (((((x - (((x.toUInt64 >>> ((1 : Int32).toInt64.toUInt64 &&& Int64.toUInt64 63)).toInt64) &&& (6148914691236517205 : Int64))) &&& (3689348814741910323 : Int64)) + ((((x - (((x.toUInt64 >>> ((1 : Int32).toInt64.toUInt64 &&& Int64.toUInt64 63)).toInt64) &&& (6148914691236517205 : Int64))).toUInt64 >>> ((2 : Int32).toInt64.toUInt64 &&& Int64.toUInt64 63)).toInt64) &&& (3689348814741910323 : Int64))).toUInt64 >>> ((4 : Int32).toInt64.toUInt64 &&& Int64.toUInt64 63)).toInt64)) &&& (1085102592571150095 : Int64)).toUInt64 >>> ((8 : Int32).toInt64.toUInt64 &&& Int64.toUInt64 63)).toInt64)).toUInt64 >>> ((16 : Int32).toInt64.toUInt64 &&& Int64.toUInt64 63)).toInt64))]) rfl rfl ?_
  refine hs (f := dm_lst 48 0) (lv' := [(0, .long (((((((x - (((x.toUInt64 >>> ((1 : Int32).toInt64.toUInt64 &&& Int64.toUInt64 63)).toInt64) &&& (6148914691236517205 : Int64))) &&& (3689348814741910323 : Int64)) + ((((x - (((x.toUInt64 >>> ((1 : Int32).toInt64.toUInt64 &&& Int64.toUInt64 63)).toInt64) &&& (6148914691236517205 : Int64))).toUInt64 >>> ((2 : Int32).toInt64.toUInt64 &&& Int64.toUInt64 63)).toInt64) &&& (3689348814741910323 : Int64))) + (((((x - (((x.toUInt64 >>> ((1 : Int32).toInt64.toUInt64 &&& Int64.toUInt64 63)).toInt64) &&& (6148914691236517205 : Int64))) &&& (3689348814741910323 : Int64)) + ((((x - (((x.toUInt64 >>> ((1 : Int32).toInt64.toUInt64 &&& Int64.toUInt64 63)).toInt64) &&& (6148914691236517205 : Int64))).toUInt64 >>> ((2 : Int32).toInt64.toUInt64 &&& Int64.toUInt64 63)).toInt64) &&& (3689348814741910323 : Int64))).toUInt64 >>> ((4 : Int32).toInt64.toUInt64 &&& Int64.toUInt64 63)).toInt64)) &&& (1085102592571150095 : Int64)) + (((((((x - (((x.toUInt64 >>> ((1 : Int32).toInt64.toUInt64 &&& Int64.toUInt64 63)).toInt64) &&& (6148914691236517205 : Int64))) &&& (3689348814741910323 : Int64)) + ((((x - (((x.toUInt64 >>> ((1 : Int32).toInt64.toUInt64 &&& Int64.toUInt64 63)).toInt64) &&& (6148914691236517205 : Int64))).toUInt64 >>> ((2 : Int32).toInt64.toUInt64 &&& Int64.toUInt64 63)).toInt64) &&& (3689348814741910323 : Int64))) + (((((x - (((x.toUInt64 >>> ((1 : Int32).toInt64.toUInt64 &&& Int64.toUInt64 63)).toInt64) &&& (6148914691236517205 : Int64))) &&& (3689348814741910323 : Int64)) + ((((x - (((x.toUInt64 >>> ((1 : Int32).toInt64.toUInt64 &&& Int64.toUInt64 63)).toInt64) &&& (6148914691236517205 : Int64))).toUInt64 >>> ((2 : Int32).toInt64.toUInt64 &&& Int64.toUInt64 63)).toInt64) &&& (3689348814741910323 : Int64))).toUInt64 >>> ((4 : Int32).toInt64.toUInt64 &&& Int64.toUInt64 63)).toInt64)) &&& (1085102592571150095 : Int64)).toUInt64 >>> ((8 : Int32).toInt64.toUInt64 &&& Int64.toUInt64 63)).toInt64)) + ((((((((x - (((x.toUInt64 >>> ((1 : Int32).toInt64.toUInt64 &&& Int64.toUInt64 63)).toInt64) &&& (6148914691236517205 : Int64))) &&& (3689348814741910323 : Int64)) + ((((x - (((x.toUInt64 >>> ((1 : Int32).toInt64.toUInt64 &&& Int64.toUInt64 63)).toInt64) &&& (6148914691236517205 : Int64))).toUInt64 >>> ((2 : Int32).toInt64.toUInt64 &&& Int64.toUInt64 63)).toInt64) &&& (3689348814741910323 : Int64))) + (((((x - (((x.toUInt64 >>> ((1 : Int32).toInt64.toUInt64 &&& Int64.toUInt64 63)).toInt64) &&& (6148914691236517205 : Int64))) &&& (3689348814741910323 : Int64)) + ((((x - (((x.toUInt64 >>> ((1 : Int32).toInt64.toUInt64 &&& Int64.toUInt64 63)).toInt64) &&& (6148914691236517205 : Int64))).toUInt64 >>> ((2 : Int32).toInt64.toUInt64 &&& Int64.toUInt64 63)).toInt64) &&& (3689348814741910323 : Int64))).toUInt64 >>> ((4 : Int32).toInt64.toUInt64 &&& Int64.toUInt64 63)).toInt64)) &&& (1085102592571150095 : Int64)) + (((((((x - (((x.toUInt64 >>> ((1 : Int32).toInt64.toUInt64 &&& Int64.toUInt64 63)).toInt64) &&& (6148914691236517205 : Int64))) &&& (3689348814741910323 : Int64)) + ((((x - (((x.toUInt64 >>> ((1 : Int32).toInt64.toUInt64 &&& Int64.toUInt64 63)).toInt64) &&& (6148914691236517205 : Int64))).toUInt64 >>> ((2 : Int32).toInt64.toUInt64 &&& Int64.toUInt64 63)).toInt64) &&& (3689348814741910323 : Int64))) + (((((x - (((x.toUInt64 >>> ((1 : Int32).toInt64.toUInt64 &&& Int64.toUInt64 63)).toInt64) &&& (6148914691236517205 : Int64))) &&& (3689348814741910323 : Int64)) + ((((x - (((x.toUInt64 >>> ((1 : Int32).toInt64.toUInt64 &&& Int64.toUInt64 63)).toInt64) &&& (6148914691236517205 : Int64))).toUInt64 >>> ((2 : Int32).toInt64.toUInt64 &&& Int64.toUInt64 63)).toInt64) &&& (3689348814741910323 : Int64))).toUInt64 >>> ((4 : Int32).toInt64.toUInt64 &&& Int64.toUInt64 63)).toInt64)) &&& (1085102592571150095 : Int64)).toUInt64 >>> ((8 : Int32).toInt64.toUInt64 &&& Int64.toUInt64 63)).toInt64)).toUInt64 >>> ((16 : Int32).toInt64.toUInt64 &&& Int64.toUInt64 63)).toInt64)))]) rfl rfl ?_
  refine hs (f := dm_lld 49 0) rfl rfl ?_
  refine hs (f := dm_lld 50 0) rfl rfl ?_
  refine hs (f := dm_push 52 (.int 32)) rfl rfl ?_
  refine hs (f := dm_li 53 (fun x y => (x.toUInt64 >>> (y.toInt64.toUInt64 &&& Int64.toUInt64 63)).toInt64)) (st' := [.long (((((((((x - (((x.toUInt64 >>> ((1 : Int32).toInt64.toUInt64 &&& Int64.toUInt64 63)).toInt64) &&& (6148914691236517205 : Int64))) &&& (3689348814741910323 : Int64)) + ((((x - (((x.toUInt64 >>> ((1 : Int32).toInt64.toUInt64 &&& Int64.toUInt64 63)).toInt64) &&& (6148914691236517205 : Int64))).toUInt64 >>> ((2 : Int32).toInt64.toUInt64 &&& Int64.toUInt64 63)).toInt64) &&& (3689348814741910323 : Int64))) + (((((x - (((x.toUInt64 >>> ((1 : Int32).toInt64.toUInt64 &&& Int64.toUInt64 63)).toInt64) &&& (6148914691236517205 : Int64))) &&& (3689348814741910323 : Int64)) + ((((x - (((x.toUInt64 >>> ((1 : Int32).toInt64.toUInt64 &&& Int64.toUInt64 63)).toInt64) &&& (6148914691236517205 : Int64))).toUInt64 >>> ((2 : Int32).toInt64.toUInt64 &&& Int64.toUInt64 63)).toInt64) &&& (3689348814741910323 : Int64))).toUInt64 >>> ((4 : Int32).toInt64.toUInt64 &&& Int64.toUInt64 63)).toInt64)) &&& (1085102592571150095 : Int64)) + (((((((x - (((x.toUInt64 >>> ((1 : Int32).toInt64.toUInt64 &&& Int64.toUInt64 63)).toInt64) &&& (6148914691236517205 : Int64))) &&& (3689348814741910323 : Int64)) + ((((x - (((x.toUInt64 >>> ((1 : Int32).toInt64.toUInt64 &&& Int64.toUInt64 63)).toInt64) &&& (6148914691236517205 : Int64))).toUInt64 >>> ((2 : Int32).toInt64.toUInt64 &&& Int64.toUInt64 63)).toInt64) &&& (3689348814741910323 : Int64))) + (((((x - (((x.toUInt64 >>> ((1 : Int32).toInt64.toUInt64 &&& Int64.toUInt64 63)).toInt64) &&& (6148914691236517205 : Int64))) &&& (3689348814741910323 : Int64)) + ((((x - (((x.toUInt64 >>> ((1 : Int32).toInt64.toUInt64 &&& Int64.toUInt64 63)).toInt64) &&& (6148914691236517205 : Int64))).toUInt64 >>> ((2 : Int32).toInt64.toUInt64 &&& Int64.toUInt64 63)).toInt64) &&& (3689348814741910323 : Int64))).toUInt64 >>> ((4 : Int32).toInt64.toUInt64 &&& Int64.toUInt64 63)).toInt64)) &&& (1085102592571150095 : Int64)).toUInt64 >>> ((8 : Int32).toInt64.toUInt64 &&& Int64.toUInt64 63)).toInt64)) + ((((((((x - (((x.toUInt64 >>> ((1 : Int32).toInt64.toUInt64 &&& Int64.toUInt64 63)).toInt64) &&& (6148914691236517205 : Int64))) &&& (3689348814741910323 : Int64)) + ((((x - (((x.toUInt64 >>> ((1 : Int32).toInt64.toUInt64 &&& Int64.toUInt64 63)).toInt64) &&& (6148914691236517205 : Int64))).toUInt64 >>> ((2 : Int32).toInt64.toUInt64 &&& Int64.toUInt64 63)).toInt64) &&& (3689348814741910323 : Int64))) + (((((x - (((x.toUInt64 >>> ((1 : Int32).toInt64.toUInt64 &&& Int64.toUInt64 63)).toInt64) &&& (6148914691236517205 : Int64))) &&& (3689348814741910323 : Int64)) + ((((x - (((x.toUInt64 >>> ((1 : Int32).toInt64.toUInt64 &&& Int64.toUInt64 63)).toInt64) &&& (6148914691236517205 : Int64))).toUInt64 >>> ((2 : Int32).toInt64.toUInt64 &&& Int64.toUInt64 63)).toInt64) &&& (3689348814741910323 : Int64))).toUInt64 >>> ((4 : Int32).toInt64.toUInt64 &&& Int64.toUInt64 63)).toInt64)) &&& (1085102592571150095 : Int64)) + (((((((x - (((x.toUInt64 >>> ((1 : Int32).toInt64.toUInt64 &&& Int64.toUInt64 63)).toInt64) &&& (6148914691236517205 : Int64))) &&& (3689348814741910323 : Int64)) + ((((x - (((x.toUInt64 >>> ((1 : Int32).toInt64.toUInt64 &&& Int64.toUInt64 63)).toInt64) &&& (6148914691236517205 : Int64))).toUInt64 >>> ((2 : Int32).toInt64.toUInt64 &&& Int64.toUInt64 63)).toInt64) &&& (3689348814741910323 : Int64))) + (((((x - (((x.toUInt64 >>> ((1 : Int32).toInt64.toUInt64 &&& Int64.toUInt64 63)).toInt64) &&& (6148914691236517205 : Int64))) &&& (3689348814741910323 : Int64)) + ((((x - (((x.toUInt64 >>> ((1 : Int32).toInt64.toUInt64 &&& Int64.toUInt64 63)).toInt64) &&& (6148914691236517205 : Int64))).toUInt64 >>> ((2 : Int32).toInt64.toUInt64 &&& Int64.toUInt64 63)).toInt64) &&& (3689348814741910323 : Int64))).toUInt64 >>> ((4 : Int32).toInt64.toUInt64 &&& Int64.toUInt64 63)).toInt64)) &&& (1085102592571150095 : Int64)).toUInt64 >>> ((8 : Int32).toInt64.toUInt64 &&& Int64.toUInt64 63)).toInt64)).toUInt64 >>> ((16 : Int32).toInt64.toUInt64 &&& Int64.toUInt64 63)).toInt64)).toUInt64 >>> ((32 : Int32).toInt64.toUInt64 &&& Int64.toUInt64 63)).toInt64), .long (((((((x - (((x.toUInt64 >>> ((1 : Int32).toInt64.toUInt64 &&& Int64.toUInt64 63)).toInt64) &&& (6148914691236517205 : Int64))) &&& (3689348814741910323 : Int64)) + ((((x - (((x.toUInt64 >>> ((1 : Int32).toInt64.toUInt64 &&& Int64.toUInt64 63)).toInt64) &&& (6148914691236517205 : Int64))).toUInt64 >>> ((2 : Int32).toInt64.toUInt64 &&& Int64.toUInt64 63)).toInt64) &&& (3689348814741910323 : Int64))) + (((((x - (((x.toUInt64 >>> ((1 : Int32).toInt64.toUInt64 &&& Int64.toUInt64 63)).toInt64) &&& (6148914691236517205 : Int64))) &&& (3689348814741910323 : Int64)) + ((((x - (((x.toUInt64 >>> ((1 : Int32).toInt64.toUInt64 &&& Int64.toUInt64 63)).toInt64) &&& (6148914691236517205 : Int64))).toUInt64 >>> ((2 : Int32).toInt64.toUInt64 &&& Int64.toUInt64 63)).toInt64) &&& (3689348814741910323 : Int64))).toUInt64 >>> ((4 : Int32).toInt64.toUInt64 &&& Int64.toUInt64 63)).toInt64)) &&& (1085102592571150095 : Int64)) + (((((((x - (((x.toUInt64 >>> ((1 : Int32).toInt64.toUInt64 &&& Int64.toUInt64 63)).toInt64) &&& (6148914691236517205 : Int64))) &&& (3689348814741910323 : Int64)) + ((((x - (((x.toUInt64 >>> ((1 : Int32).toInt64.toUInt64 &&& Int64.toUInt64 63)).toInt64) &&& (6148914691236517205 : Int64))).toUInt64 >>> ((2 : Int32).toInt64.toUInt64 &&& Int64.toUInt64 63)).toInt64) &&& (3689348814741910323 : Int64))) + (((((x - (((x.toUInt64 >>> ((1 : Int32).toInt64.toUInt64 &&& Int64.toUInt64 63)).toInt64) &&& (6148914691236517205 : Int64))) &&& (3689348814741910323 : Int64)) + ((((x - (((x.toUInt64 >>> ((1 : Int32).toInt64.toUInt64 &&& Int64.toUInt64 63)).toInt64) &&& (6148914691236517205 : Int64))).toUInt64 >>> ((2 : Int32).toInt64.toUInt64 &&& Int64.toUInt64 63)).toInt64) &&& (3689348814741910323 : Int64))).toUInt64 >>> ((4 : Int32).toInt64.toUInt64 &&& Int64.toUInt64 63)).toInt64)) &&& (1085102592571150095 : Int64)).toUInt64 >>> ((8 : Int32).toInt64.toUInt64 &&& Int64.toUInt64 63)).toInt64)) + ((((((((x - (((x.toUInt64 >>> ((1 : Int32).toInt64.toUInt64 &&& Int64.toUInt64 63)).toInt64) &&& (6148914691236517205 : Int64))) &&& (3689348814741910323 : Int64)) + ((((x - (((x.toUInt64 >>> ((1 : Int32).toInt64.toUInt64 &&& Int64.toUInt64 63)).toInt64) &&& (6148914691236517205 : Int64))).toUInt64 >>> ((2 : Int32).toInt64.toUInt64 &&& Int64.toUInt64 63)).toInt64) &&& (3689348814741910323 : Int64))) + (((((x - (((x.toUInt64 >>> ((1 : Int32).toInt64.toUInt64 &&& Int64.toUInt64 63)).toInt64) &&& (6148914691236517205 : Int64))) &&& (3689348814741910323 : Int64)) + ((((x - (((x.toUInt64 >>> ((1 : Int32).toInt64.toUInt64 &&& Int64.toUInt64 63)).toInt64) &&& (6148914691236517205 : Int64))).toUInt64 >>> ((2 : Int32).toInt64.toUInt64 &&& Int64.toUInt64 63)).toInt64) &&& (3689348814741910323 : Int64))).toUInt64 >>> ((4 : Int32).toInt64.toUInt64 &&& Int64.toUInt64 63)).toInt64)) &&& (1085102592571150095 : Int64)) + (((((((x - (((x.toUInt64 >>> ((1 : Int32).toInt64.toUInt64 &&& Int64.toUInt64 63)).toInt64) &&& (6148914691236517205 : Int64))) &&& (3689348814741910323 : Int64)) + ((((x - (((x.toUInt64 >>> ((1 : Int32).toInt64.toUInt64 &&& Int64.toUInt64 63)).toInt64) &&& (6148914691236517205 : Int64))).toUInt64 >>> ((2 : Int32).toInt64.toUInt64 &&& Int64.toUInt64 63)).toInt64) &&& (3689348814741910323 : Int64))) + (((((x - (((x.toUInt64 >>> ((1 : Int32).toInt64.toUInt64 &&& Int64.toUInt64 63)).toInt64) &&& (6148914691236517205 : Int64))) &&& (3689348814741910323 : Int64)) + ((((x - (((x.toUInt64 >>> ((1 : Int32).toInt64.toUInt64 &&& Int64.toUInt64 63)).toInt64) &&& (6148914691236517205 : Int64))).toUInt64 >>> ((2 : Int32).toInt64.toUInt64 &&& Int64.toUInt64 63)).toInt64) &&& (3689348814741910323 : Int64))).toUInt64 >>> ((4 : Int32).toInt64.toUInt64 &&& Int64.toUInt64 63)).toInt64)) &&& (1085102592571150095 : Int64)).toUInt64 >>> ((8 : Int32).toInt64.toUInt64 &&& Int64.toUInt64 63)).toInt64)).toUInt64 >>> ((16 : Int32).toInt64.toUInt64 &&& Int64.toUInt64 63)).toInt64))]) rfl rfl ?_
  refine hs (f := dm_ll 54 (fun x y => x + y)) (st' := [.long ((((((((x - (((x.toUInt64 >>> ((1 : Int32).toInt64.toUInt64 &&& Int64.toUInt64 63)).toInt64) &&& (6148914691236517205 : Int64))) &&& (3689348814741910323 : Int64)) + ((((x - (((x.toUInt64 >>> ((1 : Int32).toInt64.toUInt64 &&& Int64.toUInt64 63)).toInt64) &&& (6148914691236517205 : Int64))).toUInt64 >>> ((2 : Int32).toInt64.toUInt64 &&& Int64.toUInt64 63)).toInt64) &&& (3689348814741910323 : Int64))) + (((((x - (((x.toUInt64 >>> ((1 : Int32).toInt64.toUInt64 &&& Int64.toUInt64 63)).toInt64) &&& (6148914691236517205 : Int64))) &&& (3689348814741910323 : Int64)) + ((((x - (((x.toUInt64 >>> ((1 : Int32).toInt64.toUInt64 &&& Int64.toUInt64 63)).toInt64) &&& (6148914691236517205 : Int64))).toUInt64 >>> ((2 : Int32).toInt64.toUInt64 &&& Int64.toUInt64 63)).toInt64) &&& (3689348814741910323 : Int64))).toUInt64 >>> ((4 : Int32).toInt64.toUInt64 &&& Int64.toUInt64 63)).toInt64)) &&& (1085102592571150095 : Int64)) + (((((((x - (((x.toUInt64 >>> ((1 : Int32).toInt64.toUInt64 &&& Int64.toUInt64 63)).toInt64) &&& (6148914691236517205 : Int64))) &&& (3689348814741910323 : Int64)) + ((((x - (((x.toUInt64 >>> ((1 : Int32).toInt64.toUInt64 &&& Int64.toUInt64 63)).toInt64) &&& (6148914691236517205 : Int64))).toUInt64 >>> ((2 : Int32).toInt64.toUInt64 &&& Int64.toUInt64 63)).toInt64) &&& (3689348814741910323 : Int64))) + (((((x - (((x.toUInt64 >>> ((1 : Int32).toInt64.toUInt64 &&& Int64.toUInt64 63)).toInt64) &&& (6148914691236517205 : Int64))) &&& (3689348814741910323 : Int64)) + ((((x - (((x.toUInt64 >>> ((1 : Int32).toInt64.toUInt64 &&& Int64.toUInt64 63)).toInt64) &&& (6148914691236517205 : Int64))).toUInt64 >>> ((2 : Int32).toInt64.toUInt64 &&& Int64.toUInt64 63)).toInt64) &&& (3689348814741910323 : Int64))).toUInt64 >>> ((4 : Int32).toInt64.toUInt64 &&& Int64.toUInt64 63)).toInt64)) &&& (1085102592571150095 : Int64)).toUInt64 >>> ((8 : Int32).toInt64.toUInt64 &&& Int64.toUInt64 63)).toInt64)) + ((((((((x - (((x.toUInt64 >>> ((1 : Int32).toInt64.toUInt64 &&& Int64.toUInt64 63)).toInt64) &&& (6148914691236517205 : Int64))) &&& (3689348814741910323 : Int64)) + ((((x - (((x.toUInt64 >>> ((1 : Int32).toInt64.toUInt64 &&& Int64.toUInt64 63)).toInt64) &&& (6148914691236517205 : Int64))).toUInt64 >>> ((2 : Int32).toInt64.toUInt64 &&& Int64.toUInt64 63)).toInt64) &&& (3689348814741910323 : Int64))) + (((((x - (((x.toUInt64 >>> ((1 : Int32).toInt64.toUInt64 &&& Int64.toUInt64 63)).toInt64) &&& (6148914691236517205 : Int64))) &&& (3689348814741910323 : Int64)) + ((((x - (((x.toUInt64 >>> ((1 : Int32).toInt64.toUInt64 &&& Int64.toUInt64 63)).toInt64) &&& (6148914691236517205 : Int64))).toUInt64 >>> ((2 : Int32).toInt64.toUInt64 &&& Int64.toUInt64 63)).toInt64) &&& (3689348814741910323 : Int64))).toUInt64 >>> ((4 : Int32).toInt64.toUInt64 &&& Int64.toUInt64 63)).toInt64)) &&& (1085102592571150095 : Int64)) + (((((((x - (((x.toUInt64 >>> ((1 : Int32).toInt64.toUInt64 &&& Int64.toUInt64 63)).toInt64) &&& (6148914691236517205 : Int64))) &&& (3689348814741910323 : Int64)) + ((((x - (((x.toUInt64 >>> ((1 : Int32).toInt64.toUInt64 &&& Int64.toUInt64 63)).toInt64) &&& (6148914691236517205 : Int64))).toUInt64 >>> ((2 : Int32).toInt64.toUInt64 &&& Int64.toUInt64 63)).toInt64) &&& (3689348814741910323 : Int64))) + (((((x - (((x.toUInt64 >>> ((1 : Int32).toInt64.toUInt64 &&& Int64.toUInt64 63)).toInt64) &&& (6148914691236517205 : Int64))) &&& (3689348814741910323 : Int64)) + ((((x - (((x.toUInt64 >>> ((1 : Int32).toInt64.toUInt64 &&& Int64.toUInt64 63)).toInt64) &&& (6148914691236517205 : Int64))).toUInt64 >>> ((2 : Int32).toInt64.toUInt64 &&& Int64.toUInt64 63)).toInt64) &&& (3689348814741910323 : Int64))).toUInt64 >>> ((4 : Int32).toInt64.toUInt64 &&& Int64.toUInt64 63)).toInt64)) &&& (1085102592571150095 : Int64)).toUInt64 >>> ((8 : Int32).toInt64.toUInt64 &&& Int64.toUInt64 63)).toInt64)).toUInt64 >>> ((16 : Int32).toInt64.toUInt64 &&& Int64.toUInt64 63)).toInt64)) + (((((((((x - (((x.toUInt64 >>> ((1 : Int32).toInt64.toUInt64 &&& Int64.toUInt64 63)).toInt64) &&& (6148914691236517205 : Int64))) &&& (3689348814741910323 : Int64)) + ((((x - (((x.toUInt64 >>> ((1 : Int32).toInt64.toUInt64 &&& Int64.toUInt64 63)).toInt64) &&& (6148914691236517205 : Int64))).toUInt64 >>> ((2 : Int32).toInt64.toUInt64 &&& Int64.toUInt64 63)).toInt64) &&& (3689348814741910323 : Int64))) + (((((x - (((x.toUInt64 >>> ((1 : Int32).toInt64.toUInt64 &&& Int64.toUInt64 63)).toInt64) &&& (6148914691236517205 : Int64))) &&& (3689348814741910323 : Int64)) + ((((x - (((x.toUInt64 >>> ((1 : Int32).toInt64.toUInt64 &&& Int64.toUInt64 63)).toInt64) &&& (6148914691236517205 : Int64))).toUInt64 >>> ((2 : Int32).toInt64.toUInt64 &&& Int64.toUInt64 63)).toInt64) &&& (3689348814741910323 : Int64))).toUInt64 >>> ((4 : Int32).toInt64.toUInt64 &&& Int64.toUInt64 63)).toInt64)) &&& (1085102592571150095 : Int64)) + (((((((x - (((x.toUInt64 >>> ((1 : Int32).toInt64.toUInt64 &&& Int64.toUInt64 63)).toInt64) &&& (6148914691236517205 : Int64))) &&& (3689348814741910323 : Int64)) + ((((x - (((x.toUInt64 >>> ((1 : Int32).toInt64.toUInt64 &&& Int64.toUInt64 63)).toInt64) &&& (6148914691236517205 : Int64))).toUInt64 >>> ((2 : Int32).toInt64.toUInt64 &&& Int64.toUInt64 63)).toInt64) &&& (3689348814741910323 : Int64))) + (((((x - (((x.toUInt64 >>> ((1 : Int32).toInt64.toUInt64 &&& Int64.toUInt64 63)).toInt64) &&& (6148914691236517205 : Int64))) &&& (3689348814741910323 : Int64)) + ((((x - (((x.toUInt64 >>> ((1 : Int32).toInt64.toUInt64 &&& Int64.toUInt64 63)).toInt64) &&& (6148914691236517205 : Int64))).toUInt64 >>> ((2 : Int32).toInt64.toUInt64 &&& Int64.toUInt64 63)).toInt64) &&& (3689348814741910323 : Int64))).toUInt64 >>> ((4 : Int32).toInt64.toUInt64 &&& Int64.toUInt64 63)).toInt64)) &&& (1085102592571150095 : Int64)).toUInt64 >>> ((8 : Int32).toInt64.toUInt64 &&& Int64.toUInt64 63)).toInt64)) + ((((((((x - (((x.toUInt64 >>> ((1 : Int32).toInt64.toUInt64 &&& Int64.toUInt64 63)).toInt64) &&& (6148914691236517205 : Int64))) &&& (3689348814741910323 : Int64)) + ((((x - (((x.toUInt64 >>> ((1 : Int32).toInt64.toUInt64 &&& Int64.toUInt64 63)).toInt64) &&& (6148914691236517205 : Int64))).toUInt64 >>> ((2 : Int32).toInt64.toUInt64 &&& Int64.toUInt64 63)).toInt64) &&& (3689348814741910323 : Int64))) + (((((x - (((x.toUInt64 >>> ((1 : Int32).toInt64.toUInt64 &&& Int64.toUInt64 63)).toInt64) &&& (6148914691236517205 : Int64))) &&& (3689348814741910323 : Int64)) + ((((x - (((x.toUInt64 >>> ((1 : Int32).toInt64.toUInt64 &&& Int64.toUInt64 63)).toInt64) &&& (6148914691236517205 : Int64))).toUInt64 >>> ((2 : Int32).toInt64.toUInt64 &&& Int64.toUInt64 63)).toInt64) &&& (3689348814741910323 : Int64))).toUInt64 >>> ((4 : Int32).toInt64.toUInt64 &&& Int64.toUInt64 63)).toInt64)) &&& (1085102592571150095 : Int64)) + (((((((x - (((x.toUInt64 >>> ((1 : Int32).toInt64.toUInt64 &&& Int64.toUInt64 63)).toInt64) &&& (6148914691236517205 : Int64))) &&& (3689348814741910323 : Int64)) + ((((x - (((x.toUInt64 >>> ((1 : Int32).toInt64.toUInt64 &&& Int64.toUInt64 63)).toInt64) &&& (6148914691236517205 : Int64))).toUInt64 >>> ((2 : Int32).toInt64.toUInt64 &&& Int64.toUInt64 63)).toInt64) &&& (3689348814741910323 : Int64))) + (((((x - (((x.toUInt64 >>> ((1 : Int32).toInt64.toUInt64 &&& Int64.toUInt64 63)).toInt64) &&& (6148914691236517205 : Int64))) &&& (3689348814741910323 : Int64)) + ((((x - (((x.toUInt64 >>> ((1 : Int32).toInt64.toUInt64 &&& Int64.toUInt64 63)).toInt64) &&& (6148914691236517205 : Int64))).toUInt64 >>> ((2 : Int32).toInt64.toUInt64 &&& Int64.toUInt64 63)).toInt64) &&& (3689348814741910323 : Int64))).toUInt64 >>> ((4 : Int32).toInt64.toUInt64 &&& Int64.toUInt64 63)).toInt64)) &&& (1085102592571150095 : Int64)).toUInt64 >>> ((8 : Int32).toInt64.toUInt64 &&& Int64.toUInt64 63)).toInt64)).toUInt64 >>> ((16 : Int32).toInt64.toUInt64 &&& Int64.toUInt64 63)).toInt64)).toUInt64 >>> ((32 : Int32).toInt64.toUInt64 &&& Int64.toUInt64 63)).toInt64))]) rfl rfl ?_
  refine hs (f := dm_lst 55 0) (lv' := [(0, .long ((((((((x - (((x.toUInt64 >>> ((1 : Int32).toInt64.toUInt64 &&& Int64.toUInt64 63)).toInt64) &&& (6148914691236517205 : Int64))) &&& (3689348814741910323 : Int64)) + ((((x - (((x.toUInt64 >>> ((1 : Int32).toInt64.toUInt64 &&& Int64.toUInt64 63)).toInt64) &&& (6148914691236517205 : Int64))).toUInt64 >>> ((2 : Int32).toInt64.toUInt64 &&& Int64.toUInt64 63)).toInt64) &&& (3689348814741910323 : Int64))) + (((((x - (((x.toUInt64 >>> ((1 : Int32).toInt64.toUInt64 &&& Int64.toUInt64 63)).toInt64) &&& (6148914691236517205 : Int64))) &&& (3689348814741910323 : Int64)) + ((((x - (((x.toUInt64 >>> ((1 : Int32).toInt64.toUInt64 &&& Int64.toUInt64 63)).toInt64) &&& (6148914691236517205 : Int64))).toUInt64 >>> ((2 : Int32).toInt64.toUInt64 &&& Int64.toUInt64 63)).toInt64) &&& (3689348814741910323 : Int64))).toUInt64 >>> ((4 : Int32).toInt64.toUInt64 &&& Int64.toUInt64 63)).toInt64)) &&& (1085102592571150095 : Int64)) + (((((((x - (((x.toUInt64 >>> ((1 : Int32).toInt64.toUInt64 &&& Int64.toUInt64 63)).toInt64) &&& (6148914691236517205 : Int64))) &&& (3689348814741910323 : Int64)) + ((((x - (((x.toUInt64 >>> ((1 : Int32).toInt64.toUInt64 &&& Int64.toUInt64 63)).toInt64) &&& (6148914691236517205 : Int64))).toUInt64 >>> ((2 : Int32).toInt64.toUInt64 &&& Int64.toUInt64 63)).toInt64) &&& (3689348814741910323 : Int64))) + (((((x - (((x.toUInt64 >>> ((1 : Int32).toInt64.toUInt64 &&& Int64.toUInt64 63)).toInt64) &&& (6148914691236517205 : Int64))) &&& (3689348814741910323 : Int64)) + ((((x - (((x.toUInt64 >>> ((1 : Int32).toInt64.toUInt64 &&& Int64.toUInt64 63)).toInt64) &&& (6148914691236517205 : Int64))).toUInt64 >>> ((2 : Int32).toInt64.toUInt64 &&& Int64.toUInt64 63)).toInt64) &&& (3689348814741910323 : Int64))).toUInt64 >>> ((4 : Int32).toInt64.toUInt64 &&& Int64.toUInt64 63)).toInt64)) &&& (1085102592571150095 : Int64)).toUInt64 >>> ((8 : Int32).toInt64.toUInt64 &&& Int64.toUInt64 63)).toInt64)) + ((((((((x - (((x.toUInt64 >>> ((1 : Int32).toInt64.toUInt64 &&& Int64.toUInt64 63)).toInt64) &&& (6148914691236517205 : Int64))) &&& (3689348814741910323 : Int64)) + ((((x - (((x.toUInt64 >>> ((1 : Int32).toInt64.toUInt64 &&& Int64.toUInt64 63)).toInt64) &&& (6148914691236517205 : Int64))).toUInt64 >>> ((2 : Int32).toInt64.toUInt64 &&& Int64.toUInt64 63)).toInt64) &&& (3689348814741910323 : Int64))) + (((((x - (((x.toUInt64 >>> ((1 : Int32).toInt64.toUInt64 &&& Int64.toUInt64 63)).toInt64) &&& (6148914691236517205 : Int64))) &&& (3689348814741910323 : Int64)) + ((((x - (((x.toUInt64 >>> ((1 : Int32).toInt64.toUInt64 &&& Int64.toUInt64 63)).toInt64) &&& (6148914691236517205 : Int64))).toUInt64 >>> ((2 : Int32).toInt64.toUInt64 &&& Int64.toUInt64 63)).toInt64) &&& (3689348814741910323 : Int64))).toUInt64 >>> ((4 : Int32).toInt64.toUInt64 &&& Int64.toUInt64 63)).toInt64)) &&& (1085102592571150095 : Int64)) + (((((((x - (((x.toUInt64 >>> ((1 : Int32).toInt64.toUInt64 &&& Int64.toUInt64 63)).toInt64) &&& (6148914691236517205 : Int64))) &&& (3689348814741910323 : Int64)) + ((((x - (((x.toUInt64 >>> ((1 : Int32).toInt64.toUInt64 &&& Int64.toUInt64 63)).toInt64) &&& (6148914691236517205 : Int64))).toUInt64 >>> ((2 : Int32).toInt64.toUInt64 &&& Int64.toUInt64 63)).toInt64) &&& (3689348814741910323 : Int64))) + (((((x - (((x.toUInt64 >>> ((1 : Int32).toInt64.toUInt64 &&& Int64.toUInt64 63)).toInt64) &&& (6148914691236517205 : Int64))) &&& (3689348814741910323 : Int64)) + ((((x - (((x.toUInt64 >>> ((1 : Int32).toInt64.toUInt64 &&& Int64.toUInt64 63)).toInt64) &&& (6148914691236517205 : Int64))).toUInt64 >>> ((2 : Int32).toInt64.toUInt64 &&& Int64.toUInt64 63)).toInt64) &&& (3689348814741910323 : Int64))).toUInt64 >>> ((4 : Int32).toInt64.toUInt64 &&& Int64.toUInt64 63)).toInt64)) &&& (1085102592571150095 : Int64)).toUInt64 >>> ((8 : Int32).toInt64.toUInt64 &&& Int64.toUInt64 63)).toInt64)).toUInt64 >>> ((16 : Int32).toInt64.toUInt64 &&& Int64.toUInt64 63)).toInt64)) + (((((((((x - (((x.toUInt64 >>> ((1 : Int32).toInt64.toUInt64 &&& Int64.toUInt64 63)).toInt64) &&& (6148914691236517205 : Int64))) &&& (3689348814741910323 : Int64)) + ((((x - (((x.toUInt64 >>> ((1 : Int32).toInt64.toUInt64 &&& Int64.toUInt64 63)).toInt64) &&& (6148914691236517205 : Int64))).toUInt64 >>> ((2 : Int32).toInt64.toUInt64 &&& Int64.toUInt64 63)).toInt64) &&& (3689348814741910323 : Int64))) + (((((x - (((x.toUInt64 >>> ((1 : Int32).toInt64.toUInt64 &&& Int64.toUInt64 63)).toInt64) &&& (6148914691236517205 : Int64))) &&& (3689348814741910323 : Int64)) + ((((x - (((x.toUInt64 >>> ((1 : Int32).toInt64.toUInt64 &&& Int64.toUInt64 63)).toInt64) &&& (6148914691236517205 : Int64))).toUInt64 >>> ((2 : Int32).toInt64.toUInt64 &&& Int64.toUInt64 63)).toInt64) &&& (3689348814741910323 : Int64))).toUInt64 >>> ((4 : Int32).toInt64.toUInt64 &&& Int64.toUInt64 63)).toInt64)) &&& (1085102592571150095 : Int64)) + (((((((x - (((x.toUInt64 >>> ((1 : Int32).toInt64.toUInt64 &&& Int64.toUInt64 63)).toInt64) &&& (6148914691236517205 : Int64))) &&& (3689348814741910323 : Int64)) + ((((x - (((x.toUInt64 >>> ((1 : Int32).toInt64.toUInt64 &&& Int64.toUInt64 63)).toInt64) &&& (6148914691236517205 : Int64))).toUInt64 >>> ((2 : Int32).toInt64.toUInt64 &&& Int64.toUInt64 63)).toInt64) &&& (3689348814741910323 : Int64))) + (((((x - (((x.toUInt64 >>> ((1 : Int32).toInt64.toUInt64 &&& Int64.toUInt64 63)).toInt64) &&& (6148914691236517205 : Int64))) &&& (3689348814741910323 : Int64)) + ((((x - (((x.toUInt64 >>> ((1 : Int32).toInt64.toUInt64 &&& Int64.toUInt64 63)).toInt64) &&& (6148914691236517205 : Int64))).toUInt64 >>> ((2 : Int32).toInt64.toUInt64 &&& Int64.toUInt64 63)).toInt64) &&& (3689348814741910323 : Int64))).toUInt64 >>> ((4 : Int32).toInt64.toUInt64 &&& Int64.toUInt64 63)).toInt64)) &&& (1085102592571150095 : Int64)).toUInt64 >>> ((8 : Int32).toInt64.toUInt64 &&& Int64.toUInt64 63)).toInt64)) + ((((((((x - (((x.toUInt64 >>> ((1 : Int32).toInt64.toUInt64 &&& Int64.toUInt64 63)).toInt64) &&& (6148914691236517205 : Int64))) &&& (3689348814741910323 : Int64)) + ((((x - (((x.toUInt64 >>> ((1 : Int32).toInt64.toUInt64 &&& Int64.toUInt64 63)).toInt64) &&& (6148914691236517205 : Int64))).toUInt64 >>> ((2 : Int32).toInt64.toUInt64 &&& Int64.toUInt64 63)).toInt64) &&& (3689348814741910323 : Int64))) + (((((x - (((x.toUInt64 >>> ((1 : Int32).toInt64.toUInt64 &&& Int64.toUInt64 63)).toInt64) &&& (6148914691236517205 : Int64))) &&& (3689348814741910323 : Int64)) + ((((x - (((x.toUInt64 >>> ((1 : Int32).toInt64.toUInt64 &&& Int64.toUInt64 63)).toInt64) &&& (6148914691236517205 : Int64))).toUInt64 >>> ((2 : Int32).toInt64.toUInt64 &&& Int64.toUInt64 63)).toInt64) &&& (3689348814741910323 : Int64))).toUInt64 >>> ((4 : Int32).toInt64.toUInt64 &&& Int64.toUInt64 63)).toInt64)) &&& (1085102592571150095 : Int64)) + (((((((x - (((x.toUInt64 >>> ((1 : Int32).toInt64.toUInt64 &&& Int64.toUInt64 63)).toInt64) &&& (6148914691236517205 : Int64))) &&& (3689348814741910323 : Int64)) + ((((x - (((x.toUInt64 >>> ((1 : Int32).toInt64.toUInt64 &&& Int64.toUInt64 63)).toInt64) &&& (6148914691236517205 : Int64))).toUInt64 >>> ((2 : Int32).toInt64.toUInt64 &&& Int64.toUInt64 63)).toInt64) &&& (3689348814741910323 : Int64))) + (((((x - (((x.toUInt64 >>> ((1 : Int32).toInt64.toUInt64 &&& Int64.toUInt64 63)).toInt64) &&& (6148914691236517205 : Int64))) &&& (3689348814741910323 : Int64)) + ((((x - (((x.toUInt64 >>> ((1 : Int32).toInt64.toUInt64 &&& Int64.toUInt64 63)).toInt64) &&& (6148914691236517205 : Int64))).toUInt64 >>> ((2 : Int32).toInt64.toUInt64 &&& Int64.toUInt64 63)).toInt64) &&& (3689348814741910323 : Int64))).toUInt64 >>> ((4 : Int32).toInt64.toUInt64 &&& Int64.toUInt64 63)).toInt64)) &&& (1085102592571150095 : Int64)).toUInt64 >>> ((8 : Int32).toInt64.toUInt64 &&& Int64.toUInt64 63)).toInt64)).toUInt64 >>> ((16 : Int32).toInt64.toUInt64 &&& Int64.toUInt64 63)).toInt64)).toUInt64 >>> ((32 : Int32).toInt64.toUInt64 &&& Int64.toUInt64 63)).toInt64)))]) rfl rfl ?_
  refine hs (f := dm_lld 56 0) rfl rfl ?_
  refine hs (f := dm_l1 57 (fun x => .int x.toInt32)) (st' := [.int (((((((((x - (((x.toUInt64 >>> ((1 : Int32).toInt64.toUInt64 &&& Int64.toUInt64 63)).toInt64) &&& (6148914691236517205 : Int64))) &&& (3689348814741910323 : Int64)) + ((((x - (((x.toUInt64 >>> ((1 : Int32).toInt64.toUInt64 &&& Int64.toUInt64 63)).toInt64) &&& (6148914691236517205 : Int64))).toUInt64 >>> ((2 : Int32).toInt64.toUInt64 &&& Int64.toUInt64 63)).toInt64) &&& (3689348814741910323 : Int64))) + (((((x - (((x.toUInt64 >>> ((1 : Int32).toInt64.toUInt64 &&& Int64.toUInt64 63)).toInt64) &&& (6148914691236517205 : Int64))) &&& (3689348814741910323 : Int64)) + ((((x - (((x.toUInt64 >>> ((1 : Int32).toInt64.toUInt64 &&& Int64.toUInt64 63)).toInt64) &&& (6148914691236517205 : Int64))).toUInt64 >>> ((2 : Int32).toInt64.toUInt64 &&& Int64.toUInt64 63)).toInt64) &&& (3689348814741910323 : Int64))).toUInt64 >>> ((4 : Int32).toInt64.toUInt64 &&& Int64.toUInt64 63)).toInt64)) &&& (1085102592571150095 : Int64)) + (((((((x - (((x.toUInt64 >>> ((1 : Int32).toInt64.toUInt64 &&& Int64.toUInt64 63)).toInt64) &&& (6148914691236517205 : Int64))) &&& (3689348814741910323 : Int64)) + ((((x - (((x.toUInt64 >>> ((1 : Int32).toInt64.toUInt64 &&& Int64.toUInt64 63)).toInt64) &&& (6148914691236517205 : Int64))).toUInt64 >>> ((2 : Int32).toInt64.toUInt64 &&& Int64.toUInt64 63)).toInt64) &&& (3689348814741910323 : Int64))) + (((((x - (((x.toUInt64 >>> ((1 : Int32).toInt64.toUInt64 &&& Int64.toUInt64 63)).toInt64) &&& (6148914691236517205 : Int64))) &&& (3689348814741910323 : Int64)) + ((((x - (((x.toUInt64 >>> ((1 : Int32).toInt64.toUInt64 &&& Int64.toUInt64 63)).toInt64) &&& (6148914691236517205 : Int64))).toUInt64 >>> ((2 : Int32).toInt64.toUInt64 &&& Int64.toUInt64 63)).toInt64) &&& (3689348814741910323 : Int64))).toUInt64 >>> ((4 : Int32).toInt64.toUInt64 &&& Int64.toUInt64 63)).toInt64)) &&& (1085102592571150095 : Int64)).toUInt64 >>> ((8 : Int32).toInt64.toUInt64 &&& Int64.toUInt64 63)).toInt64)) + ((((((((x - (((x.toUInt64 >>> ((1 : Int32).toInt64.toUInt64 &&& Int64.toUInt64 63)).toInt64) &&& (6148914691236517205 : Int64))) &&& (3689348814741910323 : Int64)) + ((((x - (((x.toUInt64 >>> ((1 : Int32).toInt64.toUInt64 &&& Int64.toUInt64 63)).toInt64) &&& (6148914691236517205 : Int64))).toUInt64 >>> ((2 : Int32).toInt64.toUInt64 &&& Int64.toUInt64 63)).toInt64) &&& (3689348814741910323 : Int64))) + (((((x - (((x.toUInt64 >>> ((1 : Int32).toInt64.toUInt64 &&& Int64.toUInt64 63)).toInt64) &&& (6148914691236517205 : Int64))) &&& (3689348814741910323 : Int64)) + ((((x - (((x.toUInt64 >>> ((1 : Int32).toInt64.toUInt64 &&& Int64.toUInt64 63)).toInt64) &&& (6148914691236517205 : Int64))).toUInt64 >>> ((2 : Int32).toInt64.toUInt64 &&& Int64.toUInt64 63)).toInt64) &&& (3689348814741910323 : Int64))).toUInt64 >>> ((4 : Int32).toInt64.toUInt64 &&& Int64.toUInt64 63)).toInt64)) &&& (1085102592571150095 : Int64)) + (((((((x - (((x.toUInt64 >>> ((1 : Int32).toInt64.toUInt64 &&& Int64.toUInt64 63)).toInt64) &&& (6148914691236517205 : Int64))) &&& (3689348814741910323 : Int64)) + ((((x - (((x.toUInt64 >>> ((1 : Int32).toInt64.toUInt64 &&& Int64.toUInt64 63)).toInt64) &&& (6148914691236517205 : Int64))).toUInt64 >>> ((2 : Int32).toInt64.toUInt64 &&& Int64.toUInt64 63)).toInt64) &&& (3689348814741910323 : Int64))) + (((((x - (((x.toUInt64 >>> ((1 : Int32).toInt64.toUInt64 &&& Int64.toUInt64 63)).toInt64) &&& (6148914691236517205 : Int64))) &&& (3689348814741910323 : Int64)) + ((((x - (((x.toUInt64 >>> ((1 : Int32).toInt64.toUInt64 &&& Int64.toUInt64 63)).toInt64) &&& (6148914691236517205 : Int64))).toUInt64 >>> ((2 : Int32).toInt64.toUInt64 &&& Int64.toUInt64 63)).toInt64) &&& (3689348814741910323 : Int64))).toUInt64 >>> ((4 : Int32).toInt64.toUInt64 &&& Int64.toUInt64 63)).toInt64)) &&& (1085102592571150095 : Int64)).toUInt64 >>> ((8 : Int32).toInt64.toUInt64 &&& Int64.toUInt64 63)).toInt64)).toUInt64 >>> ((16 : Int32).toInt64.toUInt64 &&& Int64.toUInt64 63)).toInt64)) + (((((((((x - (((x.toUInt64 >>> ((1 : Int32).toInt64.toUInt64 &&& Int64.toUInt64 63)).toInt64) &&& (6148914691236517205 : Int64))) &&& (3689348814741910323 : Int64)) + ((((x - (((x.toUInt64 >>> ((1 : Int32).toInt64.toUInt64 &&& Int64.toUInt64 63)).toInt64) &&& (6148914691236517205 : Int64))).toUInt64 >>> ((2 : Int32).toInt64.toUInt64 &&& Int64.toUInt64 63)).toInt64) &&& (3689348814741910323 : Int64))) + (((((x - (((x.toUInt64 >>> ((1 : Int32).toInt64.toUInt64 &&& Int64.toUInt64 63)).toInt64) &&& (6148914691236517205 : Int64))) &&& (3689348814741910323 : Int64)) + ((((x - (((x.toUInt64 >>> ((1 : Int32).toInt64.toUInt64 &&& Int64.toUInt64 63)).toInt64) &&& (6148914691236517205 : Int64))).toUInt64 >>> ((2 : Int32).toInt64.toUInt64 &&& Int64.toUInt64 63)).toInt64) &&& (3689348814741910323 : Int64))).toUInt64 >>> ((4 : Int32).toInt64.toUInt64 &&& Int64.toUInt64 63)).toInt64)) &&& (1085102592571150095 : Int64)) + (((((((x - (((x.toUInt64 >>> ((1 : Int32).toInt64.toUInt64 &&& Int64.toUInt64 63)).toInt64) &&& (6148914691236517205 : Int64))) &&& (3689348814741910323 : Int64)) + ((((x - (((x.toUInt64 >>> ((1 : Int32).toInt64.toUInt64 &&& Int64.toUInt64 63)).toInt64) &&& (6148914691236517205 : Int64))).toUInt64 >>> ((2 : Int32).toInt64.toUInt64 &&& Int64.toUInt64 63)).toInt64) &&& (3689348814741910323 : Int64))) + (((((x - (((x.toUInt64 >>> ((1 : Int32).toInt64.toUInt64 &&& Int64.toUInt64 63)).toInt64) &&& (6148914691236517205 : Int64))) &&& (3689348814741910323 : Int64)) + ((((x - (((x.toUInt64 >>> ((1 : Int32).toInt64.toUInt64 &&& Int64.toUInt64 63)).toInt64) &&& (6148914691236517205 : Int64))).toUInt64 >>> ((2 : Int32).toInt64.toUInt64 &&& Int64.toUInt64 63)).toInt64) &&& (3689348814741910323 : Int64))).toUInt64 >>> ((4 : Int32).toInt64.toUInt64 &&& Int64.toUInt64 63)).toInt64)) &&& (1085102592571150095 : Int64)).toUInt64 >>> ((8 : Int32).toInt64.toUInt64 &&& Int64.toUInt64 63)).toInt64)) + ((((((((x - (((x.toUInt64 >>> ((1 : Int32).toInt64.toUInt64 &&& Int64.toUInt64 63)).toInt64) &&& (6148914691236517205 : Int64))) &&& (3689348814741910323 : Int64)) + ((((x - (((x.toUInt64 >>> ((1 : Int32).toInt64.toUInt64 &&& Int64.toUInt64 63)).toInt64) &&& (6148914691236517205 : Int64))).toUInt64 >>> ((2 : Int32).toInt64.toUInt64 &&& Int64.toUInt64 63)).toInt64) &&& (3689348814741910323 : Int64))) + (((((x - (((x.toUInt64 >>> ((1 : Int32).toInt64.toUInt64 &&& Int64.toUInt64 63)).toInt64) &&& (6148914691236517205 : Int64))) &&& (3689348814741910323 : Int64)) + ((((x - (((x.toUInt64 >>> ((1 : Int32).toInt64.toUInt64 &&& Int64.toUInt64 63)).toInt64) &&& (6148914691236517205 : Int64))).toUInt64 >>> ((2 : Int32).toInt64.toUInt64 &&& Int64.toUInt64 63)).toInt64) &&& (3689348814741910323 : Int64))).toUInt64 >>> ((4 : Int32).toInt64.toUInt64 &&& Int64.toUInt64 63)).toInt64)) &&& (1085102592571150095 : Int64)) + (((((((x - (((x.toUInt64 >>> ((1 : Int32).toInt64.toUInt64 &&& Int64.toUInt64 63)).toInt64) &&& (6148914691236517205 : Int64))) &&& (3689348814741910323 : Int64)) + ((((x - (((x.toUInt64 >>> ((1 : Int32).toInt64.toUInt64 &&& Int64.toUInt64 63)).toInt64) &&& (6148914691236517205 : Int64))).toUInt64 >>> ((2 : Int32).toInt64.toUInt64 &&& Int64.toUInt64 63)).toInt64) &&& (3689348814741910323 : Int64))) + (((((x - (((x.toUInt64 >>> ((1 : Int32).toInt64.toUInt64 &&& Int64.toUInt64 63)).toInt64) &&& (6148914691236517205 : Int64))) &&& (3689348814741910323 : Int64)) + ((((x - (((x.toUInt64 >>> ((1 : Int32).toInt64.toUInt64 &&& Int64.toUInt64 63)).toInt64) &&& (6148914691236517205 : Int64))).toUInt64 >>> ((2 : Int32).toInt64.toUInt64 &&& Int64.toUInt64 63)).toInt64) &&& (3689348814741910323 : Int64))).toUInt64 >>> ((4 : Int32).toInt64.toUInt64 &&& Int64.toUInt64 63)).toInt64)) &&& (1085102592571150095 : Int64)).toUInt64 >>> ((8 : Int32).toInt64.toUInt64 &&& Int64.toUInt64 63)).toInt64)).toUInt64 >>> ((16 : Int32).toInt64.toUInt64 &&& Int64.toUInt64 63)).toInt64)).toUInt64 >>> ((32 : Int32).toInt64.toUInt64 &&& Int64.toUInt64 63)).toInt64)).toInt32)]) rfl rfl ?_
  refine hs (f := dm_push 59 (.int 127)) rfl rfl ?_
  refine hs (f := dm_ii 60 (fun x y => x &&& y)) (st' := [.int ((((((((((x - (((x.toUInt64 >>> ((1 : Int32).toInt64.toUInt64 &&& Int64.toUInt64 63)).toInt64) &&& (6148914691236517205 : Int64))) &&& (3689348814741910323 : Int64)) + ((((x - (((x.toUInt64 >>> ((1 : Int32).toInt64.toUInt64 &&& Int64.toUInt64 63)).toInt64) &&& (6148914691236517205 : Int64))).toUInt64 >>> ((2 : Int32).toInt64.toUInt64 &&& Int64.toUInt64 63)).toInt64) &&& (3689348814741910323 : Int64))) + (((((x - (((x.toUInt64 >>> ((1 : Int32).toInt64.toUInt64 &&& Int64.toUInt64 63)).toInt64) &&& (6148914691236517205 : Int64))) &&& (3689348814741910323 : Int64)) + ((((x - (((x.toUInt64 >>> ((1 : Int32).toInt64.toUInt64 &&& Int64.toUInt64 63)).toInt64) &&& (6148914691236517205 : Int64))).toUInt64 >>> ((2 : Int32).toInt64.toUInt64 &&& Int64.toUInt64 63)).toInt64) &&& (3689348814741910323 : Int64))).toUInt64 >>> ((4 : Int32).toInt64.toUInt64 &&& Int64.toUInt64 63)).toInt64)) &&& (1085102592571150095 : Int64)) + (((((((x - (((x.toUInt64 >>> ((1 : Int32).toInt64.toUInt64 &&& Int64.toUInt64 63)).toInt64) &&& (6148914691236517205 : Int64))) &&& (3689348814741910323 : Int64)) + ((((x - (((x.toUInt64 >>> ((1 : Int32).toInt64.toUInt64 &&& Int64.toUInt64 63)).toInt64) &&& (6148914691236517205 : Int64))).toUInt64 >>> ((2 : Int32).toInt64.toUInt64 &&& Int64.toUInt64 63)).toInt64) &&& (3689348814741910323 : Int64))) + (((((x - (((x.toUInt64 >>> ((1 : Int32).toInt64.toUInt64 &&& Int64.toUInt64 63)).toInt64) &&& (6148914691236517205 : Int64))) &&& (3689348814741910323 : Int64)) + ((((x - (((x.toUInt64 >>> ((1 : Int32).toInt64.toUInt64 &&& Int64.toUInt64 63)).toInt64) &&& (6148914691236517205 : Int64))).toUInt64 >>> ((2 : Int32).toInt64.toUInt64 &&& Int64.toUInt64 63)).toInt64) &&& (3689348814741910323 : Int64))).toUInt64 >>> ((4 : Int32).toInt64.toUInt64 &&& Int64.toUInt64 63)).toInt64)) &&& (1085102592571150095 : Int64)).toUInt64 >>> ((8 : Int32).toInt64.toUInt64 &&& Int64.toUInt64 63)).toInt64)) + ((((((((x - (((x.toUInt64 >>> ((1 : Int32).toInt64.toUInt64 &&& Int64.toUInt64 63)).toInt64) &&& (6148914691236517205 : Int64))) &&& (3689348814741910323 : Int64)) + ((((x - (((x.toUInt64 >>> ((1 : Int32).toInt64.toUInt64 &&& Int64.toUInt64 63)).toInt64) &&& (6148914691236517205 : Int64))).toUInt64 >>> ((2 : Int32).toInt64.toUInt64 &&& Int64.toUInt64 63)).toInt64) &&& (3689348814741910323 : Int64))) + (((((x - (((x.toUInt64 >>> ((1 : Int32).toInt64.toUInt64 &&& Int64.toUInt64 63)).toInt64) &&& (6148914691236517205 : Int64))) &&& (3689348814741910323 : Int64)) + ((((x - (((x.toUInt64 >>> ((1 : Int32).toInt64.toUInt64 &&& Int64.toUInt64 63)).toInt64) &&& (6148914691236517205 : Int64))).toUInt64 >>> ((2 : Int32).toInt64.toUInt64 &&& Int64.toUInt64 63)).toInt64) &&& (3689348814741910323 : Int64))).toUInt64 >>> ((4 : Int32).toInt64.toUInt64 &&& Int64.toUInt64 63)).toInt64)) &&& (1085102592571150095 : Int64)) + (((((((x - (((x.toUInt64 >>> ((1 : Int32).toInt64.toUInt64 &&& Int64.toUInt64 63)).toInt64) &&& (6148914691236517205 : Int64))) &&& (3689348814741910323 : Int64)) + ((((x - (((x.toUInt64 >>> ((1 : Int32).toInt64.toUInt64 &&& Int64.toUInt64 63)).toInt64) &&& (6148914691236517205 : Int64))).toUInt64 >>> ((2 : Int32).toInt64.toUInt64 &&& Int64.toUInt64 63)).toInt64) &&& (3689348814741910323 : Int64))) + (((((x - (((x.toUInt64 >>> ((1 : Int32).toInt64.toUInt64 &&& Int64.toUInt64 63)).toInt64) &&& (6148914691236517205 : Int64))) &&& (3689348814741910323 : Int64)) + ((((x - (((x.toUInt64 >>> ((1 : Int32).toInt64.toUInt64 &&& Int64.toUInt64 63)).toInt64) &&& (6148914691236517205 : Int64))).toUInt64 >>> ((2 : Int32).toInt64.toUInt64 &&& Int64.toUInt64 63)).toInt64) &&& (3689348814741910323 : Int64))).toUInt64 >>> ((4 : Int32).toInt64.toUInt64 &&& Int64.toUInt64 63)).toInt64)) &&& (1085102592571150095 : Int64)).toUInt64 >>> ((8 : Int32).toInt64.toUInt64 &&& Int64.toUInt64 63)).toInt64)).toUInt64 >>> ((16 : Int32).toInt64.toUInt64 &&& Int64.toUInt64 63)).toInt64)) + (((((((((x - (((x.toUInt64 >>> ((1 : Int32).toInt64.toUInt64 &&& Int64.toUInt64 63)).toInt64) &&& (6148914691236517205 : Int64))) &&& (3689348814741910323 : Int64)) + ((((x - (((x.toUInt64 >>> ((1 : Int32).toInt64.toUInt64 &&& Int64.toUInt64 63)).toInt64) &&& (6148914691236517205 : Int64))).toUInt64 >>> ((2 : Int32).toInt64.toUInt64 &&& Int64.toUInt64 63)).toInt64) &&& (3689348814741910323 : Int64))) + (((((x - (((x.toUInt64 >>> ((1 : Int32).toInt64.toUInt64 &&& Int64.toUInt64 63)).toInt64) &&& (6148914691236517205 : Int64))) &&& (3689348814741910323 : Int64)) + ((((x - (((x.toUInt64 >>> ((1 : Int32).toInt64.toUInt64 &&& Int64.toUInt64 63)).toInt64) &&& (6148914691236517205 : Int64))).toUInt64 >>> ((2 : Int32).toInt64.toUInt64 &&& Int64.toUInt64 63)).toInt64) &&& (3689348814741910323 : Int64))).toUInt64 >>> ((4 : Int32).toInt64.toUInt64 &&& Int64.toUInt64 63)).toInt64)) &&& (1085102592571150095 : Int64)) + (((((((x - (((x.toUInt64 >>> ((1 : Int32).toInt64.toUInt64 &&& Int64.toUInt64 63)).toInt64) &&& (6148914691236517205 : Int64))) &&& (3689348814741910323 : Int64)) + ((((x - (((x.toUInt64 >>> ((1 : Int32).toInt64.toUInt64 &&& Int64.toUInt64 63)).toInt64) &&& (6148914691236517205 : Int64))).toUInt64 >>> ((2 : Int32).toInt64.toUInt64 &&& Int64.toUInt64 63)).toInt64) &&& (3689348814741910323 : Int64))) + (((((x - (((x.toUInt64 >>> ((1 : Int32).toInt64.toUInt64 &&& Int64.toUInt64 63)).toInt64) &&& (6148914691236517205 : Int64))) &&& (3689348814741910323 : Int64)) + ((((x - (((x.toUInt64 >>> ((1 : Int32).toInt64.toUInt64 &&& Int64.toUInt64 63)).toInt64) &&& (6148914691236517205 : Int64))).toUInt64 >>> ((2 : Int32).toInt64.toUInt64 &&& Int64.toUInt64 63)).toInt64) &&& (3689348814741910323 : Int64))).toUInt64 >>> ((4 : Int32).toInt64.toUInt64 &&& Int64.toUInt64 63)).toInt64)) &&& (1085102592571150095 : Int64)).toUInt64 >>> ((8 : Int32).toInt64.toUInt64 &&& Int64.toUInt64 63)).toInt64)) + ((((((((x - (((x.toUInt64 >>> ((1 : Int32).toInt64.toUInt64 &&& Int64.toUInt64 63)).toInt64) &&& (6148914691236517205 : Int64))) &&& (3689348814741910323 : Int64)) + ((((x - (((x.toUInt64 >>> ((1 : Int32).toInt64.toUInt64 &&& Int64.toUInt64 63)).toInt64) &&& (6148914691236517205 : Int64))).toUInt64 >>> ((2 : Int32).toInt64.toUInt64 &&& Int64.toUInt64 63)).toInt64) &&& (3689348814741910323 : Int64))) + (((((x - (((x.toUInt64 >>> ((1 : Int32).toInt64.toUInt64 &&& Int64.toUInt64 63)).toInt64) &&& (6148914691236517205 : Int64))) &&& (3689348814741910323 : Int64)) + ((((x - (((x.toUInt64 >>> ((1 : Int32).toInt64.toUInt64 &&& Int64.toUInt64 63)).toInt64) &&& (6148914691236517205 : Int64))).toUInt64 >>> ((2 : Int32).toInt64.toUInt64 &&& Int64.toUInt64 63)).toInt64) &&& (3689348814741910323 : Int64))).toUInt64 >>> ((4 : Int32).toInt64.toUInt64 &&& Int64.toUInt64 63)).toInt64)) &&& (1085102592571150095 : Int64)) + (((((((x - (((x.toUInt64 >>> ((1 : Int32).toInt64.toUInt64 &&& Int64.toUInt64 63)).toInt64) &&& (6148914691236517205 : Int64))) &&& (3689348814741910323 : Int64)) + ((((x - (((x.toUInt64 >>> ((1 : Int32).toInt64.toUInt64 &&& Int64.toUInt64 63)).toInt64) &&& (6148914691236517205 : Int64))).toUInt64 >>> ((2 : Int32).toInt64.toUInt64 &&& Int64.toUInt64 63)).toInt64) &&& (3689348814741910323 : Int64))) + (((((x - (((x.toUInt64 >>> ((1 : Int32).toInt64.toUInt64 &&& Int64.toUInt64 63)).toInt64) &&& (6148914691236517205 : Int64))) &&& (3689348814741910323 : Int64)) + ((((x - (((x.toUInt64 >>> ((1 : Int32).toInt64.toUInt64 &&& Int64.toUInt64 63)).toInt64) &&& (6148914691236517205 : Int64))).toUInt64 >>> ((2 : Int32).toInt64.toUInt64 &&& Int64.toUInt64 63)).toInt64) &&& (3689348814741910323 : Int64))).toUInt64 >>> ((4 : Int32).toInt64.toUInt64 &&& Int64.toUInt64 63)).toInt64)) &&& (1085102592571150095 : Int64)).toUInt64 >>> ((8 : Int32).toInt64.toUInt64 &&& Int64.toUInt64 63)).toInt64)).toUInt64 >>> ((16 : Int32).toInt64.toUInt64 &&& Int64.toUInt64 63)).toInt64)).toUInt64 >>> ((32 : Int32).toInt64.toUInt64 &&& Int64.toUInt64 63)).toInt64)).toInt32) &&& (127 : Int32))]) rfl rfl ?_
  exact hr (f := dm_ret .int) rfl rfl (⟨_, rfl, rfl⟩)
set_option maxHeartbeats 4000000 in
theorem op_175 {X : dm_Mem} {q : rS} {M : dm_Mem} {T : Int} (hM : Rm X q M) (hR : RI T q) (hT6 : 0 ≤ T ∧ T ≤ 600) (a b : Int32) : hT 3 175 [.ref 68, .int a, .int b] M (fun r M' => ∃ (x : Int32) (q' : rS), r = some (.int x) ∧ Rm X q' M' ∧ RI (T + 1) q' ∧ q'.1 41 = q.1 41) := by
  refine hx (t := cd_175) rfl (Nat.le_of_ble_eq_true rfl) (lv := [(0, .ref 68), (1, .int a), (2, .int b)]) rfl ?_
  refine hs (f := dm_ald 1 0) rfl rfl ?_
  refine hs (f := dm_push 2 (.int 0)) rfl rfl ?_
  refine r_puti rfl hM rfl (fun M1 hM1 => ?_)
  replace hM1 := rm_to (q' := (sF q 40 (0 : Int32))) hM1 (show sF q 40 (0 : Int32) = (sF q 40 (0 : Int32)) from (show sF q 40 (0 : Int32) = (sF q 40 (0 : Int32)) from rfl))
  obtain ⟨q2, eq2⟩ : ∃ z, z = (sF q 40 (0 : Int32)) := ⟨_, rfl⟩
  rw [← eq2] at hM1
  have Rq2 : RI T q2 := by rw [eq2]; exact hR
  have Kq2 : KP q q2 := by rw [eq2]; exact ⟨rfl, rfl, rfl, rfl, rfl, rfl, rfl, rfl, rfl, rfl, rfl, rfl, rfl⟩
  have fq2 : q2.1 41 = q.1 41 := Kq2.2.2.2.2.1
  have evq2 := Rq2.2.2.1
  have mxq2 := Rq2.1.2.1
  have btq2 := Rq2.2.2.2.2.2.1
  refine hs (f := dm_ald 6 0) rfl rfl ?_
  refine hs (f := dm_ild 7 1) rfl rfl ?_
  refine r_inv rfl hM1 rfl (as := [.ref 68, .int a]) rfl (Nat.le_of_ble_eq_true rfl) (hT_mono (by decide) (r_136 hM1 a) (fun r1 M4 w => ?_))
  obtain ⟨rfl, ⟨rfl, u3a, u3b⟩ | ⟨rfl, u3n⟩⟩ := w
  · skip
    refine hs (f := dm_if_eq 13 39) (pc' := 13) rfl rfl ?_
    refine hs (f := dm_ald 14 0) rfl rfl ?_
    refine hs (f := dm_ild 15 2) rfl rfl ?_
    refine r_inv rfl hM1 rfl (as := [.ref 68, .int b]) rfl (Nat.le_of_ble_eq_true rfl) (hT_mono (by decide) (r_136 hM1 b) (fun r1 M6 w => ?_))
    obtain ⟨rfl, ⟨rfl, u5a, u5b⟩ | ⟨rfl, u5n⟩⟩ := w
    · skip
      refine hs (f := dm_if_eq 21 39) (pc' := 21) rfl rfl ?_
      refine hs (f := dm_ald 22 0) rfl rfl ?_
      refine r_geta (c := 74) rfl hM1 rfl ?_
      refine hs (f := dm_ild 26 1) rfl rfl ?_
      refine r_zald (L := 1000) (i := a) ((q2.2.2.1 77) a.toInt.toNat) rfl hM1 rfl (by omega) rfl ?_
      refine g_if_ne (n := 30) (tt := 39) rfl (fun h7 => ?_) (fun h7 => ?_)
      · skip
        have h7 : ¬ ((q2.2.2.1 77) a.toInt.toNat).toInt = 0 := h7
        refine hs (f := dm_push 40 (.int (-1))) rfl rfl ?_
        exact hr (f := dm_ret .int) rfl rfl (⟨_, _, rfl, hM1, RI_up Rq2 (by omega), fq2⟩)
      · skip
        have h7 : ((q2.2.2.1 77) a.toInt.toNat).toInt = 0 := h7
        refine hs (f := dm_ald 31 0) rfl rfl ?_
        refine r_geta (c := 74) rfl hM1 rfl ?_
        refine hs (f := dm_ild 35 2) rfl rfl ?_
        refine r_zald (L := 1000) (i := b) ((q2.2.2.1 77) b.toInt.toNat) rfl hM1 rfl (by omega) rfl ?_
        refine g_if_eq (n := 39) (tt := 41) rfl (fun h8 => ?_) (fun h8 => ?_)
        · skip
          have h8 : ((q2.2.2.1 77) b.toInt.toNat).toInt = 0 := h8
          have mm := Rq2.1.2.1
          have j46 : ∀ (nn : Nat), ∀ (k v : Int32) (M : dm_Mem), Rm X q2 M → (0 ≤ k.toInt) → (16 - k.toInt).toNat = nn → hG 2 cd_175 46 [(4, .int k), (3, .int v), (0, .ref 68), (1, .int a), (2, .int b)] [] M (fun r M' => ∃ (x : Int32) (q' : rS), r = some (.int x) ∧ Rm X q' M' ∧ RI (T + 1) q' ∧ q'.1 41 = q.1 41) := by
            intro nn
            induction nn using Nat.strongRecOn with
            | ind nn IH =>
              intro k v M hM k0 hms
              refine hs (f := dm_ild 48 4) rfl rfl ?_
              refine hs (f := dm_push 50 (.int 16)) rfl rfl ?_
              refine g_ic_ge (n := 53) (tt := 94) rfl (fun h9 => ?_) (fun h9 => ?_)
              · skip
                have h9 : k.toInt ≥ 16 := h9
                refine hs (f := dm_ild 95 3) rfl rfl ?_
                exact hr (f := dm_ret .int) rfl rfl (⟨_, _, rfl, hM, RI_up Rq2 (by omega), fq2⟩)
              · skip
                have h9 : k.toInt < 16 := h9
                refine hs (f := dm_ild 54 3) rfl rfl ?_
                refine hs (f := dm_ald 55 0) rfl rfl ?_
                refine r_geta (c := 80) rfl hM rfl ?_
                refine hs (f := dm_push 60 (.int 16)) rfl rfl ?_
                refine hs (f := dm_ild 61 1) rfl rfl ?_
                have e10 : ((16 : Int32) * a).toInt = 16 * a.toInt := by have w := i_mulc (x := (16 : Int32)) (y := a) 16 rfl (by omega) (by omega); omega
                refine hs (f := dm_ii 62 (fun x y => x * y)) (st' := [.int ((16 : Int32) * a), .ref 83, .int v]) rfl rfl ?_
                refine hs (f := dm_ild 64 4) rfl rfl ?_
                have e11 : (((16 : Int32) * a) + k).toInt = 16 * a.toInt + k.toInt := by have w := i_add (x := ((16 : Int32) * a)) (y := k) (by omega) (by omega); omega
                refine hs (f := dm_ii 65 (fun x y => x + y)) (st' := [.int (((16 : Int32) * a) + k), .ref 83, .int v]) rfl rfl ?_
                refine r_lald (L := 16000) (i := (((16 : Int32) * a) + k)) ((q2.2.2.2 83) (((16 : Int32) * a) + k).toInt.toNat) rfl hM rfl (by omega) rfl ?_
                generalize g13 : (q2.2.2.2 83) (((16 : Int32) * a) + k).toInt.toNat = v12
                have x14 : v12.toInt = rB (q2.2.2.2 83) (16 * a.toInt + k.toInt) := rB_of (i := (((16 : Int32) * a) + k)) g13 e11
                refine hs (f := dm_ald 67 0) rfl rfl ?_
                refine r_geta (c := 80) rfl hM rfl ?_
                refine hs (f := dm_push 72 (.int 16)) rfl rfl ?_
                refine hs (f := dm_ild 73 2) rfl rfl ?_
                have e15 : ((16 : Int32) * b).toInt = 16 * b.toInt := by have w := i_mulc (x := (16 : Int32)) (y := b) 16 rfl (by omega) (by omega); omega
                refine hs (f := dm_ii 74 (fun x y => x * y)) (st' := [.int ((16 : Int32) * b), .ref 83, .long v12, .int v]) rfl rfl ?_
                refine hs (f := dm_ild 76 4) rfl rfl ?_
                have e16 : (((16 : Int32) * b) + k).toInt = 16 * b.toInt + k.toInt := by have w := i_add (x := ((16 : Int32) * b)) (y := k) (by omega) (by omega); omega
                refine hs (f := dm_ii 77 (fun x y => x + y)) (st' := [.int (((16 : Int32) * b) + k), .ref 83, .long v12, .int v]) rfl rfl ?_
                refine r_lald (L := 16000) (i := (((16 : Int32) * b) + k)) ((q2.2.2.2 83) (((16 : Int32) * b) + k).toInt.toNat) rfl hM rfl (by omega) rfl ?_
                generalize g18 : (q2.2.2.2 83) (((16 : Int32) * b) + k).toInt.toNat = v17
                have x19 : v17.toInt = rB (q2.2.2.2 83) (16 * b.toInt + k.toInt) := rB_of (i := (((16 : Int32) * b) + k)) g18 e16
                refine hs (f := dm_push 81 (.long (-1))) rfl rfl ?_
                refine hs (f := dm_ll 82 (fun x y => x ^^^ y)) (st' := [.long (v17 ^^^ (-1 : Int64)), .long v12, .int v]) rfl rfl ?_
                refine hs (f := dm_ll 83 (fun x y => x &&& y)) (st' := [.long (v12 &&& (v17 ^^^ (-1 : Int64))), .int v]) rfl rfl ?_
                refine hc (f := dm_ins 86 208 1) (as := [.long (v12 &&& (v17 ^^^ (-1 : Int64)))]) rfl rfl (hT_mono (by decide) (r_208 (v12 &&& (v17 ^^^ (-1 : Int64)))) (fun r1 M20 w => ?_))
                obtain ⟨u21, rfl, rfl⟩ := w
                refine hs (f := dm_ii 87 (fun x y => x + y)) (st' := [.int (v + u21)]) rfl rfl ?_
                refine hs (f := dm_ist 88 3) (lv' := [(3, .int (v + u21)), (4, .int k), (0, .ref 68), (1, .int a), (2, .int b)]) rfl rfl ?_
                have e22 : (k + 1).toInt = k.toInt + 1 := by have w := i_addc (x := k) (y := 1) 1 rfl (by omega) (by omega); omega
                refine hs (f := dm_iinc 91 4 1) (lv' := [(4, .int (k + 1)), (3, .int (v + u21)), (0, .ref 68), (1, .int a), (2, .int b)]) rfl rfl ?_
                refine hs (f := dm_goto 46) rfl rfl ?_
                exact (IH _ (by omega)) (k + 1) (v + u21) _ hM (by omega) rfl
          refine hs (f := dm_push 42 (.int 0)) rfl rfl ?_
          refine hs (f := dm_ist 43 3) (lv' := [(3, .int 0), (0, .ref 68), (1, .int a), (2, .int b)]) rfl rfl ?_
          refine hs (f := dm_push 44 (.int 0)) rfl rfl ?_
          refine hs (f := dm_ist 46 4) (lv' := [(4, .int 0), (3, .int 0), (0, .ref 68), (1, .int a), (2, .int b)]) rfl rfl ?_
          exact (j46 _) (0 : Int32) (0 : Int32) _ hM1 (by decide) rfl
        · skip
          have h8 : ¬ ((q2.2.2.1 77) b.toInt.toNat).toInt = 0 := h8
          refine hs (f := dm_push 40 (.int (-1))) rfl rfl ?_
          exact hr (f := dm_ret .int) rfl rfl (⟨_, _, rfl, hM1, RI_up Rq2 (by omega), fq2⟩)
    · skip
      refine hs (f := dm_if_eq 21 39) (pc' := 39) rfl rfl ?_
      refine hs (f := dm_push 40 (.int (-1))) rfl rfl ?_
      exact hr (f := dm_ret .int) rfl rfl (⟨_, _, rfl, hM1, RI_up Rq2 (by omega), fq2⟩)
  · skip
    refine hs (f := dm_if_eq 13 39) (pc' := 39) rfl rfl ?_
    refine hs (f := dm_push 40 (.int (-1))) rfl rfl ?_
    exact hr (f := dm_ret .int) rfl rfl (⟨_, _, rfl, hM1, RI_up Rq2 (by omega), fq2⟩)
