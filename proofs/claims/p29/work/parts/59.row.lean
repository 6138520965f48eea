/-! a row of bits read as a stamp -/
theorem r_200x {X : dm_Mem} {q : rS} {M : dm_Mem} (t0 x0 b0 : Int32) (hM : Rm X q M) (e1 : q.1 65 = t0) (e2 : q.1 66 = x0) (e3 : q.1 36 = b0) (hB : 0 ≤ t0.toInt ∧ t0.toInt ≤ b0.toInt ∧ b0.toInt ≤ 600) : hT 64 200 [.ref 68, .int 0] M (fun r M' => ∃ v t x : Int32, r = some (.int v) ∧ (t0.toInt ≤ t.toInt ∧ t.toInt ≤ b0.toInt) ∧ (x.toInt = -1 → x0.toInt = -1) ∧ Rm X (sF (sF q 65 t) 66 x) M') := by
  subst e1 e2 e3
  exact r_200 61 _ _ 0 hM hB (by decide) (by decide)
set_option maxHeartbeats 4000000 in
theorem op_203 {X : dm_Mem} {q : rS} {M : dm_Mem} {T : Int} (hM : Rm X q M) (hR : RI T q) (hT6 : 0 ≤ T ∧ T ≤ 600)  : hT 66 203 [.ref 68] M (fun r M' => ∃ (x : Int32) (q' : rS), r = some (.int x) ∧ Rm X q' M' ∧ RI (T + 1) q' ∧ q'.1 41 = q.1 41) := by
  refine hx (t := cd_203) rfl (Nat.le_of_ble_eq_true rfl) (lv := [(0, .ref 68)]) rfl ?_
  refine hs (f := dm_ald 1 0) rfl rfl ?_
  refine hs (f := dm_push 2 (.int 0)) rfl rfl ?_
  refine r_puti rfl hM rfl (fun M1 hM1 => ?_)
  replace hM1 := rm_to (q' := (sF q 40 (0 : Int32))) hM1 (show sF q 40 (0 : Int32) = (sF q 40 (0 : Int32)) from (show sF q 40 (0 : Int32) = (sF q 40 (0 : Int32)) from rfl))
  obtain ⟨q2, eq2⟩ : ∃ z, z = (sF q 40 (0 : Int32)) := ⟨_, rfl⟩
  rw [← eq2] at hM1
  have Rq2 : RI T q2 := by rw [eq2]; exact hR
  have Kq2 : KP q q2 := by rw [eq2]; exact ⟨rfl, rfl, rfl, rfl, rfl, rfl, rfl, rfl, rfl, rfl, rfl, rfl, rfl⟩
  have fq2 : q2.1 41 = q.1 41 := Kq2.2.2.2.2.1
  have evq2 := Rq2.2.2.1
  have mxq2 := Rq2.1.2.1
  have btq2 := Rq2.2.2.2.2.2.1
  refine hs (f := dm_ald 6 0) rfl rfl ?_
  refine hs (f := dm_push 7 (.int (-1))) rfl rfl ?_
  refine r_puti rfl hM1 rfl (fun M3 hM3 => ?_)
  replace hM3 := rm_to (q' := (sF q2 66 (-1 : Int32))) hM3 (show sF q2 66 (-1 : Int32) = (sF q2 66 (-1 : Int32)) from (show sF q2 66 (-1 : Int32) = (sF q2 66 (-1 : Int32)) from rfl))
  refine hs (f := dm_ald 11 0) rfl rfl ?_
  refine hs (f := dm_push 12 (.int 0)) rfl rfl ?_
  refine r_puti rfl hM3 rfl (fun M4 hM4 => ?_)
  replace hM4 := rm_to (q' := (sF (sF q2 65 (0 : Int32)) 66 (-1 : Int32))) hM4 (show sF (sF q2 66 (-1 : Int32)) 65 (0 : Int32) = (sF (sF q2 65 (0 : Int32)) 66 (-1 : Int32)) from (show sF (sF q2 66 (-1 : Int32)) 65 (0 : Int32) = (sF (sF q2 65 (0 : Int32)) 66 (-1 : Int32)) from Eq.trans (show sF (sF q2 66 (-1 : Int32)) 65 (0 : Int32) = sF (sF q2 65 (0 : Int32)) 66 (-1 : Int32) from sF_cm (by decide)) (congrArg (fun z => sF z 66 (-1 : Int32)) (show sF q2 65 (0 : Int32) = (sF q2 65 (0 : Int32)) from rfl))))
  refine hs (f := dm_ald 16 0) rfl rfl ?_
  refine hs (f := dm_push 17 (.int 0)) rfl rfl ?_
  refine r_puti rfl hM4 rfl (fun M5 hM5 => ?_)
  replace hM5 := rm_to (q' := (sF (sF (sF q2 29 (0 : Int32)) 65 (0 : Int32)) 66 (-1 : Int32))) hM5 (show sF (sF (sF q2 65 (0 : Int32)) 66 (-1 : Int32)) 29 (0 : Int32) = (sF (sF (sF q2 29 (0 : Int32)) 65 (0 : Int32)) 66 (-1 : Int32)) from (show sF (sF (sF q2 65 (0 : Int32)) 66 (-1 : Int32)) 29 (0 : Int32) = (sF (sF (sF q2 29 (0 : Int32)) 65 (0 : Int32)) 66 (-1 : Int32)) from Eq.trans (show sF (sF (sF q2 65 (0 : Int32)) 66 (-1 : Int32)) 29 (0 : Int32) = sF (sF (sF q2 65 (0 : Int32)) 29 (0 : Int32)) 66 (-1 : Int32) from sF_cm (by decide)) (congrArg (fun z => sF z 66 (-1 : Int32)) (show sF (sF q2 65 (0 : Int32)) 29 (0 : Int32) = (sF (sF q2 29 (0 : Int32)) 65 (0 : Int32)) from Eq.trans (show sF (sF q2 65 (0 : Int32)) 29 (0 : Int32) = sF (sF q2 29 (0 : Int32)) 65 (0 : Int32) from sF_cm (by decide)) (congrArg (fun z => sF z 65 (0 : Int32)) (show sF q2 29 (0 : Int32) = (sF q2 29 (0 : Int32)) from rfl))))))
  refine hs (f := dm_ald 21 0) rfl rfl ?_
  refine hs (f := dm_push 22 (.int 0)) rfl rfl ?_
  refine r_inv rfl hM5 rfl (as := [.ref 68, .int 0]) rfl (Nat.le_of_ble_eq_true rfl) (hT_mono (by decide) (r_200x (0 : Int32) (-1 : Int32) (q2.1 36) hM5 rfl rfl rfl (show (0 : Int) ≤ 0 ∧ (0 : Int) ≤ (q2.1 36).toInt ∧ (q2.1 36).toInt ≤ 600 by omega)) (fun r1 M6 w => ?_))
  obtain ⟨va, ta, xa, rfl, tba, xba, hM6⟩ := w
  replace hM6 := rm_to (q' := (sF (sF (sF q2 29 (0 : Int32)) 65 ta) 66 xa)) hM6 (Eq.trans (congrArg (fun z => sF z 66 xa) (show sF (sF (sF (sF q2 29 (0 : Int32)) 65 (0 : Int32)) 66 (-1 : Int32)) 65 ta = (sF (sF (sF q2 29 (0 : Int32)) 65 ta) 66 (-1 : Int32)) from (show sF (sF (sF (sF q2 29 (0 : Int32)) 65 (0 : Int32)) 66 (-1 : Int32)) 65 ta = (sF (sF (sF q2 29 (0 : Int32)) 65 ta) 66 (-1 : Int32)) from Eq.trans (show sF (sF (sF (sF q2 29 (0 : Int32)) 65 (0 : Int32)) 66 (-1 : Int32)) 65 ta = sF (sF (sF (sF q2 29 (0 : Int32)) 65 (0 : Int32)) 65 ta) 66 (-1 : Int32) from sF_cm (by decide)) (congrArg (fun z => sF z 66 (-1 : Int32)) (show sF (sF (sF q2 29 (0 : Int32)) 65 (0 : Int32)) 65 ta = (sF (sF q2 29 (0 : Int32)) 65 ta) from sF_sF))))) (show sF (sF (sF (sF q2 29 (0 : Int32)) 65 ta) 66 (-1 : Int32)) 66 xa = (sF (sF (sF q2 29 (0 : Int32)) 65 ta) 66 xa) from (show sF (sF (sF (sF q2 29 (0 : Int32)) 65 ta) 66 (-1 : Int32)) 66 xa = (sF (sF (sF q2 29 (0 : Int32)) 65 ta) 66 xa) from sF_sF)))
  refine hs (f := dm_pop 26) (st' := []) rfl rfl ?_
  refine hs (f := dm_ald 27 0) rfl rfl ?_
  refine hs (f := dm_push 28 (.int 0)) rfl rfl ?_
  refine hs (f := dm_push 29 (.long 0)) rfl rfl ?_
  refine hs (f := dm_push 30 (.int 0)) rfl rfl ?_
  have tba2 : 0 ≤ ta.toInt := tba.1
  refine r_inv rfl hM6 rfl (as := [.ref 68, .int 0, .long 0, .int 0]) rfl (Nat.le_of_ble_eq_true rfl) (hT_mono (by decide) (r_201 61 _ _ 0 0 0 ta xa (q2.1 36) (0 : Int32) (q2.2.2.2 92) hM6 rfl rfl rfl rfl rfl ⟨tba2, by omega, by omega⟩ (by decide) (by decide) ⟨by decide, tba2⟩ (fun _ => ⟨by decide, by decide⟩) (fun _ _ => ⟨⟨fun i i0 i1 => absurd i1 (by show ¬ i + 1 < (0 : Int); omega), fun i i0 i1 => absurd i1 (by show ¬ i < (0 : Int); omega), fun z => absurd z (by decide)⟩, fun _ => rfl⟩)) (fun r1 M7 w => ?_))
  obtain ⟨vb, nb, tb, xb, yb, bb, gb, rfl, tbb, nbb, xbb, hM7⟩ := w
  have nbb2 : 0 ≤ nb.toInt ∧ nb.toInt ≤ tb.toInt - ta.toInt := by have z : (0 : Int32).toInt = 0 := rfl; omega
  replace hM7 := rm_to (q' := (sA (sB (sF (sF (sF (sF q2 29 nb) 65 tb) 66 xb) 67 yb) 92 bb) 93 gb)) hM7 (Eq.trans (congrArg (fun z => sA z 93 gb) (Eq.trans (congrArg (fun z => sB z 92 bb) (Eq.trans (congrArg (fun z => sF z 67 yb) (Eq.trans (congrArg (fun z => sF z 66 xb) (Eq.trans (congrArg (fun z => sF z 65 tb) (show sF (sF (sF (sF q2 29 (0 : Int32)) 65 ta) 66 xa) 29 nb = (sF (sF (sF q2 29 nb) 65 ta) 66 xa) from (show sF (sF (sF (sF q2 29 (0 : Int32)) 65 ta) 66 xa) 29 nb = (sF (sF (sF q2 29 nb) 65 ta) 66 xa) from Eq.trans (show sF (sF (sF (sF q2 29 (0 : Int32)) 65 ta) 66 xa) 29 nb = sF (sF (sF (sF q2 29 (0 : Int32)) 65 ta) 29 nb) 66 xa from sF_cm (by decide)) (congrArg (fun z => sF z 66 xa) (show sF (sF (sF q2 29 (0 : Int32)) 65 ta) 29 nb = (sF (sF q2 29 nb) 65 ta) from Eq.trans (show sF (sF (sF q2 29 (0 : Int32)) 65 ta) 29 nb = sF (sF (sF q2 29 (0 : Int32)) 29 nb) 65 ta from sF_cm (by decide)) (congrArg (fun z => sF z 65 ta) (show sF (sF q2 29 (0 : Int32)) 29 nb = (sF q2 29 nb) from sF_sF))))))) (show sF (sF (sF (sF q2 29 nb) 65 ta) 66 xa) 65 tb = (sF (sF (sF q2 29 nb) 65 tb) 66 xa) from (show sF (sF (sF (sF q2 29 nb) 65 ta) 66 xa) 65 tb = (sF (sF (sF q2 29 nb) 65 tb) 66 xa) from Eq.trans (show sF (sF (sF (sF q2 29 nb) 65 ta) 66 xa) 65 tb = sF (sF (sF (sF q2 29 nb) 65 ta) 65 tb) 66 xa from sF_cm (by decide)) (congrArg (fun z => sF z 66 xa) (show sF (sF (sF q2 29 nb) 65 ta) 65 tb = (sF (sF q2 29 nb) 65 tb) from sF_sF)))))) (show sF (sF (sF (sF q2 29 nb) 65 tb) 66 xa) 66 xb = (sF (sF (sF q2 29 nb) 65 tb) 66 xb) from (show sF (sF (sF (sF q2 29 nb) 65 tb) 66 xa) 66 xb = (sF (sF (sF q2 29 nb) 65 tb) 66 xb) from sF_sF)))) (show sF (sF (sF (sF q2 29 nb) 65 tb) 66 xb) 67 yb = (sF (sF (sF (sF q2 29 nb) 65 tb) 66 xb) 67 yb) from (show sF (sF (sF (sF q2 29 nb) 65 tb) 66 xb) 67 yb = (sF (sF (sF (sF q2 29 nb) 65 tb) 66 xb) 67 yb) from rfl)))) (show sB (sF (sF (sF (sF q2 29 nb) 65 tb) 66 xb) 67 yb) 92 bb = (sB (sF (sF (sF (sF q2 29 nb) 65 tb) 66 xb) 67 yb) 92 bb) from (show sB (sF (sF (sF (sF q2 29 nb) 65 tb) 66 xb) 67 yb) 92 bb = (sB (sF (sF (sF (sF q2 29 nb) 65 tb) 66 xb) 67 yb) 92 bb) from rfl)))) (show sA (sB (sF (sF (sF (sF q2 29 nb) 65 tb) 66 xb) 67 yb) 92 bb) 93 gb = (sA (sB (sF (sF (sF (sF q2 29 nb) 65 tb) 66 xb) 67 yb) 92 bb) 93 gb) from (show sA (sB (sF (sF (sF (sF q2 29 nb) 65 tb) 66 xb) 67 yb) 92 bb) 93 gb = (sA (sB (sF (sF (sF (sF q2 29 nb) 65 tb) 66 xb) 67 yb) 92 bb) 93 gb) from rfl)))
  refine hs (f := dm_pop 34) (st' := []) rfl rfl ?_
  have j61 : ∀ (x9 : Int32) (M : dm_Mem), Rm X (sA (sB (sF (sF (sF (sF q2 29 nb) 65 tb) 66 x9) 67 yb) 92 bb) 93 gb) M → (x9.toInt = -1 → xb.toInt = -1) → hG 65 cd_203 61 [(0, .ref 68)] [] M (fun r M' => ∃ (x : Int32) (q' : rS), r = some (.int x) ∧ Rm X q' M' ∧ RI (T + 1) q' ∧ q'.1 41 = q.1 41) := by
    intro x9 M hM hx9
    refine hs (f := dm_ald 62 0) rfl rfl ?_
    refine hs (f := dm_ald 63 0) rfl rfl ?_
    refine r_geti x9 rfl hM rfl rfl ?_
    refine r_puti rfl hM rfl (fun M8 hM8 => ?_)
    replace hM8 := rm_to (q' := (sA (sB (sF (sF (sF (sF (sF q2 29 nb) 37 x9) 65 tb) 66 x9) 67 yb) 92 bb) 93 gb)) hM8 (show sF (sA (sB (sF (sF (sF (sF q2 29 nb) 65 tb) 66 x9) 67 yb) 92 bb) 93 gb) 37 x9 = (sA (sB (sF (sF (sF (sF (sF q2 29 nb) 37 x9) 65 tb) 66 x9) 67 yb) 92 bb) 93 gb) from (congrArg (fun z => (sA (sB z 92 bb) 93 gb)) (show sF (sF (sF (sF (sF q2 29 nb) 65 tb) 66 x9) 67 yb) 37 x9 = (sF (sF (sF (sF (sF q2 29 nb) 37 x9) 65 tb) 66 x9) 67 yb) from Eq.trans (show sF (sF (sF (sF (sF q2 29 nb) 65 tb) 66 x9) 67 yb) 37 x9 = sF (sF (sF (sF (sF q2 29 nb) 65 tb) 66 x9) 37 x9) 67 yb from sF_cm (by decide)) (congrArg (fun z => sF z 67 yb) (show sF (sF (sF (sF q2 29 nb) 65 tb) 66 x9) 37 x9 = (sF (sF (sF (sF q2 29 nb) 37 x9) 65 tb) 66 x9) from Eq.trans (show sF (sF (sF (sF q2 29 nb) 65 tb) 66 x9) 37 x9 = sF (sF (sF (sF q2 29 nb) 65 tb) 37 x9) 66 x9 from sF_cm (by decide)) (congrArg (fun z => sF z 66 x9) (show sF (sF (sF q2 29 nb) 65 tb) 37 x9 = (sF (sF (sF q2 29 nb) 37 x9) 65 tb) from Eq.trans (show sF (sF (sF q2 29 nb) 65 tb) 37 x9 = sF (sF (sF q2 29 nb) 37 x9) 65 tb from sF_cm (by decide)) (congrArg (fun z => sF z 65 tb) (show sF (sF q2 29 nb) 37 x9 = (sF (sF q2 29 nb) 37 x9) from rfl)))))))))
    refine hs (f := dm_ald 70 0) rfl rfl ?_
    refine r_geti x9 rfl hM8 rfl rfl ?_
    refine hs (f := dm_push 74 (.int (-1))) rfl rfl ?_
    refine g_ic_ne (n := 77) (tt := 95) rfl (fun h9 => ?_) (fun h9 => ?_)
    · skip
      have h9 : ¬ x9.toInt = (-1) := h9
      refine hs (f := dm_push 96 (.int (-1))) rfl rfl ?_
      exact hr (f := dm_ret .int) rfl rfl (⟨_, _, rfl, hM8, show RI (T + 1) (sA (sB (sF (sF (sF (sF (sF q2 29 nb) 37 x9) 65 tb) 66 x9) 67 yb) 92 bb) 93 gb) from RI_up Rq2 (by omega), fq2⟩)
    · skip
      have h9 : x9.toInt = (-1) := h9
      have zx := xbb (hx9 (by omega))
      obtain ⟨q9, eq9⟩ : ∃ z, z = (sA (sB (sF (sF (sF (sF (sF q2 29 nb) 37 x9) 65 tb) 66 x9) 67 yb) 92 bb) 93 gb) := ⟨_, rfl⟩
      rw [← eq9] at hM8
      have Rq9 : RI (T) q9 := by rw [eq9]; exact Rq2
      have fq9 : q9.1 41 = q.1 41 := by rw [eq9]; exact fq2
      have mq9 : (q9.1 15).toInt = (q2.1 15).toInt ∧ (q9.1 16).toInt = (q2.1 16).toInt ∧ (q9.1 17).toInt = (q2.1 17).toInt ∧ (q9.1 29).toInt = nb.toInt := by rw [eq9]; exact ⟨rfl, rfl, rfl, rfl⟩
      have Wq9 : okW q9 := by
        rw [eq9]
        exact wP_wS (wP_up zx.2.2.1 (by decide)) zx.2.2.2
      have hxq9 := HN_max Wq9 (by omega)
      have hyq9 : hN q9 ≤ 2880001 := hxq9
      have nnq9 := Rq9.1.2.2.2.2.2.2
      have mmq9 := Rq9.1.2.1
      refine hs (f := dm_ald 78 0) rfl rfl ?_
      refine hs (f := dm_push 79 (.int 1)) rfl rfl ?_
      refine hs (f := dm_push 80 (.int 1)) rfl rfl ?_
      refine hs (f := dm_ald 81 0) rfl rfl ?_
      refine hs (f := dm_push 82 (.long 0)) rfl rfl ?_
      refine hs (f := dm_push 85 (.long 1152921504606846976)) rfl rfl ?_
      refine r_inv rfl hM8 rfl (as := [.ref 68, .long 0, .long 1152921504606846976]) rfl (Nat.le_of_ble_eq_true rfl) (hT_mono (by decide) (w_151 hM8 Wq9 (by omega)) (fun r1 M10 w => ?_))
      obtain ⟨rfl, rfl⟩ := w
      have eu11 : (Int32.ofNat (hN q9)).toInt = (hN q9 : Nat) := i_ofNat2 (by omega)
      have e12c : ((1 : Int32)).toInt = 1 := rfl
      have e12 : ((1 : Int32) + (Int32.ofNat (hN q9))).toInt = 1 + ((hN q9 : Nat) : Int) := by have w := i_add (x := (1 : Int32)) (y := (Int32.ofNat (hN q9))) (by omega) (by omega); omega
      refine hs (f := dm_ii 89 (fun x y => x + y)) (st' := [.int ((1 : Int32) + (Int32.ofNat (hN q9))), .int 1, .ref 68]) rfl rfl ?_
      have tpu14 := SB_top Rq9.1
      have mau14 := Rq9.1.1
      have mbu14 := Rq9.1.2.1
      have mcu14 := Rq9.1.2.2.2.2.2.2
      have ecu14 : ((1 : Int32)).toInt = 1 := rfl
      refine r_inv rfl hM8 rfl (as := [.ref 68, .int 1, .int ((1 : Int32) + (Int32.ofNat (hN q9)))]) rfl (Nat.le_of_ble_eq_true rfl) (hT_mono (by decide) (r_139 hM8 ⟨mau14, mbu14⟩ ⟨tpu14.1, by omega⟩ (1 : Int32) ((1 : Int32) + (Int32.ofNat (hN q9))) (by omega) (by omega)) (fun r1 M13 w => ?_))
      obtain ⟨rfl, ⟨rfl, u14a, u14b⟩ | ⟨rfl, u14n⟩⟩ := w
      · skip
        refine hs (f := dm_if_ne 95 97) (pc' := 97) rfl rfl ?_
        refine hs (f := dm_ald 98 0) rfl rfl ?_
        refine hs (f := dm_push 99 (.int (-1))) rfl rfl ?_
        refine hs (f := dm_push 100 (.int (-1))) rfl rfl ?_
        refine r_inv rfl hM8 rfl (as := [.ref 68, .int (-1), .int (-1)]) rfl (Nat.le_of_ble_eq_true rfl) (hT_mono (by decide) (w_155 hM8 Rq9 (by omega) (-1 : Int32) (-1 : Int32) (by decide) (by decide)) (fun r1 M15 w => ?_))
        obtain ⟨rfl, q16, hM15, Rq16, ⟨Kq161, Kq162, Kq163, Kq164, Kq165, Kq166, Kq167, Kq168, Kq169, Kq1610, Kq1611, Kq1612, Kq1613⟩, Wq16, Oq16⟩ := w
        have mq16 : (q16.1 15).toInt = (q9.1 15).toInt := by rw [Kq161]
        have nq16 : (q16.1 17).toInt = (q9.1 17).toInt := by rw [Kq163]
        have fq16 : q16.1 41 = q.1 41 := Kq165.trans fq9
        have vq16 : (q16.1 16).toInt = (q9.1 16).toInt := by rw [Kq162]
        have Qq16 := sameW_ok Wq16 Wq9
        have q29q16 : (q16.1 29).toInt = (q9.1 29).toInt := by rw [Wq16.1]
        have hqq16 : (hN q16 : Int) = hN q9 := by rw [Qq16.2]
        have b73q16 : rA (q16.2.2.1 73) (q16.1 15).toInt = rA (q9.2.2.1 73) (q9.1 15).toInt ∧ rA (q16.2.2.1 74) (q16.1 15).toInt = rA (q9.2.2.1 74) (q9.1 15).toInt := by rw [Kq167, Kq168, Kq161]; exact ⟨rfl, rfl⟩
        have b82q16 : ∀ m : Int, rA (q16.2.2.1 82) m = rA (q9.2.2.1 82) m ∧ rA (q16.2.2.1 81) m = rA (q9.2.2.1 81) m := fun m => by rw [Kq1610, Kq169]; exact ⟨rfl, rfl⟩
        refine hs (f := dm_ald 104 0) rfl rfl ?_
        refine hs (f := dm_push 105 (.int 0)) rfl rfl ?_
        refine r_puti rfl hM15 rfl (fun M17 hM17 => ?_)
        replace hM17 := rm_to (q' := (sF q16 34 (0 : Int32))) hM17 (show sF q16 34 (0 : Int32) = (sF q16 34 (0 : Int32)) from (show sF q16 34 (0 : Int32) = (sF q16 34 (0 : Int32)) from rfl))
        obtain ⟨q18, eq18⟩ : ∃ z, z = (sF q16 34 (0 : Int32)) := ⟨_, rfl⟩
        rw [← eq18] at hM17
        have Rq18 : RI (T + 1) q18 := by rw [eq18]; exact Rq16
        have Wq18 : okW q18 ∧ hN q18 = hN q16 := by rw [eq18]; exact ⟨Qq16.1, rfl⟩
        have Oq18 : okO q18 := by rw [eq18]; exact ⟨⟨fun i i0 i1 => absurd i1 (by show ¬ i < (0 : Int); omega), fun i i0 i1 => absurd i1 (by show ¬ i + 1 < (0 : Int); omega)⟩, by show (0 : Int) ≤ 0; decide⟩
        have sq18 : (sN q18 : Int) = 1 := by rw [eq18]; rfl
        have fq18 : q18.1 41 = q.1 41 := by rw [eq18]; exact fq16
        have mq18 : (q18.1 15).toInt = (q16.1 15).toInt ∧ (q18.1 17).toInt = (q16.1 17).toInt ∧ (q18.1 34).toInt = 0 ∧ (q18.1 29).toInt = (q16.1 29).toInt ∧ (hN q18 : Int) = hN q16 ∧ rA (q18.2.2.1 73) (q18.1 15).toInt = rA (q16.2.2.1 73) (q16.1 15).toInt ∧ rA (q18.2.2.1 74) (q18.1 15).toInt = rA (q16.2.2.1 74) (q16.1 15).toInt ∧ (q18.1 16).toInt = (q16.1 16).toInt := by rw [eq18]; exact ⟨rfl, rfl, rfl, rfl, rfl, rfl, rfl, rfl⟩
        refine hs (f := dm_ald 109 0) rfl rfl ?_
        refine hs (f := dm_push 111 (.int 6)) rfl rfl ?_
        refine hs (f := dm_push 112 (.int (-1))) rfl rfl ?_
        refine hs (f := dm_push 113 (.int (-1))) rfl rfl ?_
        have tqq20 := SB_top Rq18.1
        have lwq20 : 2 * (q18.1 29).toInt - 1 ≤ (hN q18 : Nat) := HN_len Wq18.1
        have loq20 : 2 * (q18.1 34).toInt - 1 ≤ (sN q18 : Nat) := SN_len Oq18.1 Oq18.2
        refine r_inv rfl hM17 rfl (as := [.ref 68, .int 6, .int (-1), .int (-1)]) rfl (Nat.le_of_ble_eq_true rfl) (hT_mono (by decide) (w_140 hM17 Rq18 (6 : Int32) (-1 : Int32) (-1 : Int32) (by decide) (by decide) Wq18.1 (by omega) Oq18 (by omega) (by omega) (by omega) (by omega) (by omega)) (fun r1 M19 w => ?_))
        obtain ⟨rfl, q20, hM19, Rq20, Aq201, Aq202, Aq203, Aq204, Aq205, Wq20, Oq20, Aq206, Aq207, Aq208, Aq209, Aq2010⟩ := w
        have fq20 : q20.1 41 = q.1 41 := Aq203.trans fq18
        have vq20 : (q20.1 16).toInt = (q18.1 16).toInt := by rw [Aq205]
        have Qq20 := sameW_ok Wq20 Wq18.1
        have Pq20 := sameO_ok Oq20 Oq18
        have q29q20 : (q20.1 29).toInt = (q18.1 29).toInt := by rw [Wq20.1]
        have q34q20 : (q20.1 34).toInt = (q18.1 34).toInt := by rw [Oq20.1]
        have hqq20 : (hN q20 : Int) = hN q18 := by rw [Qq20.2]
        have sqq20 : (sN q20 : Int) = sN q18 := by rw [Pq20.2.1]
        exact hr (f := dm_ret .int) rfl rfl (⟨_, _, rfl, hM19, show RI (T + 1) q20 from RI_up Rq20 (by omega), fq20⟩)
      · skip
        refine hs (f := dm_if_ne 95 97) (pc' := 95) rfl rfl ?_
        refine hs (f := dm_push 96 (.int (-1))) rfl rfl ?_
        exact hr (f := dm_ret .int) rfl rfl (⟨_, _, rfl, hM8, show RI (T + 1) q9 from RI_up Rq9 (by omega), fq9⟩)
  refine hs (f := dm_ald 35 0) rfl rfl ?_
  refine r_geti xb rfl hM7 rfl rfl ?_
  refine hs (f := dm_push 39 (.int (-1))) rfl rfl ?_
  refine g_ic_ne (n := 42) (tt := 61) rfl (fun h21 => ?_) (fun h21 => ?_)
  · skip
    have h21 : ¬ xb.toInt = (-1) := h21
    exact j61 xb _ hM7 (by intro z; omega)
  · skip
    have h21 : xb.toInt = (-1) := h21
    refine hs (f := dm_ald 43 0) rfl rfl ?_
    refine r_geti tb rfl hM7 rfl rfl ?_
    refine hs (f := dm_ald 47 0) rfl rfl ?_
    refine r_geti (q2.1 36) rfl hM7 rfl rfl ?_
    refine g_ic_ge (n := 53) (tt := 61) rfl (fun h22 => ?_) (fun h22 => ?_)
    · skip
      have h22 : tb.toInt ≥ (q2.1 36).toInt := h22
      exact j61 xb _ hM7 (by intro z; omega)
    · skip
      have h22 : tb.toInt < (q2.1 36).toInt := h22
      refine hs (f := dm_ald 54 0) rfl rfl ?_
      refine hs (f := dm_ald 55 0) rfl rfl ?_
      refine r_geti tb rfl hM7 rfl rfl ?_
      refine r_inv rfl hM7 rfl (as := [.ref 68, .int tb]) rfl (Nat.le_of_ble_eq_true rfl) (hT_mono (by omega) (r_197x xb tb hM7 rfl) (fun r1 M23 w => ?_))
      obtain ⟨rfl, xu24, pu24, nu24, hM23⟩ := w
      have piu24 : xb.toInt = -1 → xu24.toInt = tb.toInt := fun z => by rw [pu24 z]
      have niu24 : ¬ xb.toInt = -1 → xu24.toInt = xb.toInt := fun z => by rw [nu24 z]
      replace hM23 := rm_to (q' := (sA (sB (sF (sF (sF (sF q2 29 nb) 65 tb) 66 xu24) 67 yb) 92 bb) 93 gb)) hM23 (show sF (sA (sB (sF (sF (sF (sF q2 29 nb) 65 tb) 66 xb) 67 yb) 92 bb) 93 gb) 66 xu24 = (sA (sB (sF (sF (sF (sF q2 29 nb) 65 tb) 66 xu24) 67 yb) 92 bb) 93 gb) from (congrArg (fun z => (sA (sB z 92 bb) 93 gb)) (show sF (sF (sF (sF (sF q2 29 nb) 65 tb) 66 xb) 67 yb) 66 xu24 = (sF (sF (sF (sF q2 29 nb) 65 tb) 66 xu24) 67 yb) from Eq.trans (show sF (sF (sF (sF (sF q2 29 nb) 65 tb) 66 xb) 67 yb) 66 xu24 = sF (sF (sF (sF (sF q2 29 nb) 65 tb) 66 xb) 66 xu24) 67 yb from sF_cm (by decide)) (congrArg (fun z => sF z 67 yb) (show sF (sF (sF (sF q2 29 nb) 65 tb) 66 xb) 66 xu24 = (sF (sF (sF q2 29 nb) 65 tb) 66 xu24) from sF_sF)))))
      exact j61 xu24 _ hM23 (by intro z; omega)
