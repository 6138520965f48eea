/-! a stamp taken in -/
theorem tgN_c {q q' : rS} {a b : Int} (h1 : q'.2.2.2 69 = q.2.2.2 69) (h2 : q'.2.2.1 70 = q.2.2.1 70) (h3 : q'.2.2.1 73 = q.2.2.1 73) : tgN q' a b = tgN q a b := by
  unfold tgN tgR
  rw [h1, h2, h3]
theorem tgN_KP {q q' : rS} {a b : Int} (h : KP q q') : tgN q' a b = tgN q a b := tgN_c h.2.2.2.2.2.2.2.2.2.2.1 h.2.2.2.2.2.1 h.2.2.2.2.2.2.1
set_option maxHeartbeats 8000000 in
theorem f_169 {X : dm_Mem} {q q0 : rS} {M : dm_Mem} {T : Int} (hM : Rm X q0 M) (hR : RI T q0) (hT6 : 0 ≤ T ∧ T ≤ 600) (hf : q0.1 41 = q.1 41) (a b h9 o9 : Int32) (a0 : 0 ≤ a.toInt) (a1 : a.toInt < (q0.1 15).toInt) (b0 : 0 ≤ b.toInt) (b1 : b.toInt < (q0.1 15).toInt) (hab : ¬ a.toInt = b.toInt) (hO : okO q0) (hO1 : 1 ≤ (q0.1 34).toInt ∧ (q0.1 34).toInt ≤ 24000) (hr1 : (q0.1 15).toInt + 2 ≤ 1000) (hr2 : (q0.1 17).toInt + 2 * (sN q0 : Int) + (tgN q0 a.toInt b.toInt : Nat) ≤ 20000) : hG 65 cd_169 104 [(4, .int h9), (3, .int o9), (0, .ref 68), (1, .int a), (2, .int b)] [] M (fun r M' => ∃ (x : Int32) (q' : rS), r = some (.int x) ∧ Rm X q' M' ∧ RI (T + 1) q' ∧ q'.1 41 = q.1 41) := by
  have evq := hR.2.2.1
  have mxq := hR.1.2.1
  have mnq := hR.1.1
  have nq := hR.1.2.2.2.2.2.2
  refine hs (f := dm_ald 105 0) rfl rfl ?_
  refine hs (f := dm_ild 106 1) rfl rfl ?_
  refine hs (f := dm_ild 107 2) rfl rfl ?_
  refine r_inv rfl hM rfl (as := [.ref 68, .int a, .int b]) rfl (Nat.le_of_ble_eq_true rfl) (hT_mono (by decide) (w_155 hM hR (by omega) a b (by have := hR.1.2.1; omega) (by have := hR.1.2.1; omega)) (fun r1 M1 w => ?_))
  obtain ⟨rfl, q2, hM1, Rq2, ⟨Kq21, Kq22, Kq23, Kq24, Kq25, Kq26, Kq27, Kq28, Kq29, Kq210, Kq211, Kq212, Kq213⟩, Wq2, Oq2⟩ := w
  have mq2 : (q2.1 15).toInt = (q0.1 15).toInt := by rw [Kq21]
  have nq2 : (q2.1 17).toInt = (q0.1 17).toInt := by rw [Kq23]
  have fq2 : q2.1 41 = q.1 41 := Kq25.trans hf
  have vq2 : (q2.1 16).toInt = (q0.1 16).toInt := by rw [Kq22]
  have Pq2 := sameO_ok Oq2 hO
  have q34q2 : (q2.1 34).toInt = (q0.1 34).toInt := by rw [Oq2.1]
  have sqq2 : (sN q2 : Int) = sN q0 := by rw [Pq2.2.1]
  have b73q2 : rA (q2.2.2.1 73) (q2.1 15).toInt = rA (q0.2.2.1 73) (q0.1 15).toInt ∧ rA (q2.2.2.1 74) (q2.1 15).toInt = rA (q0.2.2.1 74) (q0.1 15).toInt := by rw [Kq27, Kq28, Kq21]; exact ⟨rfl, rfl⟩
  have b82q2 : ∀ m : Int, rA (q2.2.2.1 82) m = rA (q0.2.2.1 82) m ∧ rA (q2.2.2.1 81) m = rA (q0.2.2.1 81) m := fun m => by rw [Kq210, Kq29]; exact ⟨rfl, rfl⟩
  have b82q2a := b82q2 a.toInt
  have b82q2b := b82q2 b.toInt
  have Gq2 : tgN q2 a.toInt b.toInt = tgN q0 a.toInt b.toInt := (tgN_c Kq211 Kq26 Kq27).trans rfl
  refine hs (f := dm_ald 111 0) rfl rfl ?_
  refine hs (f := dm_ild 112 1) rfl rfl ?_
  refine hs (f := dm_ild 113 2) rfl rfl ?_
  have kaq4 := SB_at Rq2.1 (s := a.toInt) (by omega) (by omega)
  have kbq4 := SB_at Rq2.1 (s := b.toInt) (by omega) (by omega)
  have kcq4 := SB_ne Rq2.1 (a := a.toInt) (b := b.toInt) (by omega) (by omega) (by omega) (by omega) (by omega)
  have kdq4 := Rq2.1.2.2.2.2.2.2
  refine r_inv rfl hM1 rfl (as := [.ref 68, .int a, .int b]) rfl (Nat.le_of_ble_eq_true rfl) (hT_mono (by decide) (w_163 hM1 Rq2 a b (by omega) (by omega) (by omega) (by omega)) (fun r1 M3 w => ?_))
  obtain ⟨rfl, q4, hM3, Rq4, Kq4, Oq4, Wq4, Tq4, Sq4, Lq4⟩ := w
  have mq4 : (q4.1 15).toInt = (q2.1 15).toInt := by rw [Kq4.1]
  have nq4 : (q4.1 17).toInt = (q2.1 17).toInt := by rw [Kq4.2.2.1]
  have fq4 : q4.1 41 = q.1 41 := Kq4.2.2.2.2.1.trans fq2
  have vq4 : (q4.1 16).toInt = (q2.1 16).toInt := by rw [Kq4.2.1]
  have cq4 : (q4.1 26).toInt = (q2.1 26).toInt := by rw [Kq4.2.2.2.1]
  have g74q4 : q4.2.2.1 74 = q2.2.2.1 74 := Kq4.2.2.2.2.2.2.2.1
  have Pq4 := sameO_ok Oq4 Pq2.1
  have q34q4 : (q4.1 34).toInt = (q2.1 34).toInt := by rw [Oq4.1]
  have sqq4 : (sN q4 : Int) = sN q2 := by rw [Pq4.2.1]
  have b73q4 : rA (q4.2.2.1 73) (q4.1 15).toInt = rA (q2.2.2.1 73) (q2.1 15).toInt ∧ rA (q4.2.2.1 74) (q4.1 15).toInt = rA (q2.2.2.1 74) (q2.1 15).toInt := by rw [Kq4.2.2.2.2.2.2.1, Kq4.2.2.2.2.2.2.2.1, Kq4.1]; exact ⟨rfl, rfl⟩
  have h2q4 : (hN q4 : Int) = (tgN q0 a.toInt b.toInt : Nat) := by rw [Tq4, Gq2]
  refine hs (f := dm_ald 117 0) rfl rfl ?_
  refine hs (f := dm_push 118 (.int 3)) rfl rfl ?_
  refine hs (f := dm_ild 119 1) rfl rfl ?_
  refine hs (f := dm_ild 120 2) rfl rfl ?_
  have tqq6 := SB_top Rq4.1
  have lwq6 : 2 * (q4.1 29).toInt - 1 ≤ (hN q4 : Nat) := HN_len Wq4
  have loq6 : 2 * (q4.1 34).toInt - 1 ≤ (sN q4 : Nat) := SN_len Pq4.1.1 Pq4.1.2
  refine r_inv rfl hM3 rfl (as := [.ref 68, .int 3, .int a, .int b]) rfl (Nat.le_of_ble_eq_true rfl) (hT_mono (by decide) (w_140 hM3 Rq4 (3 : Int32) a b (by have := Rq4.1.2.1; omega) (by have := Rq4.1.2.1; omega) Wq4 (by omega) Pq4.1 (by omega) (by omega) (by omega) (by omega) (by omega)) (fun r1 M5 w => ?_))
  obtain ⟨rfl, q6, hM5, Rq6, Aq61, Aq62, Aq63, Aq64, Aq65, Wq6, Oq6, Aq66, Aq67, Aq68, Aq69, Aq610⟩ := w
  have fq6 : q6.1 41 = q.1 41 := Aq63.trans fq4
  have vq6 : (q6.1 16).toInt = (q4.1 16).toInt := by rw [Aq65]
  have Qq6 := sameW_ok Wq6 Wq4
  have Pq6 := sameO_ok Oq6 Pq4.1
  have q29q6 : (q6.1 29).toInt = (q4.1 29).toInt := by rw [Wq6.1]
  have q34q6 : (q6.1 34).toInt = (q4.1 34).toInt := by rw [Oq6.1]
  have hqq6 : (hN q6 : Int) = hN q4 := by rw [Qq6.2]
  have sqq6 : (sN q6 : Int) = sN q4 := by rw [Pq6.2.1]
  refine hs (f := dm_ist 125 5) (lv' := [(5, .int (q4.1 15)), (4, .int h9), (3, .int o9), (0, .ref 68), (1, .int a), (2, .int b)]) rfl rfl ?_
  refine hs (f := dm_ald 126 0) rfl rfl ?_
  refine r_inv rfl hM5 rfl (as := [.ref 68]) rfl (Nat.le_of_ble_eq_true rfl) (hT_mono (by decide) (w_160 hM5 Rq6 Qq6.1 (by omega) Pq6.1 (by omega) (by omega)) (fun r1 M7 w => ?_))
  obtain ⟨rfl, q8, hM7, Rq8, Kq8, Oq8, Wq8, Hq8, Lq8⟩ := w
  have mq8 : (q8.1 15).toInt = (q6.1 15).toInt := by rw [Kq8.1]
  have nq8 : (q8.1 17).toInt = (q6.1 17).toInt := by rw [Kq8.2.2.1]
  have fq8 : q8.1 41 = q.1 41 := Kq8.2.2.2.2.1.trans fq6
  have vq8 : (q8.1 16).toInt = (q6.1 16).toInt := by rw [Kq8.2.1]
  have cq8 : (q8.1 26).toInt = (q6.1 26).toInt := by rw [Kq8.2.2.2.1]
  have Pq8 := sameO_ok Oq8 Pq6.1
  have q34q8 : (q8.1 34).toInt = (q6.1 34).toInt := by rw [Oq8.1]
  have sqq8 : (sN q8 : Int) = sN q6 := by rw [Pq8.2.1]
  refine hs (f := dm_ald 130 0) rfl rfl ?_
  refine hs (f := dm_push 131 (.int 2)) rfl rfl ?_
  refine hs (f := dm_ild 133 5) rfl rfl ?_
  refine hs (f := dm_push 134 (.int (-1))) rfl rfl ?_
  have tqq10 := SB_top Rq8.1
  have lwq10 : 2 * (q8.1 29).toInt - 1 ≤ (hN q8 : Nat) := HN_len Wq8
  have loq10 : 2 * (q8.1 34).toInt - 1 ≤ (sN q8 : Nat) := SN_len Pq8.1.1 Pq8.1.2
  refine r_inv rfl hM7 rfl (as := [.ref 68, .int 2, .int (q4.1 15), .int (-1)]) rfl (Nat.le_of_ble_eq_true rfl) (hT_mono (by decide) (w_140 hM7 Rq8 (2 : Int32) (q4.1 15) (-1 : Int32) (by have := Rq8.1.2.1; omega) (by decide) Wq8 (by omega) Pq8.1 (by omega) (by omega) (by omega) (by omega) (by omega)) (fun r1 M9 w => ?_))
  obtain ⟨rfl, q10, hM9, Rq10, Aq101, Aq102, Aq103, Aq104, Aq105, Wq10, Oq10, Aq106, Aq107, Aq108, Aq109, Aq1010⟩ := w
  have fq10 : q10.1 41 = q.1 41 := Aq103.trans fq8
  have vq10 : (q10.1 16).toInt = (q8.1 16).toInt := by rw [Aq105]
  have Qq10 := sameW_ok Wq10 Wq8
  have Pq10 := sameO_ok Oq10 Pq8.1
  have q29q10 : (q10.1 29).toInt = (q8.1 29).toInt := by rw [Wq10.1]
  have q34q10 : (q10.1 34).toInt = (q8.1 34).toInt := by rw [Oq10.1]
  have hqq10 : (hN q10 : Int) = hN q8 := by rw [Qq10.2]
  have sqq10 : (sN q10 : Int) = sN q8 := by rw [Pq10.2.1]
  refine hs (f := dm_ist 139 6) (lv' := [(6, .int (q8.1 15)), (5, .int (q4.1 15)), (4, .int h9), (3, .int o9), (0, .ref 68), (1, .int a), (2, .int b)]) rfl rfl ?_
  refine hs (f := dm_ald 140 0) rfl rfl ?_
  refine hs (f := dm_ild 142 6) rfl rfl ?_
  have mdq12 := Rq10.1.2.1
  refine r_inv rfl hM9 rfl (as := [.ref 68, .int (q8.1 15)]) rfl (Nat.le_of_ble_eq_true rfl) (hT_mono (by decide) (w_161 hM9 Rq10 (by omega) (by omega) (q8.1 15) (by omega) (by omega)) (fun r1 M11 w => ?_))
  obtain ⟨rfl, q12, hM11, Rq12, ⟨Kq121, Kq122, Kq123, Kq124, Kq125, Kq126, Kq127⟩, Wq12, Oq12⟩ := w
  have fq12 : q12.1 41 = q.1 41 := Kq123.trans fq10
  have mq12 : (q12.1 15).toInt = (q10.1 15).toInt := by rw [Kq121]
  have nq12 : (q12.1 17).toInt = (q10.1 17).toInt := by rw [Kq122]
  have b73q12 : rA (q12.2.2.1 73) (q12.1 15).toInt = rA (q10.2.2.1 73) (q10.1 15).toInt ∧ rA (q12.2.2.1 74) (q12.1 15).toInt = rA (q10.2.2.1 74) (q10.1 15).toInt := by rw [Kq126, Kq127, Kq121]; exact ⟨rfl, rfl⟩
  have b82q12 : ∀ m : Int, rA (q12.2.2.1 82) m = rA (q10.2.2.1 82) m ∧ rA (q12.2.2.1 81) m = rA (q10.2.2.1 81) m := fun m => by rw [Kq125, Kq124]; exact ⟨rfl, rfl⟩
  have b82q12i := b82q12 ((q8.1 15).toInt)
  have Qq12 := sameW_ok Wq12 Qq10.1
  have Pq12 := sameO_ok Oq12 Pq10.1
  refine hs (f := dm_ald 146 0) rfl rfl ?_
  refine r_geta (c := 72) rfl hM11 rfl ?_
  refine hs (f := dm_ild 151 5) rfl rfl ?_
  refine hs (f := dm_push 152 (.int 0)) rfl rfl ?_
  refine r_zast (L := 1000) (i := (q4.1 15)) (x := (0 : Int32)) (q12.2.2.1 75) rfl hM11 rfl (by omega) rfl (fun M13 hM13 => ?_)
  replace hM13 := rm_to (q' := (sA q12 75 (upd (q12.2.2.1 75) (q4.1 15).toInt.toNat (vp_nar .boolean (0 : Int32))))) hM13 (show sA q12 75 (upd (q12.2.2.1 75) (q4.1 15).toInt.toNat (vp_nar .boolean (0 : Int32))) = (sA q12 75 (upd (q12.2.2.1 75) (q4.1 15).toInt.toNat (vp_nar .boolean (0 : Int32)))) from (show sA q12 75 (upd (q12.2.2.1 75) (q4.1 15).toInt.toNat (vp_nar .boolean (0 : Int32))) = (sA q12 75 (upd (q12.2.2.1 75) (q4.1 15).toInt.toNat (vp_nar .boolean (0 : Int32)))) from rfl))
  obtain ⟨q14, eq14⟩ : ∃ z, z = (sA q12 75 (upd (q12.2.2.1 75) (q4.1 15).toInt.toNat (vp_nar .boolean (0 : Int32)))) := ⟨_, rfl⟩
  rw [← eq14] at hM13
  have Rq14 : RI (T + 1) q14 := by rw [eq14]; exact Rq12
  have fq14 : q14.1 41 = q.1 41 := by rw [eq14]; exact fq12
  have mq14 : (q14.1 15).toInt = (q12.1 15).toInt := by rw [eq14]; rfl
  refine hs (f := dm_ald 154 0) rfl rfl ?_
  refine hs (f := dm_ild 155 1) rfl rfl ?_
  have meq16 := Rq14.1.2.1
  refine r_inv rfl hM13 rfl (as := [.ref 68, .int a]) rfl (Nat.le_of_ble_eq_true rfl) (hT_mono (by decide) (w_156 hM13 Rq14 a (by omega) (by omega)) (fun r1 M15 w => ?_))
  obtain ⟨rfl, q16, hM15, Rq16, Kq16⟩ := w
  have fq16 : q16.1 41 = q.1 41 := Kq16.2.2.2.2.1.trans fq14
  have mq16 : (q16.1 15).toInt = (q14.1 15).toInt := by rw [Kq16.1]
  refine hs (f := dm_ald 159 0) rfl rfl ?_
  refine hs (f := dm_ild 160 2) rfl rfl ?_
  have meq18 := Rq16.1.2.1
  refine r_inv rfl hM15 rfl (as := [.ref 68, .int b]) rfl (Nat.le_of_ble_eq_true rfl) (hT_mono (by decide) (w_156 hM15 Rq16 b (by omega) (by omega)) (fun r1 M17 w => ?_))
  obtain ⟨rfl, q18, hM17, Rq18, Kq18⟩ := w
  have fq18 : q18.1 41 = q.1 41 := Kq18.2.2.2.2.1.trans fq16
  have mq18 : (q18.1 15).toInt = (q16.1 15).toInt := by rw [Kq18.1]
  refine hs (f := dm_ild 165 6) rfl rfl ?_
  exact hr (f := dm_ret .int) rfl rfl (⟨_, q18, rfl, hM17, RI_up Rq18 (by omega), fq18⟩)
set_option maxHeartbeats 4000000 in
theorem op_169 {X : dm_Mem} {q : rS} {M : dm_Mem} {T : Int} (hM : Rm X q M) (hR : RI T q) (hT6 : 0 ≤ T ∧ T ≤ 600) (a b : Int32) : hT 66 169 [.ref 68, .int a, .int b] M (fun r M' => ∃ (x : Int32) (q' : rS), r = some (.int x) ∧ Rm X q' M' ∧ RI (T + 1) q' ∧ q'.1 41 = q.1 41) := by
  refine hx (t := cd_169) rfl (Nat.le_of_ble_eq_true rfl) (lv := [(0, .ref 68), (1, .int a), (2, .int b)]) rfl ?_
  refine hs (f := dm_ald 1 0) rfl rfl ?_
  refine hs (f := dm_push 2 (.int 0)) rfl rfl ?_
  refine r_puti rfl hM rfl (fun M1 hM1 => ?_)
  replace hM1 := rm_to (q' := (sF q 40 (0 : Int32))) hM1 (show sF q 40 (0 : Int32) = (sF q 40 (0 : Int32)) from (show sF q 40 (0 : Int32) = (sF q 40 (0 : Int32)) from rfl))
  obtain ⟨q2, eq2⟩ : ∃ z, z = (sF q 40 (0 : Int32)) := ⟨_, rfl⟩
  rw [← eq2] at hM1
  have Rq2 : RI T q2 := by rw [eq2]; exact hR
  have Kq2 : KP q q2 := by rw [eq2]; exact ⟨rfl, rfl, rfl, rfl, rfl, rfl, rfl, rfl, rfl, rfl, rfl, rfl, rfl⟩
  have fq2 : q2.1 41 = q.1 41 := Kq2.2.2.2.2.1
  have evq2 := Rq2.2.2.1
  have mxq2 := Rq2.1.2.1
  have btq2 := Rq2.2.2.2.2.2.1
  refine hs (f := dm_ald 6 0) rfl rfl ?_
  refine hs (f := dm_ild 7 1) rfl rfl ?_
  refine r_inv rfl hM1 rfl (as := [.ref 68, .int a]) rfl (Nat.le_of_ble_eq_true rfl) (hT_mono (by decide) (r_137 hM1 Rq2.1.2.1 a) (fun r1 M4 w => ?_))
  obtain ⟨rfl, ⟨rfl, u3a, u3b⟩ | ⟨rfl, u3n⟩⟩ := w
  · skip
    refine hs (f := dm_if_eq 13 42) (pc' := 13) rfl rfl ?_
    refine hs (f := dm_ald 14 0) rfl rfl ?_
    refine hs (f := dm_ild 15 2) rfl rfl ?_
    refine r_inv rfl hM1 rfl (as := [.ref 68, .int b]) rfl (Nat.le_of_ble_eq_true rfl) (hT_mono (by decide) (r_137 hM1 Rq2.1.2.1 b) (fun r1 M6 w => ?_))
    obtain ⟨rfl, ⟨rfl, u5a, u5b⟩ | ⟨rfl, u5n⟩⟩ := w
    · skip
      refine hs (f := dm_if_eq 21 42) (pc' := 21) rfl rfl ?_
      refine hs (f := dm_ild 22 1) rfl rfl ?_
      refine hs (f := dm_ild 23 2) rfl rfl ?_
      refine g_ic_eq (n := 26) (tt := 42) rfl (fun h7 => ?_) (fun h7 => ?_)
      · skip
        have h7 : a.toInt = b.toInt := h7
        refine hs (f := dm_push 43 (.int (-1))) rfl rfl ?_
        exact hr (f := dm_ret .int) rfl rfl (⟨_, q2, rfl, hM1, RI_up Rq2 (by omega), fq2⟩)
      · skip
        have h7 : ¬ a.toInt = b.toInt := h7
        have j44 : ∀ (M : dm_Mem), Rm X q2 M → (rA (q2.2.2.1 74) a.toInt < rA (q2.2.2.1 74) (a.toInt + 1) ∨ rA (q2.2.2.1 74) b.toInt < rA (q2.2.2.1 74) (b.toInt + 1)) → hG 65 cd_169 44 [(0, .ref 68), (1, .int a), (2, .int b)] [] M (fun r M' => ∃ (x : Int32) (q' : rS), r = some (.int x) ∧ Rm X q' M' ∧ RI (T + 1) q' ∧ q'.1 41 = q.1 41) := by
          intro M hM hw
          refine hs (f := dm_ald 45 0) rfl rfl ?_
          refine hs (f := dm_ild 46 1) rfl rfl ?_
          refine hs (f := dm_ild 47 2) rfl rfl ?_
          have kaq9 := SB_at Rq2.1 (s := a.toInt) (by omega) (by omega)
          have kbq9 := SB_at Rq2.1 (s := b.toInt) (by omega) (by omega)
          have kcq9 := SB_ne Rq2.1 (a := a.toInt) (b := b.toInt) (by omega) (by omega) (by omega) (by omega) (by omega)
          have kdq9 := Rq2.1.2.2.2.2.2.2
          refine r_inv rfl hM rfl (as := [.ref 68, .int a, .int b]) rfl (Nat.le_of_ble_eq_true rfl) (hT_mono (by decide) (w_163 hM Rq2 a b (by omega) (by omega) (by omega) (by omega)) (fun r1 M8 w => ?_))
          obtain ⟨rfl, q9, hM8, Rq9, Kq9, Oq9, Wq9, Tq9, Sq9, Lq9⟩ := w
          have mq9 : (q9.1 15).toInt = (q2.1 15).toInt := by rw [Kq9.1]
          have nq9 : (q9.1 17).toInt = (q2.1 17).toInt := by rw [Kq9.2.2.1]
          have fq9 : q9.1 41 = q.1 41 := Kq9.2.2.2.2.1.trans fq2
          have vq9 : (q9.1 16).toInt = (q2.1 16).toInt := by rw [Kq9.2.1]
          have cq9 : (q9.1 26).toInt = (q2.1 26).toInt := by rw [Kq9.2.2.2.1]
          have g74q9 : q9.2.2.1 74 = q2.2.2.1 74 := Kq9.2.2.2.2.2.2.2.1
          have b73q9 : rA (q9.2.2.1 73) (q9.1 15).toInt = rA (q2.2.2.1 73) (q2.1 15).toInt ∧ rA (q9.2.2.1 74) (q9.1 15).toInt = rA (q2.2.2.1 74) (q2.1 15).toInt := by rw [Kq9.2.2.2.2.2.2.1, Kq9.2.2.2.2.2.2.2.1, Kq9.1]; exact ⟨rfl, rfl⟩
          have h1q9 := Tq9
          have Gq9 : tgN q9 a.toInt b.toInt = tgN q2 a.toInt b.toInt := (tgN_KP Kq9).trans rfl
          refine hs (f := dm_ald 51 0) rfl rfl ?_
          refine hs (f := dm_ild 52 1) rfl rfl ?_
          refine hs (f := dm_ild 53 2) rfl rfl ?_
          refine r_inv rfl hM8 rfl (as := [.ref 68, .int a, .int b]) rfl (Nat.le_of_ble_eq_true rfl) (hT_mono (by decide) (w_164 hM8 Rq9 a b (by omega) (by omega) (by omega) (by omega)) (fun r1 M10 w => ?_))
          obtain ⟨rfl, q11, hM10, Rq11, Kq11, Wq11, Oq11, Lq11, Eq11⟩ := w
          have mq11 : (q11.1 15).toInt = (q9.1 15).toInt := by rw [Kq11.1]
          have nq11 : (q11.1 17).toInt = (q9.1 17).toInt := by rw [Kq11.2.2.1]
          have fq11 : q11.1 41 = q.1 41 := Kq11.2.2.2.2.1.trans fq9
          have vq11 : (q11.1 16).toInt = (q9.1 16).toInt := by rw [Kq11.2.1]
          have cq11 : (q11.1 26).toInt = (q9.1 26).toInt := by rw [Kq11.2.2.2.1]
          have Qq11 := sameW_ok Wq11 Wq9
          have q29q11 : (q11.1 29).toInt = (q9.1 29).toInt := by rw [Wq11.1]
          have hqq11 : (hN q11 : Int) = hN q9 := by rw [Qq11.2]
          have sxq11 := SN_max Oq11.1 Oq11.2 Lq11
          have syq11 : sN q11 ≤ 5760001 := sxq11
          have b73q11 : rA (q11.2.2.1 73) (q11.1 15).toInt = rA (q9.2.2.1 73) (q9.1 15).toInt ∧ rA (q11.2.2.1 74) (q11.1 15).toInt = rA (q9.2.2.1 74) (q9.1 15).toInt := by rw [Kq11.2.2.2.2.2.2.1, Kq11.2.2.2.2.2.2.2.1, Kq11.1]; exact ⟨rfl, rfl⟩
          have E2q11 := Eq11 (by rw [g74q9]; exact hw)
          have Gq11 : tgN q11 a.toInt b.toInt = tgN q2 a.toInt b.toInt := (tgN_KP Kq11).trans Gq9
          refine hs (f := dm_ald 57 0) rfl rfl ?_
          refine hs (f := dm_push 58 (.long 0)) rfl rfl ?_
          refine hs (f := dm_push 61 (.long 1152921504606846976)) rfl rfl ?_
          refine r_inv rfl hM10 rfl (as := [.ref 68, .long 0, .long 1152921504606846976]) rfl (Nat.le_of_ble_eq_true rfl) (hT_mono (by decide) (w_153 hM10 Oq11 (by omega)) (fun r1 M12 w => ?_))
          obtain ⟨rfl, rfl⟩ := w
          have eu13 : (Int32.ofNat (sN q11)).toInt = (sN q11 : Nat) := i_ofNat2 (by omega)
          refine hs (f := dm_ist 65 3) (lv' := [(3, .int (Int32.ofNat (sN q11))), (0, .ref 68), (1, .int a), (2, .int b)]) rfl rfl ?_
          refine hs (f := dm_ald 66 0) rfl rfl ?_
          refine hs (f := dm_push 67 (.long 0)) rfl rfl ?_
          refine hs (f := dm_push 70 (.long 1152921504606846976)) rfl rfl ?_
          refine r_inv rfl hM10 rfl (as := [.ref 68, .long 0, .long 1152921504606846976]) rfl (Nat.le_of_ble_eq_true rfl) (hT_mono (by decide) (w_151 hM10 Qq11.1 (by omega)) (fun r1 M14 w => ?_))
          obtain ⟨rfl, rfl⟩ := w
          have eu15 : (Int32.ofNat (hN q11)).toInt = (hN q11 : Nat) := i_ofNat2 (by omega)
          refine hs (f := dm_ist 75 4) (lv' := [(4, .int (Int32.ofNat (hN q11))), (3, .int (Int32.ofNat (sN q11))), (0, .ref 68), (1, .int a), (2, .int b)]) rfl rfl ?_
          refine hs (f := dm_ald 76 0) rfl rfl ?_
          refine r_inv rfl hM10 rfl (as := [.ref 68]) rfl (Nat.le_of_ble_eq_true rfl) (hT_mono (by decide) (w_160 hM10 Rq11 Qq11.1 (by omega) Oq11 (by omega) (by omega)) (fun r1 M16 w => ?_))
          obtain ⟨rfl, q17, hM16, Rq17, Kq17, Oq17, Wq17, Hq17, Lq17⟩ := w
          have mq17 : (q17.1 15).toInt = (q11.1 15).toInt := by rw [Kq17.1]
          have nq17 : (q17.1 17).toInt = (q11.1 17).toInt := by rw [Kq17.2.2.1]
          have fq17 : q17.1 41 = q.1 41 := Kq17.2.2.2.2.1.trans fq11
          have vq17 : (q17.1 16).toInt = (q11.1 16).toInt := by rw [Kq17.2.1]
          have cq17 : (q17.1 26).toInt = (q11.1 26).toInt := by rw [Kq17.2.2.2.1]
          have Pq17 := sameO_ok Oq17 Oq11
          have q34q17 : (q17.1 34).toInt = (q11.1 34).toInt := by rw [Oq17.1]
          have sqq17 : (sN q17 : Int) = sN q11 := by rw [Pq17.2.1]
          have Gq17 : tgN q17 a.toInt b.toInt = tgN q2 a.toInt b.toInt := (tgN_KP Kq17).trans Gq11
          refine hs (f := dm_ald 80 0) rfl rfl ?_
          refine hs (f := dm_push 81 (.int 2)) rfl rfl ?_
          refine hs (f := dm_push 82 (.int 2)) rfl rfl ?_
          refine hs (f := dm_ild 83 3) rfl rfl ?_
          have e18 : ((2 : Int32) * (Int32.ofNat (sN q11))).toInt = 2 * ((sN q11 : Nat) : Int) := by have w := i_mulc (x := (2 : Int32)) (y := (Int32.ofNat (sN q11))) 2 rfl (by omega) (by omega); omega
          refine hs (f := dm_ii 84 (fun x y => x * y)) (st' := [.int ((2 : Int32) * (Int32.ofNat (sN q11))), .int 2, .ref 68]) rfl rfl ?_
          refine hs (f := dm_ild 86 4) rfl rfl ?_
          have e19 : (((2 : Int32) * (Int32.ofNat (sN q11))) + (Int32.ofNat (hN q11))).toInt = 2 * ((sN q11 : Nat) : Int) + ((hN q11 : Nat) : Int) := by have w := i_add (x := ((2 : Int32) * (Int32.ofNat (sN q11)))) (y := (Int32.ofNat (hN q11))) (by omega) (by omega); omega
          refine hs (f := dm_ii 87 (fun x y => x + y)) (st' := [.int (((2 : Int32) * (Int32.ofNat (sN q11))) + (Int32.ofNat (hN q11))), .int 2, .ref 68]) rfl rfl ?_
          refine hs (f := dm_ald 88 0) rfl rfl ?_
          refine hs (f := dm_push 89 (.long 0)) rfl rfl ?_
          refine hs (f := dm_push 92 (.long 1152921504606846976)) rfl rfl ?_
          refine r_inv rfl hM16 rfl (as := [.ref 68, .long 0, .long 1152921504606846976]) rfl (Nat.le_of_ble_eq_true rfl) (hT_mono (by decide) (w_151 hM16 Wq17 (by omega)) (fun r1 M20 w => ?_))
          obtain ⟨rfl, rfl⟩ := w
          have eu21 : (Int32.ofNat (hN q17)).toInt = (hN q17 : Nat) := i_ofNat2 (by omega)
          have e22 : ((((2 : Int32) * (Int32.ofNat (sN q11))) + (Int32.ofNat (hN q11))) + (Int32.ofNat (hN q17))).toInt = 2 * ((sN q11 : Nat) : Int) + ((hN q11 : Nat) : Int) + ((hN q17 : Nat) : Int) := by have w := i_add (x := (((2 : Int32) * (Int32.ofNat (sN q11))) + (Int32.ofNat (hN q11)))) (y := (Int32.ofNat (hN q17))) (by omega) (by omega); omega
          refine hs (f := dm_ii 96 (fun x y => x + y)) (st' := [.int ((((2 : Int32) * (Int32.ofNat (sN q11))) + (Int32.ofNat (hN q11))) + (Int32.ofNat (hN q17))), .int 2, .ref 68]) rfl rfl ?_
          have tpu24 := SB_top Rq17.1
          have mau24 := Rq17.1.1
          have mbu24 := Rq17.1.2.1
          have mcu24 := Rq17.1.2.2.2.2.2.2
          have ecu24 : ((2 : Int32)).toInt = 2 := rfl
          refine r_inv rfl hM16 rfl (as := [.ref 68, .int 2, .int ((((2 : Int32) * (Int32.ofNat (sN q11))) + (Int32.ofNat (hN q11))) + (Int32.ofNat (hN q17)))]) rfl (Nat.le_of_ble_eq_true rfl) (hT_mono (by decide) (r_139 hM16 ⟨mau24, mbu24⟩ ⟨tpu24.1, by omega⟩ (2 : Int32) ((((2 : Int32) * (Int32.ofNat (sN q11))) + (Int32.ofNat (hN q11))) + (Int32.ofNat (hN q17))) (by omega) (by omega)) (fun r1 M23 w => ?_))
          obtain ⟨rfl, ⟨rfl, u24a, u24b⟩ | ⟨rfl, u24n⟩⟩ := w
          · skip
            refine hs (f := dm_if_ne 102 104) (pc' := 104) rfl rfl ?_
            have h3 : ((tgN q17 a.toInt b.toInt : Nat) : Int) = hN q9 := by rw [Gq17, ← h1q9]
            exact f_169 hM16 Rq17 hT6 fq17 a b (Int32.ofNat (hN q11)) (Int32.ofNat (sN q11)) (by omega) (by omega) (by omega) (by omega) (by omega) Pq17.1 (by omega) (by omega) (by omega)
          · skip
            refine hs (f := dm_if_ne 102 104) (pc' := 102) rfl rfl ?_
            refine hs (f := dm_push 103 (.int (-1))) rfl rfl ?_
            exact hr (f := dm_ret .int) rfl rfl (⟨_, q17, rfl, hM16, RI_up Rq17 (by omega), fq17⟩)
        refine hs (f := dm_ald 27 0) rfl rfl ?_
        refine hs (f := dm_ild 28 1) rfl rfl ?_
        refine r_inv rfl hM1 rfl (as := [.ref 68, .int a]) rfl (Nat.le_of_ble_eq_true rfl) (hT_mono (by decide) (r_138 hM1 a (by omega) (by have := Rq2.1.2.1; omega)) (fun r1 M26 w => ?_))
        obtain ⟨rfl, ⟨rfl, u25a⟩ | ⟨rfl, u25n⟩⟩ := w
        · skip
          refine hs (f := dm_if_ne 34 44) (pc' := 44) rfl rfl ?_
          exact j44  _ hM1 (by omega)
        · skip
          refine hs (f := dm_if_ne 34 44) (pc' := 34) rfl rfl ?_
          refine hs (f := dm_ald 35 0) rfl rfl ?_
          refine hs (f := dm_ild 36 2) rfl rfl ?_
          refine r_inv rfl hM1 rfl (as := [.ref 68, .int b]) rfl (Nat.le_of_ble_eq_true rfl) (hT_mono (by decide) (r_138 hM1 b (by omega) (by have := Rq2.1.2.1; omega)) (fun r1 M28 w => ?_))
          obtain ⟨rfl, ⟨rfl, u27a⟩ | ⟨rfl, u27n⟩⟩ := w
          · skip
            refine hs (f := dm_if_ne 42 44) (pc' := 44) rfl rfl ?_
            exact j44  _ hM1 (by omega)
          · skip
            refine hs (f := dm_if_ne 42 44) (pc' := 42) rfl rfl ?_
            refine hs (f := dm_push 43 (.int (-1))) rfl rfl ?_
            exact hr (f := dm_ret .int) rfl rfl (⟨_, q2, rfl, hM1, RI_up Rq2 (by omega), fq2⟩)
    · skip
      refine hs (f := dm_if_eq 21 42) (pc' := 42) rfl rfl ?_
      refine hs (f := dm_push 43 (.int (-1))) rfl rfl ?_
      exact hr (f := dm_ret .int) rfl rfl (⟨_, q2, rfl, hM1, RI_up Rq2 (by omega), fq2⟩)
  · skip
    refine hs (f := dm_if_eq 13 42) (pc' := 42) rfl rfl ?_
    refine hs (f := dm_push 43 (.int (-1))) rfl rfl ?_
    exact hr (f := dm_ret .int) rfl rfl (⟨_, q2, rfl, hM1, RI_up Rq2 (by omega), fq2⟩)
