/-! a stamp taken in -/
theorem tgN_c {q q' : rS} {a b : Int} (h1 : q'.2.2.2 69 = q.2.2.2 69) (h2 : q'.2.2.1 70 = q.2.2.1 70) (h3 : q'.2.2.1 73 = q.2.2.1 73) : tgN q' a b = tgN q a b := by
  unfold tgN tgR
  rw [h1, h2, h3]
theorem tgN_KP {q q' : rS} {a b : Int} (h : KP q q') : tgN q' a b = tgN q a b := tgN_c h.2.2.2.2.2.2.2.2.2.2.1 h.2.2.2.2.2.1 h.2.2.2.2.2.2.1
set_option maxHeartbeats 4000000 in
theorem op_169 {X : dm_Mem} {q : rS} {M : dm_Mem} {T : Int} (hM : Rm X q M) (hR : RI T q) (hT6 : 0 ≤ T ∧ T ≤ 600) (a b : Int32) : hT 66 169 [.ref 68, .int a, .int b] M (fun r M' => ∃ (x : Int32) (q' : rS), r = some (.int x) ∧ Rm X q' M' ∧ RI (T + 1) q' ∧ q'.1 41 = q.1 41) := by
  refine hx (t := cd_169) rfl (Nat.le_of_ble_eq_true rfl) (lv := [(0, .ref 68), (1, .int a), (2, .int b)]) rfl ?_
  refine hs (f := dm_ald 1 0) rfl rfl ?_
  refine hs (f := dm_push 2 (.int 0)) rfl rfl ?_
  refine r_puti rfl hM rfl (fun M1 hM1 => ?_)
  replace hM1 := rm_to (q' := (sF q 40 (0 : Int32))) hM1 (show sF q 40 (0 : Int32) = (sF q 40 (0 : Int32)) from (show sF q 40 (0 : Int32) = (sF q 40 (0 : Int32)) from rfl))
  obtain ⟨q2, eq2⟩ : ∃ z, z = (sF q 40 (0 : Int32)) := ⟨_, rfl⟩
  rw [← eq2] at hM1
  have Rq2 : RI T q2 := by rw [eq2]; exact hR
  have Kq2 : KP q q2 := by rw [eq2]; exact ⟨rfl, rfl, rfl, rfl, rfl, rfl, rfl, rfl, rfl, rfl, rfl, rfl, rfl⟩
  have fq2 : q2.1 41 = q.1 41 := Kq2.2.2.2.2.1
  have evq2 := Rq2.2.2.1
  have mxq2 := Rq2.1.2.1
  have btq2 := Rq2.2.2.2.2.2.1
  refine hs (f := dm_ald 6 0) rfl rfl ?_
  refine hs (f := dm_ild 7 1) rfl rfl ?_
  refine r_inv rfl hM1 rfl (as := [.ref 68, .int a]) rfl (Nat.le_of_ble_eq_true rfl) (hT_mono (by decide) (r_137 hM1 Rq2.1.2.1 a) (fun r1 M4 w => ?_))
  obtain ⟨rfl, ⟨rfl, u3a, u3b⟩ | ⟨rfl, u3n⟩⟩ := w
  · skip
    refine hs (f := dm_if_eq 13 42) (pc' := 13) rfl rfl ?_
    refine hs (f := dm_ald 14 0) rfl rfl ?_
    refine hs (f := dm_ild 15 2) rfl rfl ?_
    refine r_inv rfl hM1 rfl (as := [.ref 68, .int b]) rfl (Nat.le_of_ble_eq_true rfl) (hT_mono (by decide) (r_137 hM1 Rq2.1.2.1 b) (fun r1 M6 w => ?_))
    obtain ⟨rfl, ⟨rfl, u5a, u5b⟩ | ⟨rfl, u5n⟩⟩ := w
    · skip
      refine hs (f := dm_if_eq 21 42) (pc' := 21) rfl rfl ?_
      refine hs (f := dm_ild 22 1) rfl rfl ?_
      refine hs (f := dm_ild 23 2) rfl rfl ?_
      refine g_ic_eq (n := 26) (tt := 42) rfl (fun h7 => ?_) (fun h7 => ?_)
      · skip
        have h7 : a.toInt = b.toInt := h7
        refine hs (f := dm_push 43 (.int (-1))) rfl rfl ?_
        exact hr (f := dm_ret .int) rfl rfl (⟨_, q2, rfl, hM1, RI_up Rq2 (by omega), fq2⟩)
      · skip
        have h7 : ¬ a.toInt = b.toInt := h7
        have j44 : ∀ (M : dm_Mem), Rm X q2 M → (rA (q2.2.2.1 74) a.toInt < rA (q2.2.2.1 74) (a.toInt + 1) ∨ rA (q2.2.2.1 74) b.toInt < rA (q2.2.2.1 74) (b.toInt + 1)) → hG 65 cd_169 44 [(0, .ref 68), (1, .int a), (2, .int b)] [] M (fun r M' => ∃ (x : Int32) (q' : rS), r = some (.int x) ∧ Rm X q' M' ∧ RI (T + 1) q' ∧ q'.1 41 = q.1 41) := by
          intro M hM hw
          refine hs (f := dm_ald 45 0) rfl rfl ?_
          refine hs (f := dm_ild 46 1) rfl rfl ?_
          refine hs (f := dm_ild 47 2) rfl rfl ?_
          have kaq9 := SB_at Rq2.1 (s := a.toInt) (by omega) (by omega)
          have kbq9 := SB_at Rq2.1 (s := b.toInt) (by omega) (by omega)
          have kcq9 := SB_ne Rq2.1 (a := a.toInt) (b := b.toInt) (by omega) (by omega) (by omega) (by omega) (by omega)
          have kdq9 := Rq2.1.2.2.2.2.2.2
          refine r_inv rfl hM rfl (as := [.ref 68, .int a, .int b]) rfl (Nat.le_of_ble_eq_true rfl) (hT_mono (by decide) (w_163 hM Rq2 a b (by omega) (by omega) (by omega) (by omega)) (fun r1 M8 w => ?_))
          obtain ⟨rfl, q9, hM8, Rq9, Kq9, Oq9, Wq9, Tq9, Sq9, Lq9⟩ := w
          have mq9 : (q9.1 15).toInt = (q2.1 15).toInt := by rw [Kq9.1]
          have nq9 : (q9.1 17).toInt = (q2.1 17).toInt := by rw [Kq9.2.2.1]
          have fq9 : q9.1 41 = q.1 41 := Kq9.2.2.2.2.1.trans fq2
          have vq9 : (q9.1 16).toInt = (q2.1 16).toInt := by rw [Kq9.2.1]
          have cq9 : (q9.1 26).toInt = (q2.1 26).toInt := by rw [Kq9.2.2.2.1]
          have g74q9 : q9.2.2.1 74 = q2.2.2.1 74 := Kq9.2.2.2.2.2.2.2.1
          have b73q9 : rA (q9.2.2.1 73) (q9.1 15).toInt = rA (q2.2.2.1 73) (q2.1 15).toInt ∧ rA (q9.2.2.1 74) (q9.1 15).toInt = rA (q2.2.2.1 74) (q2.1 15).toInt := by rw [Kq9.2.2.2.2.2.2.1, Kq9.2.2.2.2.2.2.2.1, Kq9.1]; exact ⟨rfl, rfl⟩
          have h1q9 := Tq9
          have Gq9 : tgN q9 a.toInt b.toInt = tgN q2 a.toInt b.toInt := (tgN_KP Kq9).trans rfl
          refine hs (f := dm_ald 51 0) rfl rfl ?_
          refine hs (f := dm_ild 52 1) rfl rfl ?_
          refine hs (f := dm_ild 53 2) rfl rfl ?_
          refine r_inv rfl hM8 rfl (as := [.ref 68, .int a, .int b]) rfl (Nat.le_of_ble_eq_true rfl) (hT_mono (by decide) (w_164 hM8 Rq9 a b (by omega) (by omega) (by omega) (by omega)) (fun r1 M10 w => ?_))
          obtain ⟨rfl, q11, hM10, Rq11, Kq11, Wq11, Oq11, Lq11, Eq11⟩ := w
          have mq11 : (q11.1 15).toInt = (q9.1 15).toInt := by rw [Kq11.1]
          have nq11 : (q11.1 17).toInt = (q9.1 17).toInt := by rw [Kq11.2.2.1]
          have fq11 : q11.1 41 = q.1 41 := Kq11.2.2.2.2.1.trans fq9
          have vq11 : (q11.1 16).toInt = (q9.1 16).toInt := by rw [Kq11.2.1]
          have cq11 : (q11.1 26).toInt = (q9.1 26).toInt := by rw [Kq11.2.2.2.1]
          have Qq11 := sameW_ok Wq11 Wq9
          have q29q11 : (q11.1 29).toInt = (q9.1 29).toInt := by rw [Wq11.1]
          have hqq11 : (hN q11 : Int) = hN q9 := by rw [Qq11.2]
          have sxq11 := SN_max Oq11.1 Oq11.2 Lq11
          have syq11 : sN q11 ≤ 5760001 := sxq11
          have b73q11 : rA (q11.2.2.1 73) (q11.1 15).toInt = rA (q9.2.2.1 73) (q9.1 15).toInt ∧ rA (q11.2.2.1 74) (q11.1 15).toInt = rA (q9.2.2.1 74) (q9.1 15).toInt := by rw [Kq11.2.2.2.2.2.2.1, Kq11.2.2.2.2.2.2.2.1, Kq11.1]; exact ⟨rfl, rfl⟩
          have E2q11 := Eq11 (by rw [g74q9]; exact hw)
          have Gq11 : tgN q11 a.toInt b.toInt = tgN q2 a.toInt b.toInt := (tgN_KP Kq11).trans Gq9
          refine hs (f := dm_ald 57 0) rfl rfl ?_
          refine hs (f := dm_push 58 (.long 0)) rfl rfl ?_
          refine hs (f := dm_push 61 (.long 1152921504606846976)) rfl rfl ?_
          refine r_inv rfl hM10 rfl (as := [.ref 68, .long 0, .long 1152921504606846976]) rfl (Nat.le_of_ble_eq_true rfl) (hT_mono (by decide) (w_153 hM10 Oq11 (by omega)) (fun r1 M12 w => ?_))
          obtain ⟨rfl, rfl⟩ := w
          have eu13 : (Int32.ofNat (sN q11)).toInt = (sN q11 : Nat) := i_ofNat2 (by omega)
          refine hs (f := dm_ist 65 3) (lv' := [(3, .int (Int32.ofNat (sN q11))), (0, .ref 68), (1, .int a), (2, .int b)]) rfl rfl ?_
          refine hs (f := dm_ald 66 0) rfl rfl ?_
          refine hs (f := dm_push 67 (.long 0)) rfl rfl ?_
          refine hs (f := dm_push 70 (.long 1152921504606846976)) rfl rfl ?_
          refine r_inv rfl hM10 rfl (as := [.ref 68, .long 0, .long 1152921504606846976]) rfl (Nat.le_of_ble_eq_true rfl) (hT_mono (by decide) (w_151 hM10 Qq11.1 (by omega)) (fun r1 M14 w => ?_))
          obtain ⟨rfl, rfl⟩ := w
          have eu15 : (Int32.ofNat (hN q11)).toInt = (hN q11 : Nat) := i_ofNat2 (by omega)
          refine hs (f := dm_ist 75 4) (lv' := [(4, .int (Int32.ofNat (hN q11))), (3, .int (Int32.ofNat (sN q11))), (0, .ref 68), (1, .int a), (2, .int b)]) rfl rfl ?_
          refine hs (f := dm_ald 76 0) rfl rfl ?_
          refine r_inv rfl hM10 rfl (as := [.ref 68]) rfl (Nat.le_of_ble_eq_true rfl) (hT_mono (by decide) (w_160 hM10 Rq11 Qq11.1 (by omega) Oq11 (by omega) (by omega)) (fun r1 M16 w => ?_))
          obtain ⟨rfl, q17, hM16, Rq17, Kq17, Oq17, Wq17, Hq17, Lq17⟩ := w
          have mq17 : (q17.1 15).toInt = (q11.1 15).toInt := by rw [Kq17.1]
          have nq17 : (q17.1 17).toInt = (q11.1 17).toInt := by rw [Kq17.2.2.1]
          have fq17 : q17.1 41 = q.1 41 := Kq17.2.2.2.2.1.trans fq11
          have vq17 : (q17.1 16).toInt = (q11.1 16).toInt := by rw [Kq17.2.1]
          have cq17 : (q17.1 26).toInt = (q11.1 26).toInt := by rw [Kq17.2.2.2.1]
          have Pq17 := sameO_ok Oq17 Oq11
          have q34q17 : (q17.1 34).toInt = (q11.1 34).toInt := by rw [Oq17.1]
          have sqq17 : (sN q17 : Int) = sN q11 := by rw [Pq17.2.1]
          have Gq17 : tgN q17 a.toInt b.toInt = tgN q2 a.toInt b.toInt := (tgN_KP Kq17).trans Gq11
          refine hs (f := dm_ald 80 0) rfl rfl ?_
          refine hs (f := dm_push 81 (.int 2)) rfl rfl ?_
          refine hs (f := dm_push 82 (.int 2)) rfl rfl ?_
          refine hs (f := dm_ild 83 3) rfl rfl ?_
          have e18 : ((2 : Int32) * (Int32.ofNat (sN q11))).toInt = 2 * ((sN q11 : Nat) : Int) := by have w := i_mulc (x := (2 : Int32)) (y := (Int32.ofNat (sN q11))) 2 rfl (by omega) (by omega); omega
          refine hs (f := dm_ii 84 (fun x y => x * y)) (st' := [.int ((2 : Int32) * (Int32.ofNat (sN q11))), .int 2, .ref 68]) rfl rfl ?_
          refine hs (f := dm_ild 86 4) rfl rfl ?_
          have e19 : (((2 : Int32) * (Int32.ofNat (sN q11))) + (Int32.ofNat (hN q11))).toInt = 2 * ((sN q11 : Nat) : Int) + ((hN q11 : Nat) : Int) := by have w := i_add (x := ((2 : Int32) * (Int32.ofNat (sN q11)))) (y := (Int32.ofNat (hN q11))) (by omega) (by omega); omega
          refine hs (f := dm_ii 87 (fun x y => x + y)) (st' := [.int (((2 : Int32) * (Int32.ofNat (sN q11))) + (Int32.ofNat (hN q11))), .int 2, .ref 68]) rfl rfl ?_
          refine hs (f := dm_ald 88 0) rfl rfl ?_
          refine hs (f := dm_push 89 (.long 0)) rfl rfl ?_
          refine hs (f := dm_push 92 (.long 1152921504606846976)) rfl rfl ?_
          refine r_inv rfl hM16 rfl (as := [.ref 68, .long 0, .long 1152921504606846976]) rfl (Nat.le_of_ble_eq_true rfl) (hT_mono (by decide) (w_151 hM16 Wq17 (by omega)) (fun r1 M20 w => ?_))
          obtain ⟨rfl, rfl⟩ := w
          have eu21 : (Int32.ofNat (hN q17)).toInt = (hN q17 : Nat) := i_ofNat2 (by omega)
          have e22 : ((((2 : Int32) * (Int32.ofNat (sN q11))) + (Int32.ofNat (hN q11))) + (Int32.ofNat (hN q17))).toInt = 2 * ((sN q11 : Nat) : Int) + ((hN q11 : Nat) : Int) + ((hN q17 : Nat) : Int) := by have w := i_add (x := (((2 : Int32) * (Int32.ofNat (sN q11))) + (Int32.ofNat (hN q11)))) (y := (Int32.ofNat (hN q17))) (by omega) (by omega); omega
          refine hs (f := dm_ii 96 (fun x y => x + y)) (st' := [.int ((((2 : Int32) * (Int32.ofNat (sN q11))) + (Int32.ofNat (hN q11))) + (Int32.ofNat (hN q17))), .int 2, .ref 68]) rfl rfl ?_
          have tpu24 := SB_top Rq17.1
          have mau24 := Rq17.1.1
          have mbu24 := Rq17.1.2.1
          have mcu24 := Rq17.1.2.2.2.2.2.2
          have ecu24 : ((2 : Int32)).toInt = 2 := rfl
          refine r_inv rfl hM16 rfl (as := [.ref 68, .int 2, .int ((((2 : Int32) * (Int32.ofNat (sN q11))) + (Int32.ofNat (hN q11))) + (Int32.ofNat (hN q17)))]) rfl (Nat.le_of_ble_eq_true rfl) (hT_mono (by decide) (r_139 hM16 ⟨mau24, mbu24⟩ ⟨tpu24.1, by omega⟩ (2 : Int32) ((((2 : Int32) * (Int32.ofNat (sN q11))) + (Int32.ofNat (hN q11))) + (Int32.ofNat (hN q17))) (by omega) (by omega)) (fun r1 M23 w => ?_))
          obtain ⟨rfl, ⟨rfl, u24a, u24b⟩ | ⟨rfl, u24n⟩⟩ := w
          · skip
            refine hs (f := dm_if_ne 102 104) (pc' := 104) rfl rfl ?_
            refine hs (f := dm_ald 105 0) rfl rfl ?_
            refine hs (f := dm_ild 106 1) rfl rfl ?_
            refine hs (f := dm_ild 107 2) rfl rfl ?_
            refine r_inv rfl hM16 rfl (as := [.ref 68, .int a, .int b]) rfl (Nat.le_of_ble_eq_true rfl) (hT_mono (by decide) (w_155 hM16 Rq17 (by omega) a b (by have := Rq17.1.2.1; omega) (by have := Rq17.1.2.1; omega)) (fun r1 M25 w => ?_))
            obtain ⟨rfl, q26, hM25, Rq26, ⟨Kq261, Kq262, Kq263, Kq264, Kq265, Kq266, Kq267, Kq268, Kq269, Kq2610, Kq2611, Kq2612, Kq2613⟩, Wq26, Oq26⟩ := w
            have mq26 : (q26.1 15).toInt = (q17.1 15).toInt := by rw [Kq261]
            have nq26 : (q26.1 17).toInt = (q17.1 17).toInt := by rw [Kq263]
            have fq26 : q26.1 41 = q.1 41 := Kq265.trans fq17
            have vq26 : (q26.1 16).toInt = (q17.1 16).toInt := by rw [Kq262]
            have Qq26 := sameW_ok Wq26 Wq17
            have q29q26 : (q26.1 29).toInt = (q17.1 29).toInt := by rw [Wq26.1]
            have hqq26 : (hN q26 : Int) = hN q17 := by rw [Qq26.2]
            have Pq26 := sameO_ok Oq26 Pq17.1
            have q34q26 : (q26.1 34).toInt = (q17.1 34).toInt := by rw [Oq26.1]
            have sqq26 : (sN q26 : Int) = sN q17 := by rw [Pq26.2.1]
            have b73q26 : rA (q26.2.2.1 73) (q26.1 15).toInt = rA (q17.2.2.1 73) (q17.1 15).toInt ∧ rA (q26.2.2.1 74) (q26.1 15).toInt = rA (q17.2.2.1 74) (q17.1 15).toInt := by rw [Kq267, Kq268, Kq261]; exact ⟨rfl, rfl⟩
            have b82q26 : ∀ m : Int, rA (q26.2.2.1 82) m = rA (q17.2.2.1 82) m ∧ rA (q26.2.2.1 81) m = rA (q17.2.2.1 81) m := fun m => by rw [Kq2610, Kq269]; exact ⟨rfl, rfl⟩
            have b82q26a := b82q26 a.toInt
            have b82q26b := b82q26 b.toInt
            have Gq26 : tgN q26 a.toInt b.toInt = tgN q2 a.toInt b.toInt := (tgN_c Kq2611 Kq266 Kq267).trans Gq17
            refine hs (f := dm_ald 111 0) rfl rfl ?_
            refine hs (f := dm_ild 112 1) rfl rfl ?_
            refine hs (f := dm_ild 113 2) rfl rfl ?_
            have kaq28 := SB_at Rq26.1 (s := a.toInt) (by omega) (by omega)
            have kbq28 := SB_at Rq26.1 (s := b.toInt) (by omega) (by omega)
            have kcq28 := SB_ne Rq26.1 (a := a.toInt) (b := b.toInt) (by omega) (by omega) (by omega) (by omega) (by omega)
            have kdq28 := Rq26.1.2.2.2.2.2.2
            refine r_inv rfl hM25 rfl (as := [.ref 68, .int a, .int b]) rfl (Nat.le_of_ble_eq_true rfl) (hT_mono (by decide) (w_163 hM25 Rq26 a b (by omega) (by omega) (by omega) (by omega)) (fun r1 M27 w => ?_))
            obtain ⟨rfl, q28, hM27, Rq28, Kq28, Oq28, Wq28, Tq28, Sq28, Lq28⟩ := w
            have mq28 : (q28.1 15).toInt = (q26.1 15).toInt := by rw [Kq28.1]
            have nq28 : (q28.1 17).toInt = (q26.1 17).toInt := by rw [Kq28.2.2.1]
            have fq28 : q28.1 41 = q.1 41 := Kq28.2.2.2.2.1.trans fq26
            have vq28 : (q28.1 16).toInt = (q26.1 16).toInt := by rw [Kq28.2.1]
            have cq28 : (q28.1 26).toInt = (q26.1 26).toInt := by rw [Kq28.2.2.2.1]
            have g74q28 : q28.2.2.1 74 = q26.2.2.1 74 := Kq28.2.2.2.2.2.2.2.1
            have Pq28 := sameO_ok Oq28 Pq26.1
            have q34q28 : (q28.1 34).toInt = (q26.1 34).toInt := by rw [Oq28.1]
            have sqq28 : (sN q28 : Int) = sN q26 := by rw [Pq28.2.1]
            have b73q28 : rA (q28.2.2.1 73) (q28.1 15).toInt = rA (q26.2.2.1 73) (q26.1 15).toInt ∧ rA (q28.2.2.1 74) (q28.1 15).toInt = rA (q26.2.2.1 74) (q26.1 15).toInt := by rw [Kq28.2.2.2.2.2.2.1, Kq28.2.2.2.2.2.2.2.1, Kq28.1]; exact ⟨rfl, rfl⟩
            have h2q28 : (hN q28 : Int) = hN q9 := by rw [Tq28, Gq26, h1q9]
            have Gq28 : tgN q28 a.toInt b.toInt = tgN q2 a.toInt b.toInt := (tgN_KP Kq28).trans Gq26
            refine hs (f := dm_ald 117 0) rfl rfl ?_
            refine hs (f := dm_push 118 (.int 3)) rfl rfl ?_
            refine hs (f := dm_ild 119 1) rfl rfl ?_
            refine hs (f := dm_ild 120 2) rfl rfl ?_
            have tqq30 := SB_top Rq28.1
            have lwq30 : 2 * (q28.1 29).toInt - 1 ≤ (hN q28 : Nat) := HN_len Wq28
            have loq30 : 2 * (q28.1 34).toInt - 1 ≤ (sN q28 : Nat) := SN_len Pq28.1.1 Pq28.1.2
            refine r_inv rfl hM27 rfl (as := [.ref 68, .int 3, .int a, .int b]) rfl (Nat.le_of_ble_eq_true rfl) (hT_mono (by decide) (w_140 hM27 Rq28 (3 : Int32) a b (by have := Rq28.1.2.1; omega) (by have := Rq28.1.2.1; omega) Wq28 (by omega) Pq28.1 (by omega) (by omega) (by omega) (by omega) (by omega)) (fun r1 M29 w => ?_))
            obtain ⟨rfl, q30, hM29, Rq30, Aq301, Aq302, Aq303, Aq304, Aq305, Wq30, Oq30, Aq306, Aq307, Aq308, Aq309, Aq3010⟩ := w
            have fq30 : q30.1 41 = q.1 41 := Aq303.trans fq28
            have vq30 : (q30.1 16).toInt = (q28.1 16).toInt := by rw [Aq305]
            have Qq30 := sameW_ok Wq30 Wq28
            have Pq30 := sameO_ok Oq30 Pq28.1
            have q29q30 : (q30.1 29).toInt = (q28.1 29).toInt := by rw [Wq30.1]
            have q34q30 : (q30.1 34).toInt = (q28.1 34).toInt := by rw [Oq30.1]
            have hqq30 : (hN q30 : Int) = hN q28 := by rw [Qq30.2]
            have sqq30 : (sN q30 : Int) = sN q28 := by rw [Pq30.2.1]
            refine hs (f := dm_ist 125 5) (lv' := [(5, .int (q28.1 15)), (4, .int (Int32.ofNat (hN q11))), (3, .int (Int32.ofNat (sN q11))), (0, .ref 68), (1, .int a), (2, .int b)]) rfl rfl ?_
            refine hs (f := dm_ald 126 0) rfl rfl ?_
            refine r_inv rfl hM29 rfl (as := [.ref 68]) rfl (Nat.le_of_ble_eq_true rfl) (hT_mono (by decide) (w_160 hM29 Rq30 Qq30.1 (by omega) Pq30.1 (by omega) (by omega)) (fun r1 M31 w => ?_))
            obtain ⟨rfl, q32, hM31, Rq32, Kq32, Oq32, Wq32, Hq32, Lq32⟩ := w
            have mq32 : (q32.1 15).toInt = (q30.1 15).toInt := by rw [Kq32.1]
            have nq32 : (q32.1 17).toInt = (q30.1 17).toInt := by rw [Kq32.2.2.1]
            have fq32 : q32.1 41 = q.1 41 := Kq32.2.2.2.2.1.trans fq30
            have vq32 : (q32.1 16).toInt = (q30.1 16).toInt := by rw [Kq32.2.1]
            have cq32 : (q32.1 26).toInt = (q30.1 26).toInt := by rw [Kq32.2.2.2.1]
            have Pq32 := sameO_ok Oq32 Pq30.1
            have q34q32 : (q32.1 34).toInt = (q30.1 34).toInt := by rw [Oq32.1]
            have sqq32 : (sN q32 : Int) = sN q30 := by rw [Pq32.2.1]
            refine hs (f := dm_ald 130 0) rfl rfl ?_
            refine hs (f := dm_push 131 (.int 2)) rfl rfl ?_
            refine hs (f := dm_ild 133 5) rfl rfl ?_
            refine hs (f := dm_push 134 (.int (-1))) rfl rfl ?_
            have tqq34 := SB_top Rq32.1
            have lwq34 : 2 * (q32.1 29).toInt - 1 ≤ (hN q32 : Nat) := HN_len Wq32
            have loq34 : 2 * (q32.1 34).toInt - 1 ≤ (sN q32 : Nat) := SN_len Pq32.1.1 Pq32.1.2
            refine r_inv rfl hM31 rfl (as := [.ref 68, .int 2, .int (q28.1 15), .int (-1)]) rfl (Nat.le_of_ble_eq_true rfl) (hT_mono (by decide) (w_140 hM31 Rq32 (2 : Int32) (q28.1 15) (-1 : Int32) (by have := Rq32.1.2.1; omega) (by decide) Wq32 (by omega) Pq32.1 (by omega) (by omega) (by omega) (by omega) (by omega)) (fun r1 M33 w => ?_))
            obtain ⟨rfl, q34, hM33, Rq34, Aq341, Aq342, Aq343, Aq344, Aq345, Wq34, Oq34, Aq346, Aq347, Aq348, Aq349, Aq3410⟩ := w
            have fq34 : q34.1 41 = q.1 41 := Aq343.trans fq32
            have vq34 : (q34.1 16).toInt = (q32.1 16).toInt := by rw [Aq345]
            have Qq34 := sameW_ok Wq34 Wq32
            have Pq34 := sameO_ok Oq34 Pq32.1
            have q29q34 : (q34.1 29).toInt = (q32.1 29).toInt := by rw [Wq34.1]
            have q34q34 : (q34.1 34).toInt = (q32.1 34).toInt := by rw [Oq34.1]
            have hqq34 : (hN q34 : Int) = hN q32 := by rw [Qq34.2]
            have sqq34 : (sN q34 : Int) = sN q32 := by rw [Pq34.2.1]
            refine hs (f := dm_ist 139 6) (lv' := [(6, .int (q32.1 15)), (5, .int (q28.1 15)), (4, .int (Int32.ofNat (hN q11))), (3, .int (Int32.ofNat (sN q11))), (0, .ref 68), (1, .int a), (2, .int b)]) rfl rfl ?_
            refine hs (f := dm_ald 140 0) rfl rfl ?_
            refine hs (f := dm_ild 142 6) rfl rfl ?_
            have mdq36 := Rq34.1.2.1
            refine r_inv rfl hM33 rfl (as := [.ref 68, .int (q32.1 15)]) rfl (Nat.le_of_ble_eq_true rfl) (hT_mono (by decide) (w_161 hM33 Rq34 (by omega) (by omega) (q32.1 15) (by omega) (by omega)) (fun r1 M35 w => ?_))
            obtain ⟨rfl, q36, hM35, Rq36, ⟨Kq361, Kq362, Kq363, Kq364, Kq365, Kq366, Kq367⟩, Wq36, Oq36⟩ := w
            have fq36 : q36.1 41 = q.1 41 := Kq363.trans fq34
            have mq36 : (q36.1 15).toInt = (q34.1 15).toInt := by rw [Kq361]
            have nq36 : (q36.1 17).toInt = (q34.1 17).toInt := by rw [Kq362]
            have b73q36 : rA (q36.2.2.1 73) (q36.1 15).toInt = rA (q34.2.2.1 73) (q34.1 15).toInt ∧ rA (q36.2.2.1 74) (q36.1 15).toInt = rA (q34.2.2.1 74) (q34.1 15).toInt := by rw [Kq366, Kq367, Kq361]; exact ⟨rfl, rfl⟩
            have b82q36 : ∀ m : Int, rA (q36.2.2.1 82) m = rA (q34.2.2.1 82) m ∧ rA (q36.2.2.1 81) m = rA (q34.2.2.1 81) m := fun m => by rw [Kq365, Kq364]; exact ⟨rfl, rfl⟩
            have b82q36i := b82q36 ((q32.1 15).toInt)
            have Qq36 := sameW_ok Wq36 Qq34.1
            have Pq36 := sameO_ok Oq36 Pq34.1
            refine hs (f := dm_ald 146 0) rfl rfl ?_
            refine r_geta (c := 72) rfl hM35 rfl ?_
            refine hs (f := dm_ild 151 5) rfl rfl ?_
            refine hs (f := dm_push 152 (.int 0)) rfl rfl ?_
            refine r_zast (L := 1000) (i := (q28.1 15)) (x := (0 : Int32)) (q36.2.2.1 75) rfl hM35 rfl (by omega) rfl (fun M37 hM37 => ?_)
            replace hM37 := rm_to (q' := (sA q36 75 (upd (q36.2.2.1 75) (q28.1 15).toInt.toNat (vp_nar .boolean (0 : Int32))))) hM37 (show sA q36 75 (upd (q36.2.2.1 75) (q28.1 15).toInt.toNat (vp_nar .boolean (0 : Int32))) = (sA q36 75 (upd (q36.2.2.1 75) (q28.1 15).toInt.toNat (vp_nar .boolean (0 : Int32)))) from (show sA q36 75 (upd (q36.2.2.1 75) (q28.1 15).toInt.toNat (vp_nar .boolean (0 : Int32))) = (sA q36 75 (upd (q36.2.2.1 75) (q28.1 15).toInt.toNat (vp_nar .boolean (0 : Int32)))) from rfl))
            obtain ⟨q38, eq38⟩ : ∃ z, z = (sA q36 75 (upd (q36.2.2.1 75) (q28.1 15).toInt.toNat (vp_nar .boolean (0 : Int32)))) := ⟨_, rfl⟩
            rw [← eq38] at hM37
            have Rq38 : RI (T + 1) q38 := by rw [eq38]; exact Rq36
            have fq38 : q38.1 41 = q.1 41 := by rw [eq38]; exact fq36
            have mq38 : (q38.1 15).toInt = (q36.1 15).toInt := by rw [eq38]; rfl
            refine hs (f := dm_ald 154 0) rfl rfl ?_
            refine hs (f := dm_ild 155 1) rfl rfl ?_
            have meq40 := Rq38.1.2.1
            refine r_inv rfl hM37 rfl (as := [.ref 68, .int a]) rfl (Nat.le_of_ble_eq_true rfl) (hT_mono (by decide) (w_156 hM37 Rq38 a (by omega) (by omega)) (fun r1 M39 w => ?_))
            obtain ⟨rfl, q40, hM39, Rq40, Kq40⟩ := w
            have fq40 : q40.1 41 = q.1 41 := Kq40.2.2.2.2.1.trans fq38
            have mq40 : (q40.1 15).toInt = (q38.1 15).toInt := by rw [Kq40.1]
            refine hs (f := dm_ald 159 0) rfl rfl ?_
            refine hs (f := dm_ild 160 2) rfl rfl ?_
            have meq42 := Rq40.1.2.1
            refine r_inv rfl hM39 rfl (as := [.ref 68, .int b]) rfl (Nat.le_of_ble_eq_true rfl) (hT_mono (by decide) (w_156 hM39 Rq40 b (by omega) (by omega)) (fun r1 M41 w => ?_))
            obtain ⟨rfl, q42, hM41, Rq42, Kq42⟩ := w
            have fq42 : q42.1 41 = q.1 41 := Kq42.2.2.2.2.1.trans fq40
            have mq42 : (q42.1 15).toInt = (q40.1 15).toInt := by rw [Kq42.1]
            refine hs (f := dm_ild 165 6) rfl rfl ?_
            exact hr (f := dm_ret .int) rfl rfl (⟨_, q42, rfl, hM41, RI_up Rq42 (by omega), fq42⟩)
          · skip
            refine hs (f := dm_if_ne 102 104) (pc' := 102) rfl rfl ?_
            refine hs (f := dm_push 103 (.int (-1))) rfl rfl ?_
            exact hr (f := dm_ret .int) rfl rfl (⟨_, q17, rfl, hM16, RI_up Rq17 (by omega), fq17⟩)
        refine hs (f := dm_ald 27 0) rfl rfl ?_
        refine hs (f := dm_ild 28 1) rfl rfl ?_
        refine r_inv rfl hM1 rfl (as := [.ref 68, .int a]) rfl (Nat.le_of_ble_eq_true rfl) (hT_mono (by decide) (r_138 hM1 a (by omega) (by have := Rq2.1.2.1; omega)) (fun r1 M44 w => ?_))
        obtain ⟨rfl, ⟨rfl, u43a⟩ | ⟨rfl, u43n⟩⟩ := w
        · skip
          refine hs (f := dm_if_ne 34 44) (pc' := 44) rfl rfl ?_
          exact j44  _ hM1 (by omega)
        · skip
          refine hs (f := dm_if_ne 34 44) (pc' := 34) rfl rfl ?_
          refine hs (f := dm_ald 35 0) rfl rfl ?_
          refine hs (f := dm_ild 36 2) rfl rfl ?_
          refine r_inv rfl hM1 rfl (as := [.ref 68, .int b]) rfl (Nat.le_of_ble_eq_true rfl) (hT_mono (by decide) (r_138 hM1 b (by omega) (by have := Rq2.1.2.1; omega)) (fun r1 M46 w => ?_))
          obtain ⟨rfl, ⟨rfl, u45a⟩ | ⟨rfl, u45n⟩⟩ := w
          · skip
            refine hs (f := dm_if_ne 42 44) (pc' := 44) rfl rfl ?_
            exact j44  _ hM1 (by omega)
          · skip
            refine hs (f := dm_if_ne 42 44) (pc' := 42) rfl rfl ?_
            refine hs (f := dm_push 43 (.int (-1))) rfl rfl ?_
            exact hr (f := dm_ret .int) rfl rfl (⟨_, q2, rfl, hM1, RI_up Rq2 (by omega), fq2⟩)
    · skip
      refine hs (f := dm_if_eq 21 42) (pc' := 42) rfl rfl ?_
      refine hs (f := dm_push 43 (.int (-1))) rfl rfl ?_
      exact hr (f := dm_ret .int) rfl rfl (⟨_, q2, rfl, hM1, RI_up Rq2 (by omega), fq2⟩)
  · skip
    refine hs (f := dm_if_eq 13 42) (pc' := 42) rfl rfl ?_
    refine hs (f := dm_push 43 (.int (-1))) rfl rfl ?_
    exact hr (f := dm_ret .int) rfl rfl (⟨_, q2, rfl, hM1, RI_up Rq2 (by omega), fq2⟩)
