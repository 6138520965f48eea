/-! the reference's acts -/
set_option maxHeartbeats 4000000 in
theorem op_162 {X : dm_Mem} {q : rS} {M : dm_Mem} {T : Int} (hM : Rm X q M) (hR : RI T q) (hT6 : 0 ≤ T ∧ T ≤ 600) (s : Int32) : hT 66 162 [.ref 68, .int s] M (fun r M' => ∃ (x : Int32) (q' : rS), r = some (.int x) ∧ Rm X q' M' ∧ RI (T + 1) q' ∧ q'.1 41 = q.1 41) := by
  refine hx (t := cd_162) rfl (Nat.le_of_ble_eq_true rfl) (lv := [(0, .ref 68), (1, .int s)]) rfl ?_
  refine hs (f := dm_ald 1 0) rfl rfl ?_
  refine hs (f := dm_push 2 (.int 0)) rfl rfl ?_
  refine r_puti rfl hM rfl (fun M1 hM1 => ?_)
  replace hM1 := rm_to (q' := (sF q 40 (0 : Int32))) hM1 (show sF q 40 (0 : Int32) = (sF q 40 (0 : Int32)) from (show sF q 40 (0 : Int32) = (sF q 40 (0 : Int32)) from rfl))
  obtain ⟨q2, eq2⟩ : ∃ z, z = (sF q 40 (0 : Int32)) := ⟨_, rfl⟩
  rw [← eq2] at hM1
  have Rq2 : RI T q2 := by rw [eq2]; exact hR
  have Kq2 : KP q q2 := by rw [eq2]; exact ⟨rfl, rfl, rfl, rfl, rfl, rfl, rfl, rfl, rfl, rfl, rfl, rfl, rfl⟩
  have fq2 : q2.1 41 = q.1 41 := Kq2.2.2.2.2.1
  have evq2 := Rq2.2.2.1
  have mxq2 := Rq2.1.2.1
  have btq2 := Rq2.2.2.2.2.2.1
  refine hs (f := dm_ald 6 0) rfl rfl ?_
  refine hs (f := dm_ild 7 1) rfl rfl ?_
  refine r_inv rfl hM1 rfl (as := [.ref 68, .int s]) rfl (Nat.le_of_ble_eq_true rfl) (hT_mono (by decide) (r_137 hM1 Rq2.1.2.1 s) (fun r1 M4 w => ?_))
  obtain ⟨rfl, ⟨rfl, u3a, u3b⟩ | ⟨rfl, u3n⟩⟩ := w
  · skip
    refine hs (f := dm_if_eq 13 21) (pc' := 13) rfl rfl ?_
    refine hs (f := dm_ald 14 0) rfl rfl ?_
    refine hs (f := dm_ild 15 1) rfl rfl ?_
    refine r_inv rfl hM1 rfl (as := [.ref 68, .int s]) rfl (Nat.le_of_ble_eq_true rfl) (hT_mono (by decide) (r_138 hM1 s (by omega) (by have := Rq2.1.2.1; omega)) (fun r1 M6 w => ?_))
    obtain ⟨rfl, ⟨rfl, u5a⟩ | ⟨rfl, u5n⟩⟩ := w
    · skip
      refine hs (f := dm_if_ne 21 23) (pc' := 23) rfl rfl ?_
      refine hs (f := dm_ald 24 0) rfl rfl ?_
      refine hs (f := dm_ild 25 1) rfl rfl ?_
      refine r_inv rfl hM1 rfl (as := [.ref 68, .int s]) rfl (Nat.le_of_ble_eq_true rfl) (hT_mono (by decide) (w_142 hM1 Rq2 s (by omega) (by omega)) (fun r1 M7 w => ?_))
      obtain ⟨rfl, q8, hM7, Rq8, Kq8, Wq8, Oq8, Sq8, Lq8⟩ := w
      have mq8 : (q8.1 15).toInt = (q2.1 15).toInt := by rw [Kq8.1]
      have nq8 : (q8.1 17).toInt = (q2.1 17).toInt := by rw [Kq8.2.2.1]
      have fq8 : q8.1 41 = q.1 41 := Kq8.2.2.2.2.1.trans fq2
      have vq8 : (q8.1 16).toInt = (q2.1 16).toInt := by rw [Kq8.2.1]
      have a81q8 : rA (q8.2.2.1 81) s.toInt = rA (q2.2.2.1 81) s.toInt := by rw [Kq8.2.2.2.2.2.2.2.2.1]
      have a82q8 : rA (q8.2.2.1 82) s.toInt = rA (q2.2.2.1 82) s.toInt := by rw [Kq8.2.2.2.2.2.2.2.2.2.1]
      have a74q8 : rA (q8.2.2.1 74) s.toInt = rA (q2.2.2.1 74) s.toInt ∧ rA (q8.2.2.1 74) (s.toInt + 1) = rA (q2.2.2.1 74) (s.toInt + 1) := by rw [Kq8.2.2.2.2.2.2.2.1]; exact ⟨rfl, rfl⟩
      have hbq8 := SB_at Rq2.1 (s := s.toInt) (by omega) (by omega)
      have g34q8 : 1 ≤ (q8.1 34).toInt ∧ (q8.1 34).toInt ≤ 21000 := by omega
      refine hs (f := dm_ald 29 0) rfl rfl ?_
      refine hs (f := dm_ild 30 1) rfl rfl ?_
      refine r_inv rfl hM7 rfl (as := [.ref 68, .int s]) rfl (Nat.le_of_ble_eq_true rfl) (hT_mono (by decide) (w_141 hM7 Rq8 s (by omega) (by omega)) (fun r1 M9 w => ?_))
      obtain ⟨rfl, q10, hM9, Rq10, Kq10, Oq10, Wq10, Sq10⟩ := w
      have mq10 : (q10.1 15).toInt = (q8.1 15).toInt := by rw [Kq10.1]
      have nq10 : (q10.1 17).toInt = (q8.1 17).toInt := by rw [Kq10.2.2.1]
      have fq10 : q10.1 41 = q.1 41 := Kq10.2.2.2.2.1.trans fq8
      have vq10 : (q10.1 16).toInt = (q8.1 16).toInt := by rw [Kq10.2.1]
      have a81q10 : rA (q10.2.2.1 81) s.toInt = rA (q8.2.2.1 81) s.toInt := by rw [Kq10.2.2.2.2.2.2.2.2.1]
      have a82q10 : rA (q10.2.2.1 82) s.toInt = rA (q8.2.2.1 82) s.toInt := by rw [Kq10.2.2.2.2.2.2.2.2.2.1]
      have a74q10 : rA (q10.2.2.1 74) s.toInt = rA (q8.2.2.1 74) s.toInt ∧ rA (q10.2.2.1 74) (s.toInt + 1) = rA (q8.2.2.1 74) (s.toInt + 1) := by rw [Kq10.2.2.2.2.2.2.2.1]; exact ⟨rfl, rfl⟩
      have Pq10 := sameO_ok Oq10 Oq8
      have g34q10 : 1 ≤ (q10.1 34).toInt ∧ (q10.1 34).toInt ≤ 21000 := by rw [Pq10.2.2]; exact g34q8
      have sq10 : (sN q10 : Int) = rA (q10.2.2.1 81) s.toInt := by rw [Pq10.2.1]; omega
      refine hs (f := dm_ald 34 0) rfl rfl ?_
      have knq12 := SB_at Rq10.1 (s := s.toInt) (by omega) (by omega)
      have nnq12 := Rq10.1.2.2.2.2.2.2
      refine r_inv rfl hM9 rfl (as := [.ref 68]) rfl (Nat.le_of_ble_eq_true rfl) (hT_mono (by decide) (w_160 hM9 Rq10 Wq10 (by omega) Pq10.1 (show 1 ≤ (q10.1 34).toInt ∧ (q10.1 34).toInt ≤ 24000 by omega).2 g34q10.1) (fun r1 M11 w => ?_))
      obtain ⟨rfl, q12, hM11, Rq12, Kq12, Oq12, Wq12, Hq12, Lq12⟩ := w
      have mq12 : (q12.1 15).toInt = (q10.1 15).toInt := by rw [Kq12.1]
      have nq12 : (q12.1 17).toInt = (q10.1 17).toInt := by rw [Kq12.2.2.1]
      have fq12 : q12.1 41 = q.1 41 := Kq12.2.2.2.2.1.trans fq10
      have vq12 : (q12.1 16).toInt = (q10.1 16).toInt := by rw [Kq12.2.1]
      have a81q12 : rA (q12.2.2.1 81) s.toInt = rA (q10.2.2.1 81) s.toInt := by rw [Kq12.2.2.2.2.2.2.2.2.1]
      have a82q12 : rA (q12.2.2.1 82) s.toInt = rA (q10.2.2.1 82) s.toInt := by rw [Kq12.2.2.2.2.2.2.2.2.2.1]
      have a74q12 : rA (q12.2.2.1 74) s.toInt = rA (q10.2.2.1 74) s.toInt ∧ rA (q12.2.2.1 74) (s.toInt + 1) = rA (q10.2.2.1 74) (s.toInt + 1) := by rw [Kq12.2.2.2.2.2.2.2.1]; exact ⟨rfl, rfl⟩
      have Pq12 := sameO_ok Oq12 Pq10.1
      have g34q12 : 1 ≤ (q12.1 34).toInt ∧ (q12.1 34).toInt ≤ 21000 := by rw [Pq12.2.2]; exact g34q10
      have sq12 : (sN q12 : Int) = rA (q12.2.2.1 81) s.toInt := by rw [Pq12.2.1]; omega
      have hxq12 := HN_max Wq12 (by omega)
      have hyq12 : hN q12 ≤ 2880001 := hxq12
      refine hs (f := dm_ald 38 0) rfl rfl ?_
      refine hs (f := dm_push 39 (.int 1)) rfl rfl ?_
      refine hs (f := dm_ald 40 0) rfl rfl ?_
      refine r_geta (c := 78) rfl hM11 rfl ?_
      refine hs (f := dm_ild 44 1) rfl rfl ?_
      refine r_iald (L := 1000) (i := s) ((q12.2.2.1 81) s.toInt.toNat) rfl hM11 rfl (by omega) rfl ?_
      generalize g14 : (q12.2.2.1 81) s.toInt.toNat = v13
      have x15 : v13.toInt = rA (q12.2.2.1 81) s.toInt := rA_of (i := s) g14 rfl
      refine hs (f := dm_ald 46 0) rfl rfl ?_
      refine hs (f := dm_push 47 (.long 0)) rfl rfl ?_
      refine hs (f := dm_push 50 (.long 1152921504606846976)) rfl rfl ?_
      refine r_inv rfl hM11 rfl (as := [.ref 68, .long 0, .long 1152921504606846976]) rfl (Nat.le_of_ble_eq_true rfl) (hT_mono (by decide) (w_151 hM11 Wq12 (by omega)) (fun r1 M16 w => ?_))
      obtain ⟨rfl, rfl⟩ := w
      have eu17 : (Int32.ofNat (hN q12)).toInt = (hN q12 : Nat) := i_ofNat2 (by omega)
      have e18 : (v13 + (Int32.ofNat (hN q12))).toInt = rA (q12.2.2.1 81) s.toInt + ((hN q12 : Nat) : Int) := by have w := i_add (x := v13) (y := (Int32.ofNat (hN q12))) (by omega) (by omega); omega
      refine hs (f := dm_ii 54 (fun x y => x + y)) (st' := [.int (v13 + (Int32.ofNat (hN q12))), .int 1, .ref 68]) rfl rfl ?_
      have tpu20 := SB_top Rq12.1
      have mau20 := Rq12.1.1
      have mbu20 := Rq12.1.2.1
      have mcu20 := Rq12.1.2.2.2.2.2.2
      have ecu20 : ((1 : Int32)).toInt = 1 := rfl
      refine r_inv rfl hM11 rfl (as := [.ref 68, .int 1, .int (v13 + (Int32.ofNat (hN q12)))]) rfl (Nat.le_of_ble_eq_true rfl) (hT_mono (by decide) (r_139 hM11 ⟨mau20, mbu20⟩ ⟨tpu20.1, by omega⟩ (1 : Int32) (v13 + (Int32.ofNat (hN q12))) (by omega) (by omega)) (fun r1 M19 w => ?_))
      obtain ⟨rfl, ⟨rfl, u20a, u20b⟩ | ⟨rfl, u20n⟩⟩ := w
      · skip
        refine hs (f := dm_if_ne 60 62) (pc' := 62) rfl rfl ?_
        refine hs (f := dm_ald 63 0) rfl rfl ?_
        refine hs (f := dm_ild 64 1) rfl rfl ?_
        refine hs (f := dm_push 65 (.int (-1))) rfl rfl ?_
        refine r_inv rfl hM11 rfl (as := [.ref 68, .int s, .int (-1)]) rfl (Nat.le_of_ble_eq_true rfl) (hT_mono (by decide) (w_155 hM11 Rq12 (by omega) s (-1 : Int32) (by have := Rq12.1.2.1; omega) (by decide)) (fun r1 M21 w => ?_))
        obtain ⟨rfl, q22, hM21, Rq22, ⟨Kq221, Kq222, Kq223, Kq224, Kq225, Kq226, Kq227, Kq228, Kq229, Kq2210, Kq2211, Kq2212, Kq2213⟩, Wq22, Oq22⟩ := w
        have mq22 : (q22.1 15).toInt = (q12.1 15).toInt := by rw [Kq221]
        have nq22 : (q22.1 17).toInt = (q12.1 17).toInt := by rw [Kq223]
        have fq22 : q22.1 41 = q.1 41 := Kq225.trans fq12
        have vq22 : (q22.1 16).toInt = (q12.1 16).toInt := by rw [Kq222]
        have Qq22 := sameW_ok Wq22 Wq12
        have q29q22 : (q22.1 29).toInt = (q12.1 29).toInt := by rw [Wq22.1]
        have hqq22 : (hN q22 : Int) = hN q12 := by rw [Qq22.2]
        have Pq22 := sameO_ok Oq22 Pq12.1
        have q34q22 : (q22.1 34).toInt = (q12.1 34).toInt := by rw [Oq22.1]
        have sqq22 : (sN q22 : Int) = sN q12 := by rw [Pq22.2.1]
        have b73q22 : rA (q22.2.2.1 73) (q22.1 15).toInt = rA (q12.2.2.1 73) (q12.1 15).toInt ∧ rA (q22.2.2.1 74) (q22.1 15).toInt = rA (q12.2.2.1 74) (q12.1 15).toInt := by rw [Kq227, Kq228, Kq221]; exact ⟨rfl, rfl⟩
        have b82q22 : ∀ m : Int, rA (q22.2.2.1 82) m = rA (q12.2.2.1 82) m ∧ rA (q22.2.2.1 81) m = rA (q12.2.2.1 81) m := fun m => by rw [Kq2210, Kq229]; exact ⟨rfl, rfl⟩
        have b82q22s := b82q22 s.toInt
        refine hs (f := dm_ald 69 0) rfl rfl ?_
        refine hs (f := dm_push 70 (.int 2)) rfl rfl ?_
        refine hs (f := dm_ild 71 1) rfl rfl ?_
        refine hs (f := dm_push 72 (.int (-1))) rfl rfl ?_
        have tqq24 := SB_top Rq22.1
        have lwq24 : 2 * (q22.1 29).toInt - 1 ≤ (hN q22 : Nat) := HN_len Qq22.1
        have loq24 : 2 * (q22.1 34).toInt - 1 ≤ (sN q22 : Nat) := SN_len Pq22.1.1 Pq22.1.2
        refine r_inv rfl hM21 rfl (as := [.ref 68, .int 2, .int s, .int (-1)]) rfl (Nat.le_of_ble_eq_true rfl) (hT_mono (by decide) (w_140 hM21 Rq22 (2 : Int32) s (-1 : Int32) (by have := Rq22.1.2.1; omega) (by decide) Qq22.1 (by omega) Pq22.1 (by omega) (by omega) (by omega) (by omega) (by omega)) (fun r1 M23 w => ?_))
        obtain ⟨rfl, q24, hM23, Rq24, Aq241, Aq242, Aq243, Aq244, Aq245, Wq24, Oq24, Aq246, Aq247, Aq248, Aq249, Aq2410⟩ := w
        have fq24 : q24.1 41 = q.1 41 := Aq243.trans fq22
        have vq24 : (q24.1 16).toInt = (q22.1 16).toInt := by rw [Aq245]
        have Qq24 := sameW_ok Wq24 Qq22.1
        have Pq24 := sameO_ok Oq24 Pq22.1
        have q29q24 : (q24.1 29).toInt = (q22.1 29).toInt := by rw [Wq24.1]
        have q34q24 : (q24.1 34).toInt = (q22.1 34).toInt := by rw [Oq24.1]
        have hqq24 : (hN q24 : Int) = hN q22 := by rw [Qq24.2]
        have sqq24 : (sN q24 : Int) = sN q22 := by rw [Pq24.2.1]
        refine hs (f := dm_ist 76 2) (lv' := [(2, .int (q22.1 15)), (0, .ref 68), (1, .int s)]) rfl rfl ?_
        refine hs (f := dm_ald 77 0) rfl rfl ?_
        refine hs (f := dm_ild 78 2) rfl rfl ?_
        have mdq26 := Rq24.1.2.1
        refine r_inv rfl hM23 rfl (as := [.ref 68, .int (q22.1 15)]) rfl (Nat.le_of_ble_eq_true rfl) (hT_mono (by decide) (w_161 hM23 Rq24 (by omega) (by omega) (q22.1 15) (by omega) (by omega)) (fun r1 M25 w => ?_))
        obtain ⟨rfl, q26, hM25, Rq26, ⟨Kq261, Kq262, Kq263, Kq264, Kq265, Kq266, Kq267⟩, Wq26, Oq26⟩ := w
        have fq26 : q26.1 41 = q.1 41 := Kq263.trans fq24
        have mq26 : (q26.1 15).toInt = (q24.1 15).toInt := by rw [Kq261]
        have nq26 : (q26.1 17).toInt = (q24.1 17).toInt := by rw [Kq262]
        have b73q26 : rA (q26.2.2.1 73) (q26.1 15).toInt = rA (q24.2.2.1 73) (q24.1 15).toInt ∧ rA (q26.2.2.1 74) (q26.1 15).toInt = rA (q24.2.2.1 74) (q24.1 15).toInt := by rw [Kq266, Kq267, Kq261]; exact ⟨rfl, rfl⟩
        have b82q26 : ∀ m : Int, rA (q26.2.2.1 82) m = rA (q24.2.2.1 82) m ∧ rA (q26.2.2.1 81) m = rA (q24.2.2.1 81) m := fun m => by rw [Kq265, Kq264]; exact ⟨rfl, rfl⟩
        have b82q26i := b82q26 ((q22.1 15).toInt)
        have Qq26 := sameW_ok Wq26 Qq24.1
        have Pq26 := sameO_ok Oq26 Pq24.1
        refine hs (f := dm_ald 82 0) rfl rfl ?_
        refine hs (f := dm_ild 83 1) rfl rfl ?_
        have meq28 := Rq26.1.2.1
        refine r_inv rfl hM25 rfl (as := [.ref 68, .int s]) rfl (Nat.le_of_ble_eq_true rfl) (hT_mono (by decide) (w_156 hM25 Rq26 s (by omega) (by omega)) (fun r1 M27 w => ?_))
        obtain ⟨rfl, q28, hM27, Rq28, Kq28⟩ := w
        have fq28 : q28.1 41 = q.1 41 := Kq28.2.2.2.2.1.trans fq26
        have mq28 : (q28.1 15).toInt = (q26.1 15).toInt := by rw [Kq28.1]
        refine hs (f := dm_ild 87 2) rfl rfl ?_
        exact hr (f := dm_ret .int) rfl rfl (⟨_, q28, rfl, hM27, RI_up Rq28 (by omega), fq28⟩)
      · skip
        refine hs (f := dm_if_ne 60 62) (pc' := 60) rfl rfl ?_
        refine hs (f := dm_push 61 (.int (-1))) rfl rfl ?_
        exact hr (f := dm_ret .int) rfl rfl (⟨_, q12, rfl, hM11, RI_up Rq12 (by omega), fq12⟩)
    · skip
      refine hs (f := dm_if_ne 21 23) (pc' := 21) rfl rfl ?_
      refine hs (f := dm_push 22 (.int (-1))) rfl rfl ?_
      exact hr (f := dm_ret .int) rfl rfl (⟨_, q2, rfl, hM1, RI_up Rq2 (by omega), fq2⟩)
  · skip
    refine hs (f := dm_if_eq 13 21) (pc' := 21) rfl rfl ?_
    refine hs (f := dm_push 22 (.int (-1))) rfl rfl ?_
    exact hr (f := dm_ret .int) rfl rfl (⟨_, q2, rfl, hM1, RI_up Rq2 (by omega), fq2⟩)
set_option maxHeartbeats 4000000 in
theorem op_167 {X : dm_Mem} {q : rS} {M : dm_Mem} {T : Int} (hM : Rm X q M) (hR : RI T q) (hT6 : 0 ≤ T ∧ T ≤ 600) (s : Int32) : hT 65 167 [.ref 68, .int s] M (fun r M' => ∃ (x : Int32) (q' : rS), r = some (.int x) ∧ Rm X q' M' ∧ RI (T + 1) q' ∧ q'.1 41 = q.1 41) := by
  refine hx (t := cd_167) rfl (Nat.le_of_ble_eq_true rfl) (lv := [(0, .ref 68), (1, .int s)]) rfl ?_
  refine hs (f := dm_ald 1 0) rfl rfl ?_
  refine hs (f := dm_push 2 (.int 0)) rfl rfl ?_
  refine r_puti rfl hM rfl (fun M1 hM1 => ?_)
  replace hM1 := rm_to (q' := (sF q 40 (0 : Int32))) hM1 (show sF q 40 (0 : Int32) = (sF q 40 (0 : Int32)) from (show sF q 40 (0 : Int32) = (sF q 40 (0 : Int32)) from rfl))
  obtain ⟨q2, eq2⟩ : ∃ z, z = (sF q 40 (0 : Int32)) := ⟨_, rfl⟩
  rw [← eq2] at hM1
  have Rq2 : RI T q2 := by rw [eq2]; exact hR
  have Kq2 : KP q q2 := by rw [eq2]; exact ⟨rfl, rfl, rfl, rfl, rfl, rfl, rfl, rfl, rfl, rfl, rfl, rfl, rfl⟩
  have fq2 : q2.1 41 = q.1 41 := Kq2.2.2.2.2.1
  have evq2 := Rq2.2.2.1
  have mxq2 := Rq2.1.2.1
  have btq2 := Rq2.2.2.2.2.2.1
  refine hs (f := dm_ald 6 0) rfl rfl ?_
  refine hs (f := dm_ild 7 1) rfl rfl ?_
  refine r_inv rfl hM1 rfl (as := [.ref 68, .int s]) rfl (Nat.le_of_ble_eq_true rfl) (hT_mono (by decide) (r_137 hM1 Rq2.1.2.1 s) (fun r1 M4 w => ?_))
  obtain ⟨rfl, ⟨rfl, u3a, u3b⟩ | ⟨rfl, u3n⟩⟩ := w
  · skip
    refine hs (f := dm_if_eq 13 29) (pc' := 13) rfl rfl ?_
    refine hs (f := dm_ald 14 0) rfl rfl ?_
    refine hs (f := dm_push 15 (.int 1)) rfl rfl ?_
    refine hs (f := dm_push 16 (.int 1)) rfl rfl ?_
    refine hs (f := dm_ald 17 0) rfl rfl ?_
    have kp := SB_at Rq2.1 (s := s.toInt) (by omega) (by omega)
    have kp2 := Rq2.1.2.2.2.2.2.2
    refine r_geta (c := 79) rfl hM1 rfl ?_
    refine hs (f := dm_ild 21 1) rfl rfl ?_
    refine r_iald (L := 1000) (i := s) ((q2.2.2.1 82) s.toInt.toNat) rfl hM1 rfl (by omega) rfl ?_
    generalize g6 : (q2.2.2.1 82) s.toInt.toNat = v5
    have x7 : v5.toInt = rA (q2.2.2.1 82) s.toInt := rA_of (i := s) g6 rfl
    have e8c : ((1 : Int32)).toInt = 1 := rfl
    have e8 : ((1 : Int32) + v5).toInt = 1 + rA (q2.2.2.1 82) s.toInt := by have w := i_add (x := (1 : Int32)) (y := v5) (by omega) (by omega); omega
    refine hs (f := dm_ii 23 (fun x y => x + y)) (st' := [.int ((1 : Int32) + v5), .int 1, .ref 68]) rfl rfl ?_
    have tpu10 := SB_top Rq2.1
    have mau10 := Rq2.1.1
    have mbu10 := Rq2.1.2.1
    have mcu10 := Rq2.1.2.2.2.2.2.2
    have ecu10 : ((1 : Int32)).toInt = 1 := rfl
    refine r_inv rfl hM1 rfl (as := [.ref 68, .int 1, .int ((1 : Int32) + v5)]) rfl (Nat.le_of_ble_eq_true rfl) (hT_mono (by decide) (r_139 hM1 ⟨mau10, mbu10⟩ ⟨tpu10.1, by omega⟩ (1 : Int32) ((1 : Int32) + v5) (by omega) (by omega)) (fun r1 M9 w => ?_))
    obtain ⟨rfl, ⟨rfl, u10a, u10b⟩ | ⟨rfl, u10n⟩⟩ := w
    · skip
      refine hs (f := dm_if_ne 29 31) (pc' := 31) rfl rfl ?_
      refine hs (f := dm_ald 32 0) rfl rfl ?_
      refine hs (f := dm_push 33 (.int (-1))) rfl rfl ?_
      refine hs (f := dm_push 34 (.int (-1))) rfl rfl ?_
      refine r_inv rfl hM1 rfl (as := [.ref 68, .int (-1), .int (-1)]) rfl (Nat.le_of_ble_eq_true rfl) (hT_mono (by decide) (w_155 hM1 Rq2 (by omega) (-1 : Int32) (-1 : Int32) (by decide) (by decide)) (fun r1 M11 w => ?_))
      obtain ⟨rfl, q12, hM11, Rq12, ⟨Kq121, Kq122, Kq123, Kq124, Kq125, Kq126, Kq127, Kq128, Kq129, Kq1210, Kq1211, Kq1212, Kq1213⟩, Wq12, Oq12⟩ := w
      have mq12 : (q12.1 15).toInt = (q2.1 15).toInt := by rw [Kq121]
      have nq12 : (q12.1 17).toInt = (q2.1 17).toInt := by rw [Kq123]
      have fq12 : q12.1 41 = q.1 41 := Kq125.trans fq2
      have vq12 : (q12.1 16).toInt = (q2.1 16).toInt := by rw [Kq122]
      have b73q12 : rA (q12.2.2.1 73) (q12.1 15).toInt = rA (q2.2.2.1 73) (q2.1 15).toInt ∧ rA (q12.2.2.1 74) (q12.1 15).toInt = rA (q2.2.2.1 74) (q2.1 15).toInt := by rw [Kq127, Kq128, Kq121]; exact ⟨rfl, rfl⟩
      have b82q12 : ∀ m : Int, rA (q12.2.2.1 82) m = rA (q2.2.2.1 82) m ∧ rA (q12.2.2.1 81) m = rA (q2.2.2.1 81) m := fun m => by rw [Kq1210, Kq129]; exact ⟨rfl, rfl⟩
      have b82q12s := b82q12 s.toInt
      refine hs (f := dm_ald 38 0) rfl rfl ?_
      refine hs (f := dm_ild 39 1) rfl rfl ?_
      refine r_inv rfl hM11 rfl (as := [.ref 68, .int s]) rfl (Nat.le_of_ble_eq_true rfl) (hT_mono (by decide) (w_141 hM11 Rq12 s (by omega) (by omega)) (fun r1 M13 w => ?_))
      obtain ⟨rfl, q14, hM13, Rq14, Kq14, Oq14, Wq14, Sq14⟩ := w
      have mq14 : (q14.1 15).toInt = (q12.1 15).toInt := by rw [Kq14.1]
      have nq14 : (q14.1 17).toInt = (q12.1 17).toInt := by rw [Kq14.2.2.1]
      have fq14 : q14.1 41 = q.1 41 := Kq14.2.2.2.2.1.trans fq12
      have vq14 : (q14.1 16).toInt = (q12.1 16).toInt := by rw [Kq14.2.1]
      have b73q14 : rA (q14.2.2.1 73) (q14.1 15).toInt = rA (q12.2.2.1 73) (q12.1 15).toInt ∧ rA (q14.2.2.1 74) (q14.1 15).toInt = rA (q12.2.2.1 74) (q12.1 15).toInt := by rw [Kq14.2.2.2.2.2.2.1, Kq14.2.2.2.2.2.2.2.1, Kq14.1]; exact ⟨rfl, rfl⟩
      have lwq14 : 2 * (q14.1 29).toInt - 1 ≤ (hN q14 : Nat) := HN_len Wq14
      refine hs (f := dm_ald 43 0) rfl rfl ?_
      refine hs (f := dm_push 44 (.int 0)) rfl rfl ?_
      refine r_puti rfl hM13 rfl (fun M15 hM15 => ?_)
      replace hM15 := rm_to (q' := (sF q14 34 (0 : Int32))) hM15 (show sF q14 34 (0 : Int32) = (sF q14 34 (0 : Int32)) from (show sF q14 34 (0 : Int32) = (sF q14 34 (0 : Int32)) from rfl))
      obtain ⟨q16, eq16⟩ : ∃ z, z = (sF q14 34 (0 : Int32)) := ⟨_, rfl⟩
      rw [← eq16] at hM15
      have Rq16 : RI (T + 1) q16 := by rw [eq16]; exact Rq14
      have Wq16 : okW q16 ∧ hN q16 = hN q14 := by rw [eq16]; exact ⟨Wq14, rfl⟩
      have Oq16 : okO q16 := by rw [eq16]; exact ⟨⟨fun i i0 i1 => absurd i1 (by show ¬ i < (0 : Int); omega), fun i i0 i1 => absurd i1 (by show ¬ i + 1 < (0 : Int); omega)⟩, by show (0 : Int) ≤ 0; decide⟩
      have sq16 : (sN q16 : Int) = 1 := by rw [eq16]; rfl
      have fq16 : q16.1 41 = q.1 41 := by rw [eq16]; exact fq14
      have mq16 : (q16.1 15).toInt = (q14.1 15).toInt ∧ (q16.1 17).toInt = (q14.1 17).toInt ∧ (q16.1 34).toInt = 0 ∧ (q16.1 29).toInt = (q14.1 29).toInt ∧ (hN q16 : Int) = hN q14 ∧ rA (q16.2.2.1 73) (q16.1 15).toInt = rA (q14.2.2.1 73) (q14.1 15).toInt ∧ rA (q16.2.2.1 74) (q16.1 15).toInt = rA (q14.2.2.1 74) (q14.1 15).toInt ∧ (q16.1 16).toInt = (q14.1 16).toInt := by rw [eq16]; exact ⟨rfl, rfl, rfl, rfl, rfl, rfl, rfl, rfl⟩
      refine hs (f := dm_ald 48 0) rfl rfl ?_
      refine hs (f := dm_push 49 (.int 4)) rfl rfl ?_
      refine hs (f := dm_ild 50 1) rfl rfl ?_
      refine hs (f := dm_push 51 (.int (-1))) rfl rfl ?_
      have tqq18 := SB_top Rq16.1
      have lwq18 : 2 * (q16.1 29).toInt - 1 ≤ (hN q16 : Nat) := HN_len Wq16.1
      have loq18 : 2 * (q16.1 34).toInt - 1 ≤ (sN q16 : Nat) := SN_len Oq16.1 Oq16.2
      refine r_inv rfl hM15 rfl (as := [.ref 68, .int 4, .int s, .int (-1)]) rfl (Nat.le_of_ble_eq_true rfl) (hT_mono (by decide) (w_140 hM15 Rq16 (4 : Int32) s (-1 : Int32) (by have := Rq16.1.2.1; omega) (by decide) Wq16.1 (by omega) Oq16 (by omega) (by omega) (by omega) (by omega) (by omega)) (fun r1 M17 w => ?_))
      obtain ⟨rfl, q18, hM17, Rq18, Aq181, Aq182, Aq183, Aq184, Aq185, Wq18, Oq18, Aq186, Aq187, Aq188, Aq189, Aq1810⟩ := w
      have fq18 : q18.1 41 = q.1 41 := Aq183.trans fq16
      have vq18 : (q18.1 16).toInt = (q16.1 16).toInt := by rw [Aq185]
      have Qq18 := sameW_ok Wq18 Wq16.1
      have Pq18 := sameO_ok Oq18 Oq16
      have q29q18 : (q18.1 29).toInt = (q16.1 29).toInt := by rw [Wq18.1]
      have q34q18 : (q18.1 34).toInt = (q16.1 34).toInt := by rw [Oq18.1]
      have hqq18 : (hN q18 : Int) = hN q16 := by rw [Qq18.2]
      have sqq18 : (sN q18 : Int) = sN q16 := by rw [Pq18.2.1]
      exact hr (f := dm_ret .int) rfl rfl (⟨_, q18, rfl, hM17, RI_up Rq18 (by omega), fq18⟩)
    · skip
      refine hs (f := dm_if_ne 29 31) (pc' := 29) rfl rfl ?_
      refine hs (f := dm_push 30 (.int (-1))) rfl rfl ?_
      exact hr (f := dm_ret .int) rfl rfl (⟨_, q2, rfl, hM1, RI_up Rq2 (by omega), fq2⟩)
  · skip
    refine hs (f := dm_if_eq 13 29) (pc' := 29) rfl rfl ?_
    refine hs (f := dm_push 30 (.int (-1))) rfl rfl ?_
    exact hr (f := dm_ret .int) rfl rfl (⟨_, q2, rfl, hM1, RI_up Rq2 (by omega), fq2⟩)
set_option maxHeartbeats 4000000 in
theorem op_168 {X : dm_Mem} {q : rS} {M : dm_Mem} {T : Int} (hM : Rm X q M) (hR : RI T q) (hT6 : 0 ≤ T ∧ T ≤ 600) (s : Int32) : hT 66 168 [.ref 68, .int s] M (fun r M' => ∃ (x : Int32) (q' : rS), r = some (.int x) ∧ Rm X q' M' ∧ RI (T + 1) q' ∧ q'.1 41 = q.1 41) := by
  refine hx (t := cd_168) rfl (Nat.le_of_ble_eq_true rfl) (lv := [(0, .ref 68), (1, .int s)]) rfl ?_
  refine hs (f := dm_ald 1 0) rfl rfl ?_
  refine hs (f := dm_push 2 (.int 0)) rfl rfl ?_
  refine r_puti rfl hM rfl (fun M1 hM1 => ?_)
  replace hM1 := rm_to (q' := (sF q 40 (0 : Int32))) hM1 (show sF q 40 (0 : Int32) = (sF q 40 (0 : Int32)) from (show sF q 40 (0 : Int32) = (sF q 40 (0 : Int32)) from rfl))
  obtain ⟨q2, eq2⟩ : ∃ z, z = (sF q 40 (0 : Int32)) := ⟨_, rfl⟩
  rw [← eq2] at hM1
  have Rq2 : RI T q2 := by rw [eq2]; exact hR
  have Kq2 : KP q q2 := by rw [eq2]; exact ⟨rfl, rfl, rfl, rfl, rfl, rfl, rfl, rfl, rfl, rfl, rfl, rfl, rfl⟩
  have fq2 : q2.1 41 = q.1 41 := Kq2.2.2.2.2.1
  have evq2 := Rq2.2.2.1
  have mxq2 := Rq2.1.2.1
  have btq2 := Rq2.2.2.2.2.2.1
  refine hs (f := dm_ald 6 0) rfl rfl ?_
  refine hs (f := dm_ild 7 1) rfl rfl ?_
  refine r_inv rfl hM1 rfl (as := [.ref 68, .int s]) rfl (Nat.le_of_ble_eq_true rfl) (hT_mono (by decide) (r_137 hM1 Rq2.1.2.1 s) (fun r1 M4 w => ?_))
  obtain ⟨rfl, ⟨rfl, u3a, u3b⟩ | ⟨rfl, u3n⟩⟩ := w
  · skip
    refine hs (f := dm_if_eq 13 21) (pc' := 13) rfl rfl ?_
    refine hs (f := dm_ald 14 0) rfl rfl ?_
    refine hs (f := dm_ild 15 1) rfl rfl ?_
    refine r_inv rfl hM1 rfl (as := [.ref 68, .int s]) rfl (Nat.le_of_ble_eq_true rfl) (hT_mono (by decide) (r_138 hM1 s (by omega) (by have := Rq2.1.2.1; omega)) (fun r1 M6 w => ?_))
    obtain ⟨rfl, ⟨rfl, u5a⟩ | ⟨rfl, u5n⟩⟩ := w
    · skip
      refine hs (f := dm_if_ne 21 23) (pc' := 23) rfl rfl ?_
      refine hs (f := dm_ald 24 0) rfl rfl ?_
      refine hs (f := dm_ild 25 1) rfl rfl ?_
      refine r_inv rfl hM1 rfl (as := [.ref 68, .int s]) rfl (Nat.le_of_ble_eq_true rfl) (hT_mono (by decide) (w_142 hM1 Rq2 s (by omega) (by omega)) (fun r1 M7 w => ?_))
      obtain ⟨rfl, q8, hM7, Rq8, Kq8, Wq8, Oq8, Sq8, Lq8⟩ := w
      have mq8 : (q8.1 15).toInt = (q2.1 15).toInt := by rw [Kq8.1]
      have nq8 : (q8.1 17).toInt = (q2.1 17).toInt := by rw [Kq8.2.2.1]
      have fq8 : q8.1 41 = q.1 41 := Kq8.2.2.2.2.1.trans fq2
      have vq8 : (q8.1 16).toInt = (q2.1 16).toInt := by rw [Kq8.2.1]
      have a81q8 : rA (q8.2.2.1 81) s.toInt = rA (q2.2.2.1 81) s.toInt := by rw [Kq8.2.2.2.2.2.2.2.2.1]
      have a82q8 : rA (q8.2.2.1 82) s.toInt = rA (q2.2.2.1 82) s.toInt := by rw [Kq8.2.2.2.2.2.2.2.2.2.1]
      have a74q8 : rA (q8.2.2.1 74) s.toInt = rA (q2.2.2.1 74) s.toInt ∧ rA (q8.2.2.1 74) (s.toInt + 1) = rA (q2.2.2.1 74) (s.toInt + 1) := by rw [Kq8.2.2.2.2.2.2.2.1]; exact ⟨rfl, rfl⟩
      have hbq8 := SB_at Rq2.1 (s := s.toInt) (by omega) (by omega)
      have g34q8 : 1 ≤ (q8.1 34).toInt ∧ (q8.1 34).toInt ≤ 21000 := by omega
      refine hs (f := dm_ald 29 0) rfl rfl ?_
      refine hs (f := dm_ild 30 1) rfl rfl ?_
      refine r_inv rfl hM7 rfl (as := [.ref 68, .int s]) rfl (Nat.le_of_ble_eq_true rfl) (hT_mono (by decide) (w_141 hM7 Rq8 s (by omega) (by omega)) (fun r1 M9 w => ?_))
      obtain ⟨rfl, q10, hM9, Rq10, Kq10, Oq10, Wq10, Sq10⟩ := w
      have mq10 : (q10.1 15).toInt = (q8.1 15).toInt := by rw [Kq10.1]
      have nq10 : (q10.1 17).toInt = (q8.1 17).toInt := by rw [Kq10.2.2.1]
      have fq10 : q10.1 41 = q.1 41 := Kq10.2.2.2.2.1.trans fq8
      have vq10 : (q10.1 16).toInt = (q8.1 16).toInt := by rw [Kq10.2.1]
      have a81q10 : rA (q10.2.2.1 81) s.toInt = rA (q8.2.2.1 81) s.toInt := by rw [Kq10.2.2.2.2.2.2.2.2.1]
      have a82q10 : rA (q10.2.2.1 82) s.toInt = rA (q8.2.2.1 82) s.toInt := by rw [Kq10.2.2.2.2.2.2.2.2.2.1]
      have a74q10 : rA (q10.2.2.1 74) s.toInt = rA (q8.2.2.1 74) s.toInt ∧ rA (q10.2.2.1 74) (s.toInt + 1) = rA (q8.2.2.1 74) (s.toInt + 1) := by rw [Kq10.2.2.2.2.2.2.2.1]; exact ⟨rfl, rfl⟩
      have Pq10 := sameO_ok Oq10 Oq8
      have g34q10 : 1 ≤ (q10.1 34).toInt ∧ (q10.1 34).toInt ≤ 21000 := by rw [Pq10.2.2]; exact g34q8
      have sq10 : (sN q10 : Int) = rA (q10.2.2.1 81) s.toInt := by rw [Pq10.2.1]; omega
      refine hs (f := dm_ald 34 0) rfl rfl ?_
      have knq12 := SB_at Rq10.1 (s := s.toInt) (by omega) (by omega)
      have nnq12 := Rq10.1.2.2.2.2.2.2
      refine r_inv rfl hM9 rfl (as := [.ref 68]) rfl (Nat.le_of_ble_eq_true rfl) (hT_mono (by decide) (w_160 hM9 Rq10 Wq10 (by omega) Pq10.1 (show 1 ≤ (q10.1 34).toInt ∧ (q10.1 34).toInt ≤ 24000 by omega).2 g34q10.1) (fun r1 M11 w => ?_))
      obtain ⟨rfl, q12, hM11, Rq12, Kq12, Oq12, Wq12, Hq12, Lq12⟩ := w
      have mq12 : (q12.1 15).toInt = (q10.1 15).toInt := by rw [Kq12.1]
      have nq12 : (q12.1 17).toInt = (q10.1 17).toInt := by rw [Kq12.2.2.1]
      have fq12 : q12.1 41 = q.1 41 := Kq12.2.2.2.2.1.trans fq10
      have vq12 : (q12.1 16).toInt = (q10.1 16).toInt := by rw [Kq12.2.1]
      have a81q12 : rA (q12.2.2.1 81) s.toInt = rA (q10.2.2.1 81) s.toInt := by rw [Kq12.2.2.2.2.2.2.2.2.1]
      have a82q12 : rA (q12.2.2.1 82) s.toInt = rA (q10.2.2.1 82) s.toInt := by rw [Kq12.2.2.2.2.2.2.2.2.2.1]
      have a74q12 : rA (q12.2.2.1 74) s.toInt = rA (q10.2.2.1 74) s.toInt ∧ rA (q12.2.2.1 74) (s.toInt + 1) = rA (q10.2.2.1 74) (s.toInt + 1) := by rw [Kq12.2.2.2.2.2.2.2.1]; exact ⟨rfl, rfl⟩
      have Pq12 := sameO_ok Oq12 Pq10.1
      have g34q12 : 1 ≤ (q12.1 34).toInt ∧ (q12.1 34).toInt ≤ 21000 := by rw [Pq12.2.2]; exact g34q10
      have sq12 : (sN q12 : Int) = rA (q12.2.2.1 81) s.toInt := by rw [Pq12.2.1]; omega
      have hxq12 := HN_max Wq12 (by omega)
      have hyq12 : hN q12 ≤ 2880001 := hxq12
      refine hs (f := dm_ald 38 0) rfl rfl ?_
      refine hs (f := dm_push 39 (.long 0)) rfl rfl ?_
      refine hs (f := dm_push 42 (.long 1152921504606846976)) rfl rfl ?_
      refine r_inv rfl hM11 rfl (as := [.ref 68, .long 0, .long 1152921504606846976]) rfl (Nat.le_of_ble_eq_true rfl) (hT_mono (by decide) (w_151 hM11 Wq12 (by omega)) (fun r1 M13 w => ?_))
      obtain ⟨rfl, rfl⟩ := w
      have eu14 : (Int32.ofNat (hN q12)).toInt = (hN q12 : Nat) := i_ofNat2 (by omega)
      refine hs (f := dm_ist 46 2) (lv' := [(2, .int (Int32.ofNat (hN q12))), (0, .ref 68), (1, .int s)]) rfl rfl ?_
      refine hs (f := dm_ald 47 0) rfl rfl ?_
      refine hs (f := dm_push 48 (.int 2)) rfl rfl ?_
      refine hs (f := dm_ald 49 0) rfl rfl ?_
      refine r_geta (c := 78) rfl hM11 rfl ?_
      refine hs (f := dm_ild 53 1) rfl rfl ?_
      refine r_iald (L := 1000) (i := s) ((q12.2.2.1 81) s.toInt.toNat) rfl hM11 rfl (by omega) rfl ?_
      generalize g16 : (q12.2.2.1 81) s.toInt.toNat = v15
      have x17 : v15.toInt = rA (q12.2.2.1 81) s.toInt := rA_of (i := s) g16 rfl
      refine hs (f := dm_push 55 (.int 1)) rfl rfl ?_
      have e18 : (v15 + (1 : Int32)).toInt = rA (q12.2.2.1 81) s.toInt + 1 := by have w := i_addc (x := v15) (y := (1 : Int32)) 1 rfl (by omega) (by omega); omega
      refine hs (f := dm_ii 56 (fun x y => x + y)) (st' := [.int (v15 + (1 : Int32)), .int 2, .ref 68]) rfl rfl ?_
      refine hs (f := dm_push 57 (.int 2)) rfl rfl ?_
      refine hs (f := dm_ild 58 2) rfl rfl ?_
      have e19 : ((2 : Int32) * (Int32.ofNat (hN q12))).toInt = 2 * ((hN q12 : Nat) : Int) := by have w := i_mulc (x := (2 : Int32)) (y := (Int32.ofNat (hN q12))) 2 rfl (by omega) (by omega); omega
      refine hs (f := dm_ii 59 (fun x y => x * y)) (st' := [.int ((2 : Int32) * (Int32.ofNat (hN q12))), .int (v15 + (1 : Int32)), .int 2, .ref 68]) rfl rfl ?_
      have e20 : ((v15 + (1 : Int32)) + ((2 : Int32) * (Int32.ofNat (hN q12)))).toInt = rA (q12.2.2.1 81) s.toInt + 1 + 2 * ((hN q12 : Nat) : Int) := by have w := i_add (x := (v15 + (1 : Int32))) (y := ((2 : Int32) * (Int32.ofNat (hN q12)))) (by omega) (by omega); omega
      refine hs (f := dm_ii 60 (fun x y => x + y)) (st' := [.int ((v15 + (1 : Int32)) + ((2 : Int32) * (Int32.ofNat (hN q12)))), .int 2, .ref 68]) rfl rfl ?_
      have tpu22 := SB_top Rq12.1
      have mau22 := Rq12.1.1
      have mbu22 := Rq12.1.2.1
      have mcu22 := Rq12.1.2.2.2.2.2.2
      have ecu22 : ((2 : Int32)).toInt = 2 := rfl
      refine r_inv rfl hM11 rfl (as := [.ref 68, .int 2, .int ((v15 + (1 : Int32)) + ((2 : Int32) * (Int32.ofNat (hN q12))))]) rfl (Nat.le_of_ble_eq_true rfl) (hT_mono (by decide) (r_139 hM11 ⟨mau22, mbu22⟩ ⟨tpu22.1, by omega⟩ (2 : Int32) ((v15 + (1 : Int32)) + ((2 : Int32) * (Int32.ofNat (hN q12)))) (by omega) (by omega)) (fun r1 M21 w => ?_))
      obtain ⟨rfl, ⟨rfl, u22a, u22b⟩ | ⟨rfl, u22n⟩⟩ := w
      · skip
        refine hs (f := dm_if_ne 66 68) (pc' := 68) rfl rfl ?_
        refine hs (f := dm_ald 69 0) rfl rfl ?_
        refine hs (f := dm_ild 70 1) rfl rfl ?_
        refine hs (f := dm_push 71 (.int (-1))) rfl rfl ?_
        refine r_inv rfl hM11 rfl (as := [.ref 68, .int s, .int (-1)]) rfl (Nat.le_of_ble_eq_true rfl) (hT_mono (by decide) (w_155 hM11 Rq12 (by omega) s (-1 : Int32) (by have := Rq12.1.2.1; omega) (by decide)) (fun r1 M23 w => ?_))
        obtain ⟨rfl, q24, hM23, Rq24, ⟨Kq241, Kq242, Kq243, Kq244, Kq245, Kq246, Kq247, Kq248, Kq249, Kq2410, Kq2411, Kq2412, Kq2413⟩, Wq24, Oq24⟩ := w
        have mq24 : (q24.1 15).toInt = (q12.1 15).toInt := by rw [Kq241]
        have nq24 : (q24.1 17).toInt = (q12.1 17).toInt := by rw [Kq243]
        have fq24 : q24.1 41 = q.1 41 := Kq245.trans fq12
        have vq24 : (q24.1 16).toInt = (q12.1 16).toInt := by rw [Kq242]
        have Qq24 := sameW_ok Wq24 Wq12
        have q29q24 : (q24.1 29).toInt = (q12.1 29).toInt := by rw [Wq24.1]
        have hqq24 : (hN q24 : Int) = hN q12 := by rw [Qq24.2]
        have Pq24 := sameO_ok Oq24 Pq12.1
        have q34q24 : (q24.1 34).toInt = (q12.1 34).toInt := by rw [Oq24.1]
        have sqq24 : (sN q24 : Int) = sN q12 := by rw [Pq24.2.1]
        have b73q24 : rA (q24.2.2.1 73) (q24.1 15).toInt = rA (q12.2.2.1 73) (q12.1 15).toInt ∧ rA (q24.2.2.1 74) (q24.1 15).toInt = rA (q12.2.2.1 74) (q12.1 15).toInt := by rw [Kq247, Kq248, Kq241]; exact ⟨rfl, rfl⟩
        have b82q24 : ∀ m : Int, rA (q24.2.2.1 82) m = rA (q12.2.2.1 82) m ∧ rA (q24.2.2.1 81) m = rA (q12.2.2.1 81) m := fun m => by rw [Kq2410, Kq249]; exact ⟨rfl, rfl⟩
        have b82q24s := b82q24 s.toInt
        refine hs (f := dm_ald 75 0) rfl rfl ?_
        refine hs (f := dm_push 76 (.int 2)) rfl rfl ?_
        refine hs (f := dm_ild 77 1) rfl rfl ?_
        refine hs (f := dm_push 78 (.int (-1))) rfl rfl ?_
        have tqq26 := SB_top Rq24.1
        have lwq26 : 2 * (q24.1 29).toInt - 1 ≤ (hN q24 : Nat) := HN_len Qq24.1
        have loq26 : 2 * (q24.1 34).toInt - 1 ≤ (sN q24 : Nat) := SN_len Pq24.1.1 Pq24.1.2
        refine r_inv rfl hM23 rfl (as := [.ref 68, .int 2, .int s, .int (-1)]) rfl (Nat.le_of_ble_eq_true rfl) (hT_mono (by decide) (w_140 hM23 Rq24 (2 : Int32) s (-1 : Int32) (by have := Rq24.1.2.1; omega) (by decide) Qq24.1 (by omega) Pq24.1 (by omega) (by omega) (by omega) (by omega) (by omega)) (fun r1 M25 w => ?_))
        obtain ⟨rfl, q26, hM25, Rq26, Aq261, Aq262, Aq263, Aq264, Aq265, Wq26, Oq26, Aq266, Aq267, Aq268, Aq269, Aq2610⟩ := w
        have fq26 : q26.1 41 = q.1 41 := Aq263.trans fq24
        have vq26 : (q26.1 16).toInt = (q24.1 16).toInt := by rw [Aq265]
        have Qq26 := sameW_ok Wq26 Qq24.1
        have Pq26 := sameO_ok Oq26 Pq24.1
        have q29q26 : (q26.1 29).toInt = (q24.1 29).toInt := by rw [Wq26.1]
        have q34q26 : (q26.1 34).toInt = (q24.1 34).toInt := by rw [Oq26.1]
        have hqq26 : (hN q26 : Int) = hN q24 := by rw [Qq26.2]
        have sqq26 : (sN q26 : Int) = sN q24 := by rw [Pq26.2.1]
        refine hs (f := dm_ist 82 3) (lv' := [(3, .int (q24.1 15)), (2, .int (Int32.ofNat (hN q12))), (0, .ref 68), (1, .int s)]) rfl rfl ?_
        refine hs (f := dm_ald 83 0) rfl rfl ?_
        refine hs (f := dm_ild 84 3) rfl rfl ?_
        have mdq28 := Rq26.1.2.1
        refine r_inv rfl hM25 rfl (as := [.ref 68, .int (q24.1 15)]) rfl (Nat.le_of_ble_eq_true rfl) (hT_mono (by decide) (w_161 hM25 Rq26 (by omega) (by omega) (q24.1 15) (by omega) (by omega)) (fun r1 M27 w => ?_))
        obtain ⟨rfl, q28, hM27, Rq28, ⟨Kq281, Kq282, Kq283, Kq284, Kq285, Kq286, Kq287⟩, Wq28, Oq28⟩ := w
        have fq28 : q28.1 41 = q.1 41 := Kq283.trans fq26
        have mq28 : (q28.1 15).toInt = (q26.1 15).toInt := by rw [Kq281]
        have nq28 : (q28.1 17).toInt = (q26.1 17).toInt := by rw [Kq282]
        have b73q28 : rA (q28.2.2.1 73) (q28.1 15).toInt = rA (q26.2.2.1 73) (q26.1 15).toInt ∧ rA (q28.2.2.1 74) (q28.1 15).toInt = rA (q26.2.2.1 74) (q26.1 15).toInt := by rw [Kq286, Kq287, Kq281]; exact ⟨rfl, rfl⟩
        have b82q28 : ∀ m : Int, rA (q28.2.2.1 82) m = rA (q26.2.2.1 82) m ∧ rA (q28.2.2.1 81) m = rA (q26.2.2.1 81) m := fun m => by rw [Kq285, Kq284]; exact ⟨rfl, rfl⟩
        have b82q28i := b82q28 ((q24.1 15).toInt)
        have Qq28 := sameW_ok Wq28 Qq26.1
        have Pq28 := sameO_ok Oq28 Pq26.1
        refine hs (f := dm_ald 88 0) rfl rfl ?_
        refine hs (f := dm_ild 89 3) rfl rfl ?_
        refine r_inv rfl hM27 rfl (as := [.ref 68, .int (q24.1 15)]) rfl (Nat.le_of_ble_eq_true rfl) (hT_mono (by decide) (w_141 hM27 Rq28 (q24.1 15) (by omega) (by omega)) (fun r1 M29 w => ?_))
        obtain ⟨rfl, q30, hM29, Rq30, Kq30, Oq30, Wq30, Sq30⟩ := w
        have mq30 : (q30.1 15).toInt = (q28.1 15).toInt := by rw [Kq30.1]
        have nq30 : (q30.1 17).toInt = (q28.1 17).toInt := by rw [Kq30.2.2.1]
        have fq30 : q30.1 41 = q.1 41 := Kq30.2.2.2.2.1.trans fq28
        have vq30 : (q30.1 16).toInt = (q28.1 16).toInt := by rw [Kq30.2.1]
        have b73q30 : rA (q30.2.2.1 73) (q30.1 15).toInt = rA (q28.2.2.1 73) (q28.1 15).toInt ∧ rA (q30.2.2.1 74) (q30.1 15).toInt = rA (q28.2.2.1 74) (q28.1 15).toInt := by rw [Kq30.2.2.2.2.2.2.1, Kq30.2.2.2.2.2.2.2.1, Kq30.1]; exact ⟨rfl, rfl⟩
        have lwq30 : 2 * (q30.1 29).toInt - 1 ≤ (hN q30 : Nat) := HN_len Wq30
        refine hs (f := dm_ald 93 0) rfl rfl ?_
        refine hs (f := dm_push 94 (.int 0)) rfl rfl ?_
        refine r_puti rfl hM29 rfl (fun M31 hM31 => ?_)
        replace hM31 := rm_to (q' := (sF q30 34 (0 : Int32))) hM31 (show sF q30 34 (0 : Int32) = (sF q30 34 (0 : Int32)) from (show sF q30 34 (0 : Int32) = (sF q30 34 (0 : Int32)) from rfl))
        obtain ⟨q32, eq32⟩ : ∃ z, z = (sF q30 34 (0 : Int32)) := ⟨_, rfl⟩
        rw [← eq32] at hM31
        have Rq32 : RI (T + 1) q32 := by rw [eq32]; exact Rq30
        have Wq32 : okW q32 ∧ hN q32 = hN q30 := by rw [eq32]; exact ⟨Wq30, rfl⟩
        have Oq32 : okO q32 := by rw [eq32]; exact ⟨⟨fun i i0 i1 => absurd i1 (by show ¬ i < (0 : Int); omega), fun i i0 i1 => absurd i1 (by show ¬ i + 1 < (0 : Int); omega)⟩, by show (0 : Int) ≤ 0; decide⟩
        have sq32 : (sN q32 : Int) = 1 := by rw [eq32]; rfl
        have fq32 : q32.1 41 = q.1 41 := by rw [eq32]; exact fq30
        have mq32 : (q32.1 15).toInt = (q30.1 15).toInt ∧ (q32.1 17).toInt = (q30.1 17).toInt ∧ (q32.1 34).toInt = 0 ∧ (q32.1 29).toInt = (q30.1 29).toInt ∧ (hN q32 : Int) = hN q30 ∧ rA (q32.2.2.1 73) (q32.1 15).toInt = rA (q30.2.2.1 73) (q30.1 15).toInt ∧ rA (q32.2.2.1 74) (q32.1 15).toInt = rA (q30.2.2.1 74) (q30.1 15).toInt ∧ (q32.1 16).toInt = (q30.1 16).toInt := by rw [eq32]; exact ⟨rfl, rfl, rfl, rfl, rfl, rfl, rfl, rfl⟩
        refine hs (f := dm_ald 98 0) rfl rfl ?_
        refine hs (f := dm_push 99 (.int 4)) rfl rfl ?_
        refine hs (f := dm_ild 100 3) rfl rfl ?_
        refine hs (f := dm_push 101 (.int (-1))) rfl rfl ?_
        have tqq34 := SB_top Rq32.1
        have lwq34 : 2 * (q32.1 29).toInt - 1 ≤ (hN q32 : Nat) := HN_len Wq32.1
        have loq34 : 2 * (q32.1 34).toInt - 1 ≤ (sN q32 : Nat) := SN_len Oq32.1 Oq32.2
        refine r_inv rfl hM31 rfl (as := [.ref 68, .int 4, .int (q24.1 15), .int (-1)]) rfl (Nat.le_of_ble_eq_true rfl) (hT_mono (by decide) (w_140 hM31 Rq32 (4 : Int32) (q24.1 15) (-1 : Int32) (by have := Rq32.1.2.1; omega) (by decide) Wq32.1 (by omega) Oq32 (by omega) (by omega) (by omega) (by omega) (by omega)) (fun r1 M33 w => ?_))
        obtain ⟨rfl, q34, hM33, Rq34, Aq341, Aq342, Aq343, Aq344, Aq345, Wq34, Oq34, Aq346, Aq347, Aq348, Aq349, Aq3410⟩ := w
        have fq34 : q34.1 41 = q.1 41 := Aq343.trans fq32
        have vq34 : (q34.1 16).toInt = (q32.1 16).toInt := by rw [Aq345]
        have Qq34 := sameW_ok Wq34 Wq32.1
        have Pq34 := sameO_ok Oq34 Oq32
        have q29q34 : (q34.1 29).toInt = (q32.1 29).toInt := by rw [Wq34.1]
        have q34q34 : (q34.1 34).toInt = (q32.1 34).toInt := by rw [Oq34.1]
        have hqq34 : (hN q34 : Int) = hN q32 := by rw [Qq34.2]
        have sqq34 : (sN q34 : Int) = sN q32 := by rw [Pq34.2.1]
        refine hs (f := dm_pop 105) (st' := []) rfl rfl ?_
        refine hs (f := dm_ald 106 0) rfl rfl ?_
        refine hs (f := dm_ild 107 1) rfl rfl ?_
        have meq36 := Rq34.1.2.1
        refine r_inv rfl hM33 rfl (as := [.ref 68, .int s]) rfl (Nat.le_of_ble_eq_true rfl) (hT_mono (by decide) (w_156 hM33 Rq34 s (by omega) (by omega)) (fun r1 M35 w => ?_))
        obtain ⟨rfl, q36, hM35, Rq36, Kq36⟩ := w
        have fq36 : q36.1 41 = q.1 41 := Kq36.2.2.2.2.1.trans fq34
        have mq36 : (q36.1 15).toInt = (q34.1 15).toInt := by rw [Kq36.1]
        refine hs (f := dm_ild 111 3) rfl rfl ?_
        exact hr (f := dm_ret .int) rfl rfl (⟨_, q36, rfl, hM35, RI_up Rq36 (by omega), fq36⟩)
      · skip
        refine hs (f := dm_if_ne 66 68) (pc' := 66) rfl rfl ?_
        refine hs (f := dm_push 67 (.int (-1))) rfl rfl ?_
        exact hr (f := dm_ret .int) rfl rfl (⟨_, q12, rfl, hM11, RI_up Rq12 (by omega), fq12⟩)
    · skip
      refine hs (f := dm_if_ne 21 23) (pc' := 21) rfl rfl ?_
      refine hs (f := dm_push 22 (.int (-1))) rfl rfl ?_
      exact hr (f := dm_ret .int) rfl rfl (⟨_, q2, rfl, hM1, RI_up Rq2 (by omega), fq2⟩)
  · skip
    refine hs (f := dm_if_eq 13 21) (pc' := 21) rfl rfl ?_
    refine hs (f := dm_push 22 (.int (-1))) rfl rfl ?_
    exact hr (f := dm_ret .int) rfl rfl (⟨_, q2, rfl, hM1, RI_up Rq2 (by omega), fq2⟩)
