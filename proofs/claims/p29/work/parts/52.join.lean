/-! two stamps joined -/
theorem SB_two {st fr to : Nat → Int64} {sf pf on kn : Nat → Int32} {many nodes : Int} (h : SB st fr to sf pf on kn many nodes) {a b : Int} (a0 : 0 ≤ a) (a1 : a < b) (b1 : b < many) :
    (rA sf (a + 1) - rA sf a) + (rA sf (b + 1) - rA sf b) ≤ 21000 ∧ (rA pf (a + 1) - rA pf a) + (rA pf (b + 1) - rA pf b) ≤ 21000 ∧ rA kn a + rA on a + rA kn b + rA on b ≤ nodes := by
  have ha := SB_at h a0 (show a < many by omega)
  have hb := SB_at h (show 0 ≤ b by omega) b1
  have m1 := SB_mono h (b.toNat - (a.toNat + 1)) (a.toNat + 1) (by omega)
  have m2 := SB_mono h (many.toNat - (b.toNat + 1)) (b.toNat + 1) (by omega)
  rw [show a.toNat + 1 + (b.toNat - (a.toNat + 1)) = b.toNat by omega, show ((b.toNat : Nat) : Int) = b by omega, show ((a.toNat + 1 : Nat) : Int) = a + 1 by omega, nS, show ((a.toNat : Nat) : Int) = a by omega] at m1
  rw [show b.toNat + 1 + (many.toNat - (b.toNat + 1)) = many.toNat by omega, nS, show ((b.toNat : Nat) : Int) = b by omega] at m2
  have m0 := (SB_low h a.toNat (by omega)).1
  have h6 := h.2.2.2.2.2.1
  refine ⟨by omega, by omega, by omega⟩
theorem SB_ne {st fr to : Nat → Int64} {sf pf on kn : Nat → Int32} {many nodes : Int} (h : SB st fr to sf pf on kn many nodes) {a b : Int} (a0 : 0 ≤ a) (a1 : a < many) (b0 : 0 ≤ b) (b1 : b < many) (hab : ¬ a = b) :
    (rA sf (a + 1) - rA sf a) + (rA sf (b + 1) - rA sf b) ≤ 21000 ∧ (rA pf (a + 1) - rA pf a) + (rA pf (b + 1) - rA pf b) ≤ 21000 ∧ rA kn a + rA on a + rA kn b + rA on b ≤ nodes := by
  rcases Int.lt_or_gt_of_ne hab with z | z
  · exact SB_two h a0 z b1
  · have := SB_two h b0 z a1
    refine ⟨by omega, by omega, by omega⟩
def tgR (q : rS) (a b : Int) : List (Int64 × Int32) := tgL (q.2.2.2 69) (q.2.2.1 70) (rA (q.2.2.1 73) (a + 1)) (rA (q.2.2.1 73) (b + 1)) ((rA (q.2.2.1 73) (a + 1) - rA (q.2.2.1 73) a).toNat + (rA (q.2.2.1 73) (b + 1) - rA (q.2.2.1 73) b).toNat) (rA (q.2.2.1 73) a) (rA (q.2.2.1 73) b) 0 []
noncomputable def tgN (q : rS) (a b : Int) : Nat := HN (fun k => ((tgR q a b)[k]?.getD (0, 0)).1) (tgR q a b).length 60 0
theorem rowL_HN {x : Nat → Int64} {g : Nat → Int32} {n : Int} {l : List (Int64 × Int32)} (h : rowL x g n l) : HN x n 60 0 = HN (fun k => (l[k]?.getD (0, 0)).1) l.length 60 0 := by
  rw [h.1]
  refine HN_congr (fun i i0 i1 => ?_) 60 0
  have h2 := h.2 i.toNat l[i.toNat] (List.getElem?_eq_getElem (by omega))
  unfold rB
  rw [h2.1]
  show _ = (l[i.toNat]?.getD (0, 0)).1.toInt
  rw [List.getElem?_eq_getElem (show i.toNat < l.length by omega)]
  rfl
theorem w_163 {X : dm_Mem} {q : rS} {M : dm_Mem} {T : Int} (hM : Rm X q M) (hR : RI T q) (a b : Int32) (a0 : 0 ≤ a.toInt) (a1 : a.toInt < (q.1 15).toInt) (b0 : 0 ≤ b.toInt) (b1 : b.toInt < (q.1 15).toInt) : hT 2 163 [.ref 68, .int a, .int b] M (fun r M' => r = none ∧ ∃ q', Rm X q' M' ∧ RI T q' ∧ KP q q' ∧ sameO q q' ∧ okW q' ∧ hN q' = tgN q a.toInt b.toInt ∧ (hN q' : Int) + 1 ≤ rA (q.2.2.1 82) a.toInt + rA (q.2.2.1 82) b.toInt ∧ (q'.1 29).toInt ≤ 24000) := by
  have ha := SB_at hR.1 a0 a1
  have hb := SB_at hR.1 b0 b1
  obtain ⟨g1, g2, g3, g4, g5, g6⟩ := hR.1.2.2.2.2.1 a.toInt a0 a1
  obtain ⟨f1, f2, f3, f4, f5, f6⟩ := hR.1.2.2.2.2.1 b.toInt b0 b1
  have hl : (rA (q.2.2.1 73) (a.toInt + 1) - rA (q.2.2.1 73) a.toInt) + (rA (q.2.2.1 73) (b.toInt + 1) - rA (q.2.2.1 73) b.toInt) ≤ 22000 ∨ a = b := by
    by_cases e : a.toInt = b.toInt
    · exact Or.inr (Int32.toInt_inj.mp e)
    · have := SB_ne hR.1 a0 a1 b0 b1 e
      exact Or.inl (by omega)
  refine hT_mono (Nat.le_refl _) (r_163b hM a b ⟨a0, ha.1⟩ ⟨b0, hb.1⟩ (by omega) (by omega) (by omega) (by omega) (by omega) (by omega) g3 f3 hl) (fun r M' w => ?_)
  obtain ⟨rfl, n, b92, b94, b93, b95, w1, w2, w3, w4, hM2⟩ := w
  refine ⟨rfl, _, hM2, hR, ⟨rfl, rfl, rfl, rfl, rfl, rfl, rfl, rfl, rfl, rfl, rfl, rfl, rfl⟩, ⟨rfl, rfl, rfl⟩, w1, rowL_HN w3, ?_, w2⟩
  have z := HN_union w4 60 0 (dy_0 60)
  show ((HN b92 n.toInt 60 0 : Nat) : Int) + 1 ≤ _
  rw [g5, f5]
  omega
theorem w_164 {X : dm_Mem} {q : rS} {M : dm_Mem} {T : Int} (hM : Rm X q M) (hR : RI T q) (a b : Int32) (a0 : 0 ≤ a.toInt) (a1 : a.toInt < (q.1 15).toInt) (b0 : 0 ≤ b.toInt) (b1 : b.toInt < (q.1 15).toInt) : hT 1 164 [.ref 68, .int a, .int b] M (fun r M' => r = none ∧ ∃ q', Rm X q' M' ∧ RI T q' ∧ KP q q' ∧ sameW q q' ∧ okO q' ∧ (q'.1 34).toInt ≤ 24000 ∧ (rA (q.2.2.1 74) a.toInt < rA (q.2.2.1 74) (a.toInt + 1) ∨ rA (q.2.2.1 74) b.toInt < rA (q.2.2.1 74) (b.toInt + 1) → 1 ≤ (q'.1 34).toInt)) := by
  have ha := SB_at hR.1 a0 a1
  have hb := SB_at hR.1 b0 b1
  obtain ⟨g1, g2, g3, g4, g5, g6⟩ := hR.1.2.2.2.2.1 a.toInt a0 a1
  obtain ⟨f1, f2, f3, f4, f5, f6⟩ := hR.1.2.2.2.2.1 b.toInt b0 b1
  have hl : (rA (q.2.2.1 74) (a.toInt + 1) - rA (q.2.2.1 74) a.toInt) + (rA (q.2.2.1 74) (b.toInt + 1) - rA (q.2.2.1 74) b.toInt) ≤ 22000 ∨ a = b := by
    by_cases e : a.toInt = b.toInt
    · exact Or.inr (Int32.toInt_inj.mp e)
    · have := SB_ne hR.1 a0 a1 b0 b1 e
      exact Or.inl (by omega)
  refine hT_mono (Nat.le_refl _) (r_164b hM a b ⟨a0, ha.1⟩ ⟨b0, hb.1⟩ (by omega) (by omega) (by omega) (by omega) (by omega) (by omega) g4 f4 hl) (fun r M' w => ?_)
  obtain ⟨rfl, n, b96, b97, w1, w2, w3, w4, hM2⟩ := w
  exact ⟨rfl, _, hM2, hR, ⟨rfl, rfl, rfl, rfl, rfl, rfl, rfl, rfl, rfl, rfl, rfl, rfl, rfl⟩, ⟨rfl, rfl, rfl⟩, ⟨w1, w2⟩, w3, w4⟩
set_option maxHeartbeats 4000000 in
theorem w_165 {X : dm_Mem} {q : rS} {M : dm_Mem} {T : Int} (hM : Rm X q M) (hR : RI T q) (hT6 : 0 ≤ T ∧ T ≤ 600) (a b kd : Int32) (a0 : 0 ≤ a.toInt) (a1 : a.toInt < (q.1 15).toInt) (b0 : 0 ≤ b.toInt) (b1 : b.toInt < (q.1 15).toInt) : hT 65 165 [.ref 68, .int a, .int b, .int kd] M (fun r M' => ∃ (x : Int32) (q' : rS), r = some (.int x) ∧ Rm X q' M' ∧ RI (T + 1) q' ∧ q'.1 41 = q.1 41 ∧ (x = -1 ∨ 1 ≤ (q'.1 26).toInt)) := by
  refine hx (t := cd_165) rfl (Nat.le_of_ble_eq_true rfl) (lv := [(0, .ref 68), (1, .int a), (2, .int b), (3, .int kd)]) rfl ?_
  have evq := hR.2.2.1
  have mxq := hR.1.2.1
  refine hs (f := dm_ald 1 0) rfl rfl ?_
  refine hs (f := dm_ild 2 1) rfl rfl ?_
  refine hs (f := dm_ild 3 2) rfl rfl ?_
  have kaq2 := SB_at hR.1 (s := a.toInt) (by omega) (by omega)
  have kbq2 := SB_at hR.1 (s := b.toInt) (by omega) (by omega)
  have kdq2 := hR.1.2.2.2.2.2.2
  refine r_inv rfl hM rfl (as := [.ref 68, .int a, .int b]) rfl (Nat.le_of_ble_eq_true rfl) (hT_mono (by decide) (w_163 hM hR a b (by omega) (by omega) (by omega) (by omega)) (fun r1 M1 w => ?_))
  obtain ⟨rfl, q2, hM1, Rq2, Kq2, Oq2, Wq2, Tq2, Sq2, Lq2⟩ := w
  have mq2 : (q2.1 15).toInt = (q.1 15).toInt := by rw [Kq2.1]
  have nq2 : (q2.1 17).toInt = (q.1 17).toInt := by rw [Kq2.2.2.1]
  have fq2 : q2.1 41 = q.1 41 := Kq2.2.2.2.2.1.trans rfl
  have vq2 : (q2.1 16).toInt = (q.1 16).toInt := by rw [Kq2.2.1]
  have cq2 : (q2.1 26).toInt = (q.1 26).toInt := by rw [Kq2.2.2.2.1]
  have g74q2 : q2.2.2.1 74 = q.2.2.1 74 := Kq2.2.2.2.2.2.2.2.1
  have b73q2 : rA (q2.2.2.1 73) (q2.1 15).toInt = rA (q.2.2.1 73) (q.1 15).toInt ∧ rA (q2.2.2.1 74) (q2.1 15).toInt = rA (q.2.2.1 74) (q.1 15).toInt := by rw [Kq2.2.2.2.2.2.2.1, Kq2.2.2.2.2.2.2.2.1, Kq2.1]; exact ⟨rfl, rfl⟩
  refine hs (f := dm_ald 7 0) rfl rfl ?_
  refine hs (f := dm_ild 8 1) rfl rfl ?_
  refine hs (f := dm_ild 9 2) rfl rfl ?_
  refine r_inv rfl hM1 rfl (as := [.ref 68, .int a, .int b]) rfl (Nat.le_of_ble_eq_true rfl) (hT_mono (by decide) (w_164 hM1 Rq2 a b (by omega) (by omega) (by omega) (by omega)) (fun r1 M3 w => ?_))
  obtain ⟨rfl, q4, hM3, Rq4, Kq4, Wq4, Oq4, Lq4, Eq4⟩ := w
  have mq4 : (q4.1 15).toInt = (q2.1 15).toInt := by rw [Kq4.1]
  have nq4 : (q4.1 17).toInt = (q2.1 17).toInt := by rw [Kq4.2.2.1]
  have fq4 : q4.1 41 = q.1 41 := Kq4.2.2.2.2.1.trans fq2
  have vq4 : (q4.1 16).toInt = (q2.1 16).toInt := by rw [Kq4.2.1]
  have cq4 : (q4.1 26).toInt = (q2.1 26).toInt := by rw [Kq4.2.2.2.1]
  have Qq4 := sameW_ok Wq4 Wq2
  have q29q4 : (q4.1 29).toInt = (q2.1 29).toInt := by rw [Wq4.1]
  have hqq4 : (hN q4 : Int) = hN q2 := by rw [Qq4.2]
  have sxq4 := SN_max Oq4.1 Oq4.2 Lq4
  have syq4 : sN q4 ≤ 5760001 := sxq4
  have b73q4 : rA (q4.2.2.1 73) (q4.1 15).toInt = rA (q2.2.2.1 73) (q2.1 15).toInt ∧ rA (q4.2.2.1 74) (q4.1 15).toInt = rA (q2.2.2.1 74) (q2.1 15).toInt := by rw [Kq4.2.2.2.2.2.2.1, Kq4.2.2.2.2.2.2.2.1, Kq4.1]; exact ⟨rfl, rfl⟩
  refine hs (f := dm_ald 13 0) rfl rfl ?_
  refine hs (f := dm_push 14 (.int 1)) rfl rfl ?_
  refine hs (f := dm_ald 15 0) rfl rfl ?_
  refine hs (f := dm_push 16 (.long 0)) rfl rfl ?_
  refine hs (f := dm_push 19 (.long 1152921504606846976)) rfl rfl ?_
  refine r_inv rfl hM3 rfl (as := [.ref 68, .long 0, .long 1152921504606846976]) rfl (Nat.le_of_ble_eq_true rfl) (hT_mono (by decide) (w_153 hM3 Oq4 (by omega)) (fun r1 M5 w => ?_))
  obtain ⟨rfl, rfl⟩ := w
  have eu6 : (Int32.ofNat (sN q4)).toInt = (sN q4 : Nat) := i_ofNat2 (by omega)
  refine hs (f := dm_ald 23 0) rfl rfl ?_
  refine hs (f := dm_push 24 (.long 0)) rfl rfl ?_
  refine hs (f := dm_push 27 (.long 1152921504606846976)) rfl rfl ?_
  refine r_inv rfl hM3 rfl (as := [.ref 68, .long 0, .long 1152921504606846976]) rfl (Nat.le_of_ble_eq_true rfl) (hT_mono (by decide) (w_151 hM3 Qq4.1 (by omega)) (fun r1 M7 w => ?_))
  obtain ⟨rfl, rfl⟩ := w
  have eu8 : (Int32.ofNat (hN q4)).toInt = (hN q4 : Nat) := i_ofNat2 (by omega)
  have e9 : ((Int32.ofNat (sN q4)) + (Int32.ofNat (hN q4))).toInt = ((sN q4 : Nat) : Int) + ((hN q4 : Nat) : Int) := by have w := i_add (x := (Int32.ofNat (sN q4))) (y := (Int32.ofNat (hN q4))) (by omega) (by omega); omega
  refine hs (f := dm_ii 31 (fun x y => x + y)) (st' := [.int ((Int32.ofNat (sN q4)) + (Int32.ofNat (hN q4))), .int 1, .ref 68]) rfl rfl ?_
  have tpu11 := SB_top Rq4.1
  have mau11 := Rq4.1.1
  have mbu11 := Rq4.1.2.1
  have mcu11 := Rq4.1.2.2.2.2.2.2
  have ecu11 : ((1 : Int32)).toInt = 1 := rfl
  refine r_inv rfl hM3 rfl (as := [.ref 68, .int 1, .int ((Int32.ofNat (sN q4)) + (Int32.ofNat (hN q4)))]) rfl (Nat.le_of_ble_eq_true rfl) (hT_mono (by decide) (r_139 hM3 ⟨mau11, mbu11⟩ ⟨tpu11.1, by omega⟩ (1 : Int32) ((Int32.ofNat (sN q4)) + (Int32.ofNat (hN q4))) (by omega) (by omega)) (fun r1 M10 w => ?_))
  obtain ⟨rfl, ⟨rfl, u11a, u11b⟩ | ⟨rfl, u11n⟩⟩ := w
  · skip
    refine hs (f := dm_if_ne 37 39) (pc' := 39) rfl rfl ?_
    refine hs (f := dm_ald 40 0) rfl rfl ?_
    refine hs (f := dm_ild 41 1) rfl rfl ?_
    refine hs (f := dm_ild 42 2) rfl rfl ?_
    refine r_inv rfl hM3 rfl (as := [.ref 68, .int a, .int b]) rfl (Nat.le_of_ble_eq_true rfl) (hT_mono (by decide) (w_155 hM3 Rq4 (by omega) a b (by have := Rq4.1.2.1; omega) (by have := Rq4.1.2.1; omega)) (fun r1 M12 w => ?_))
    obtain ⟨rfl, q13, hM12, Rq13, ⟨Kq131, Kq132, Kq133, Kq134, Kq135, Kq136, Kq137, Kq138, Kq139, Kq1310, Kq1311, Kq1312, Kq1313⟩, Wq13, Oq13⟩ := w
    have mq13 : (q13.1 15).toInt = (q4.1 15).toInt := by rw [Kq131]
    have nq13 : (q13.1 17).toInt = (q4.1 17).toInt := by rw [Kq133]
    have fq13 : q13.1 41 = q.1 41 := Kq135.trans fq4
    have vq13 : (q13.1 16).toInt = (q4.1 16).toInt := by rw [Kq132]
    have Qq13 := sameW_ok Wq13 Qq4.1
    have q29q13 : (q13.1 29).toInt = (q4.1 29).toInt := by rw [Wq13.1]
    have hqq13 : (hN q13 : Int) = hN q4 := by rw [Qq13.2]
    have Pq13 := sameO_ok Oq13 Oq4
    have q34q13 : (q13.1 34).toInt = (q4.1 34).toInt := by rw [Oq13.1]
    have sqq13 : (sN q13 : Int) = sN q4 := by rw [Pq13.2.1]
    have b73q13 : rA (q13.2.2.1 73) (q13.1 15).toInt = rA (q4.2.2.1 73) (q4.1 15).toInt ∧ rA (q13.2.2.1 74) (q13.1 15).toInt = rA (q4.2.2.1 74) (q4.1 15).toInt := by rw [Kq137, Kq138, Kq131]; exact ⟨rfl, rfl⟩
    have b82q13 : ∀ m : Int, rA (q13.2.2.1 82) m = rA (q4.2.2.1 82) m ∧ rA (q13.2.2.1 81) m = rA (q4.2.2.1 81) m := fun m => by rw [Kq1310, Kq139]; exact ⟨rfl, rfl⟩
    have b82q13a := b82q13 a.toInt
    have b82q13b := b82q13 b.toInt
    have ac0 := Rq4.2.2.2.2.1
    have acq13 := Kq134
    refine hs (f := dm_ald 46 0) rfl rfl ?_
    refine hs (f := dm_ild 47 3) rfl rfl ?_
    refine hs (f := dm_ild 48 1) rfl rfl ?_
    refine hs (f := dm_ild 49 2) rfl rfl ?_
    have tqq15 := SB_top Rq13.1
    have lwq15 : 2 * (q13.1 29).toInt - 1 ≤ (hN q13 : Nat) := HN_len Qq13.1
    have loq15 : 2 * (q13.1 34).toInt - 1 ≤ (sN q13 : Nat) := SN_len Pq13.1.1 Pq13.1.2
    refine r_inv rfl hM12 rfl (as := [.ref 68, .int kd, .int a, .int b]) rfl (Nat.le_of_ble_eq_true rfl) (hT_mono (by decide) (w_140 hM12 Rq13 kd a b (by have := Rq13.1.2.1; omega) (by have := Rq13.1.2.1; omega) Qq13.1 (by omega) Pq13.1 (by omega) (by omega) (by omega) (by omega) (by omega)) (fun r1 M14 w => ?_))
    obtain ⟨rfl, q15, hM14, Rq15, Aq151, Aq152, Aq153, Aq154, Aq155, Wq15, Oq15, Aq156, Aq157, Aq158, Aq159, Aq1510⟩ := w
    have fq15 : q15.1 41 = q.1 41 := Aq153.trans fq13
    have vq15 : (q15.1 16).toInt = (q13.1 16).toInt := by rw [Aq155]
    have Qq15 := sameW_ok Wq15 Qq13.1
    have Pq15 := sameO_ok Oq15 Pq13.1
    have q29q15 : (q15.1 29).toInt = (q13.1 29).toInt := by rw [Wq15.1]
    have q34q15 : (q15.1 34).toInt = (q13.1 34).toInt := by rw [Oq15.1]
    have hqq15 : (hN q15 : Int) = hN q13 := by rw [Qq15.2]
    have sqq15 : (sN q15 : Int) = sN q13 := by rw [Pq15.2.1]
    have adq15 : (q15.1 26).toInt = (q13.1 26).toInt := by rw [Aq154]
    refine hs (f := dm_ist 54 4) (lv' := [(4, .int (q13.1 15)), (0, .ref 68), (1, .int a), (2, .int b), (3, .int kd)]) rfl rfl ?_
    refine hs (f := dm_ald 55 0) rfl rfl ?_
    refine hs (f := dm_ild 56 1) rfl rfl ?_
    have meq17 := Rq15.1.2.1
    refine r_inv rfl hM14 rfl (as := [.ref 68, .int a]) rfl (Nat.le_of_ble_eq_true rfl) (hT_mono (by decide) (w_156 hM14 Rq15 a (by omega) (by omega)) (fun r1 M16 w => ?_))
    obtain ⟨rfl, q17, hM16, Rq17, Kq17⟩ := w
    have fq17 : q17.1 41 = q.1 41 := Kq17.2.2.2.2.1.trans fq15
    have mq17 : (q17.1 15).toInt = (q15.1 15).toInt := by rw [Kq17.1]
    have adq17 : (q17.1 26).toInt = (q15.1 26).toInt := by rw [Kq17.2.2.2.1]
    refine hs (f := dm_ald 60 0) rfl rfl ?_
    refine hs (f := dm_ild 61 2) rfl rfl ?_
    have meq19 := Rq17.1.2.1
    refine r_inv rfl hM16 rfl (as := [.ref 68, .int b]) rfl (Nat.le_of_ble_eq_true rfl) (hT_mono (by decide) (w_156 hM16 Rq17 b (by omega) (by omega)) (fun r1 M18 w => ?_))
    obtain ⟨rfl, q19, hM18, Rq19, Kq19⟩ := w
    have fq19 : q19.1 41 = q.1 41 := Kq19.2.2.2.2.1.trans fq17
    have mq19 : (q19.1 15).toInt = (q17.1 15).toInt := by rw [Kq19.1]
    have adq19 : (q19.1 26).toInt = (q17.1 26).toInt := by rw [Kq19.2.2.2.1]
    refine hs (f := dm_ild 66 4) rfl rfl ?_
    exact hr (f := dm_ret .int) rfl rfl (⟨_, q19, rfl, hM18, RI_up Rq19 (by omega), fq19, Or.inr (by omega)⟩)
  · skip
    refine hs (f := dm_if_ne 37 39) (pc' := 37) rfl rfl ?_
    refine hs (f := dm_push 38 (.int (-1))) rfl rfl ?_
    exact hr (f := dm_ret .int) rfl rfl (⟨_, q4, rfl, hM3, RI_up Rq4 (by omega), fq4, Or.inl rfl⟩)
set_option maxHeartbeats 4000000 in
theorem op_166 {X : dm_Mem} {q : rS} {M : dm_Mem} {T : Int} (hM : Rm X q M) (hR : RI T q) (hT6 : 0 ≤ T ∧ T ≤ 600) (a b : Int32) : hT 66 166 [.ref 68, .int a, .int b] M (fun r M' => ∃ (x : Int32) (q' : rS), r = some (.int x) ∧ Rm X q' M' ∧ RI (T + 1) q' ∧ q'.1 41 = q.1 41) := by
  refine hx (t := cd_166) rfl (Nat.le_of_ble_eq_true rfl) (lv := [(0, .ref 68), (1, .int a), (2, .int b)]) rfl ?_
  refine hs (f := dm_ald 1 0) rfl rfl ?_
  refine hs (f := dm_push 2 (.int 0)) rfl rfl ?_
  refine r_puti rfl hM rfl (fun M1 hM1 => ?_)
  replace hM1 := rm_to (q' := (sF q 40 (0 : Int32))) hM1 (show sF q 40 (0 : Int32) = (sF q 40 (0 : Int32)) from (show sF q 40 (0 : Int32) = (sF q 40 (0 : Int32)) from rfl))
  obtain ⟨q2, eq2⟩ : ∃ z, z = (sF q 40 (0 : Int32)) := ⟨_, rfl⟩
  rw [← eq2] at hM1
  have Rq2 : RI T q2 := by rw [eq2]; exact hR
  have Kq2 : KP q q2 := by rw [eq2]; exact ⟨rfl, rfl, rfl, rfl, rfl, rfl, rfl, rfl, rfl, rfl, rfl, rfl, rfl⟩
  have fq2 : q2.1 41 = q.1 41 := Kq2.2.2.2.2.1
  have evq2 := Rq2.2.2.1
  have mxq2 := Rq2.1.2.1
  have btq2 := Rq2.2.2.2.2.2.1
  refine hs (f := dm_ald 6 0) rfl rfl ?_
  refine hs (f := dm_ild 7 1) rfl rfl ?_
  refine r_inv rfl hM1 rfl (as := [.ref 68, .int a]) rfl (Nat.le_of_ble_eq_true rfl) (hT_mono (by decide) (r_137 hM1 Rq2.1.2.1 a) (fun r1 M4 w => ?_))
  obtain ⟨rfl, ⟨rfl, u3a, u3b⟩ | ⟨rfl, u3n⟩⟩ := w
  · skip
    refine hs (f := dm_if_eq 13 26) (pc' := 13) rfl rfl ?_
    refine hs (f := dm_ald 14 0) rfl rfl ?_
    refine hs (f := dm_ild 15 2) rfl rfl ?_
    refine r_inv rfl hM1 rfl (as := [.ref 68, .int b]) rfl (Nat.le_of_ble_eq_true rfl) (hT_mono (by decide) (r_137 hM1 Rq2.1.2.1 b) (fun r1 M6 w => ?_))
    obtain ⟨rfl, ⟨rfl, u5a, u5b⟩ | ⟨rfl, u5n⟩⟩ := w
    · skip
      refine hs (f := dm_if_eq 21 26) (pc' := 21) rfl rfl ?_
      refine hs (f := dm_ild 22 1) rfl rfl ?_
      refine hs (f := dm_ild 23 2) rfl rfl ?_
      refine g_ic_ne (n := 26) (tt := 28) rfl (fun h7 => ?_) (fun h7 => ?_)
      · skip
        have h7 : ¬ a.toInt = b.toInt := h7
        refine hs (f := dm_ald 29 0) rfl rfl ?_
        refine hs (f := dm_ild 30 1) rfl rfl ?_
        refine hs (f := dm_ild 31 2) rfl rfl ?_
        refine hs (f := dm_push 32 (.int 3)) rfl rfl ?_
        refine r_inv rfl hM1 rfl (as := [.ref 68, .int a, .int b, .int 3]) rfl (Nat.le_of_ble_eq_true rfl) (hT_mono (by decide) (w_165 hM1 Rq2 hT6 a b (3 : Int32) (by omega) (by omega) (by omega) (by omega)) (fun r1 M8 w => ?_))
        obtain ⟨x10, q9, rfl, hM8, Rq9, Fq9, Eq9⟩ := w
        have fq9 : q9.1 41 = q.1 41 := Fq9.trans fq2
        have acq9 := Rq9.2.2.2.2.1
        have mmq9 := Rq2.1.2.1
        exact hr (f := dm_ret .int) rfl rfl (⟨_, q9, rfl, hM8, RI_up Rq9 (by omega), fq9⟩)
      · skip
        have h7 : a.toInt = b.toInt := h7
        refine hs (f := dm_push 27 (.int (-1))) rfl rfl ?_
        exact hr (f := dm_ret .int) rfl rfl (⟨_, q2, rfl, hM1, RI_up Rq2 (by omega), fq2⟩)
    · skip
      refine hs (f := dm_if_eq 21 26) (pc' := 26) rfl rfl ?_
      refine hs (f := dm_push 27 (.int (-1))) rfl rfl ?_
      exact hr (f := dm_ret .int) rfl rfl (⟨_, q2, rfl, hM1, RI_up Rq2 (by omega), fq2⟩)
  · skip
    refine hs (f := dm_if_eq 13 26) (pc' := 26) rfl rfl ?_
    refine hs (f := dm_push 27 (.int (-1))) rfl rfl ?_
    exact hr (f := dm_ret .int) rfl rfl (⟨_, q2, rfl, hM1, RI_up Rq2 (by omega), fq2⟩)
set_option maxHeartbeats 4000000 in
theorem op_171 {X : dm_Mem} {q : rS} {M : dm_Mem} {T : Int} (hM : Rm X q M) (hR : RI T q) (hT6 : 0 ≤ T ∧ T ≤ 600) (s t : Int32) : hT 66 171 [.ref 68, .int s, .int t] M (fun r M' => ∃ (x : Int32) (q' : rS), r = some (.int x) ∧ Rm X q' M' ∧ RI (T + 1) q' ∧ q'.1 41 = q.1 41) := by
  refine hx (t := cd_171) rfl (Nat.le_of_ble_eq_true rfl) (lv := [(0, .ref 68), (1, .int s), (2, .int t)]) rfl ?_
  refine hs (f := dm_ald 1 0) rfl rfl ?_
  refine hs (f := dm_push 2 (.int 0)) rfl rfl ?_
  refine r_puti rfl hM rfl (fun M1 hM1 => ?_)
  replace hM1 := rm_to (q' := (sF q 40 (0 : Int32))) hM1 (show sF q 40 (0 : Int32) = (sF q 40 (0 : Int32)) from (show sF q 40 (0 : Int32) = (sF q 40 (0 : Int32)) from rfl))
  obtain ⟨q2, eq2⟩ : ∃ z, z = (sF q 40 (0 : Int32)) := ⟨_, rfl⟩
  rw [← eq2] at hM1
  have Rq2 : RI T q2 := by rw [eq2]; exact hR
  have Kq2 : KP q q2 := by rw [eq2]; exact ⟨rfl, rfl, rfl, rfl, rfl, rfl, rfl, rfl, rfl, rfl, rfl, rfl, rfl⟩
  have fq2 : q2.1 41 = q.1 41 := Kq2.2.2.2.2.1
  have evq2 := Rq2.2.2.1
  have mxq2 := Rq2.1.2.1
  have btq2 := Rq2.2.2.2.2.2.1
  refine hs (f := dm_ald 6 0) rfl rfl ?_
  refine hs (f := dm_ild 7 1) rfl rfl ?_
  refine r_inv rfl hM1 rfl (as := [.ref 68, .int s]) rfl (Nat.le_of_ble_eq_true rfl) (hT_mono (by decide) (r_137 hM1 Rq2.1.2.1 s) (fun r1 M4 w => ?_))
  obtain ⟨rfl, ⟨rfl, u3a, u3b⟩ | ⟨rfl, u3n⟩⟩ := w
  · skip
    refine hs (f := dm_if_eq 13 39) (pc' := 13) rfl rfl ?_
    refine hs (f := dm_ald 14 0) rfl rfl ?_
    refine hs (f := dm_ild 15 2) rfl rfl ?_
    refine r_inv rfl hM1 rfl (as := [.ref 68, .int t]) rfl (Nat.le_of_ble_eq_true rfl) (hT_mono (by decide) (r_136 hM1 t) (fun r1 M6 w => ?_))
    obtain ⟨rfl, ⟨rfl, u5a, u5b⟩ | ⟨rfl, u5n⟩⟩ := w
    · skip
      refine hs (f := dm_if_eq 21 39) (pc' := 21) rfl rfl ?_
      refine hs (f := dm_ald 22 0) rfl rfl ?_
      refine r_geta (c := 73) rfl hM1 rfl ?_
      refine hs (f := dm_ild 26 2) rfl rfl ?_
      refine r_zald (L := 1000) (i := t) ((q2.2.2.1 76) t.toInt.toNat) rfl hM1 rfl (by omega) rfl ?_
      refine g_if_eq (n := 30) (tt := 39) rfl (fun h7 => ?_) (fun h7 => ?_)
      · skip
        have h7 : ((q2.2.2.1 76) t.toInt.toNat).toInt = 0 := h7
        refine hs (f := dm_push 40 (.int (-1))) rfl rfl ?_
        exact hr (f := dm_ret .int) rfl rfl (⟨_, q2, rfl, hM1, RI_up Rq2 (by omega), fq2⟩)
      · skip
        have h7 : ¬ ((q2.2.2.1 76) t.toInt.toNat).toInt = 0 := h7
        refine hs (f := dm_ald 31 0) rfl rfl ?_
        refine hs (f := dm_ild 32 2) rfl rfl ?_
        refine hs (f := dm_ild 33 1) rfl rfl ?_
        have sau8 := SB_at Rq2.1 (s := t.toInt) (by omega) (by omega)
        have sbu8 := SB_at Rq2.1 (s := s.toInt) (by omega) (by omega)
        refine r_inv rfl hM1 rfl (as := [.ref 68, .int t, .int s]) rfl (Nat.le_of_ble_eq_true rfl) (hT_mono (by decide) (r_173 hM1 t s (by omega) (by omega) (by omega) (by omega) (by omega) (by omega) (by omega) (by omega)) (fun r1 M9 w => ?_))
        obtain ⟨rfl, ⟨rfl, _⟩ | ⟨rfl, _⟩⟩ := w
        · skip
          refine hs (f := dm_if_ne 39 41) (pc' := 41) rfl rfl ?_
          refine hs (f := dm_ald 42 0) rfl rfl ?_
          refine hs (f := dm_ild 43 1) rfl rfl ?_
          refine hs (f := dm_ild 44 2) rfl rfl ?_
          refine hs (f := dm_push 45 (.int 5)) rfl rfl ?_
          refine r_inv rfl hM1 rfl (as := [.ref 68, .int s, .int t, .int 5]) rfl (Nat.le_of_ble_eq_true rfl) (hT_mono (by decide) (w_165 hM1 Rq2 hT6 s t (5 : Int32) (by omega) (by omega) (by omega) (by omega)) (fun r1 M10 w => ?_))
          obtain ⟨x12, q11, rfl, hM10, Rq11, Fq11, Eq11⟩ := w
          have fq11 : q11.1 41 = q.1 41 := Fq11.trans fq2
          have acq11 := Rq11.2.2.2.2.1
          have mmq11 := Rq2.1.2.1
          refine hs (f := dm_ist 49 3) (lv' := [(3, .int x12), (0, .ref 68), (1, .int s), (2, .int t)]) rfl rfl ?_
          refine hs (f := dm_ild 50 3) rfl rfl ?_
          refine hs (f := dm_push 51 (.int (-1))) rfl rfl ?_
          refine g_ic_ne (n := 54) (tt := 56) rfl (fun h13 => ?_) (fun h13 => ?_)
          · skip
            have h13 : ¬ x12.toInt = (-1) := h13
            have E9 := Eq11.resolve_left (fun z => absurd (congrArg Int32.toInt z) (show ¬ x12.toInt = (-1 : Int32).toInt from h13))
            refine hs (f := dm_ald 57 0) rfl rfl ?_
            refine r_geta (c := 73) rfl hM10 rfl ?_
            refine hs (f := dm_ild 61 2) rfl rfl ?_
            refine hs (f := dm_push 62 (.int 0)) rfl rfl ?_
            refine r_zast (L := 1000) (i := t) (x := (0 : Int32)) (q11.2.2.1 76) rfl hM10 rfl (by omega) rfl (fun M14 hM14 => ?_)
            replace hM14 := rm_to (q' := (sA q11 76 (upd (q11.2.2.1 76) t.toInt.toNat (vp_nar .boolean (0 : Int32))))) hM14 (show sA q11 76 (upd (q11.2.2.1 76) t.toInt.toNat (vp_nar .boolean (0 : Int32))) = (sA q11 76 (upd (q11.2.2.1 76) t.toInt.toNat (vp_nar .boolean (0 : Int32)))) from (show sA q11 76 (upd (q11.2.2.1 76) t.toInt.toNat (vp_nar .boolean (0 : Int32))) = (sA q11 76 (upd (q11.2.2.1 76) t.toInt.toNat (vp_nar .boolean (0 : Int32)))) from rfl))
            refine hs (f := dm_ald 64 0) rfl rfl ?_
            refine r_geta (c := 88) rfl hM14 rfl ?_
            refine hs (f := dm_ald 68 0) rfl rfl ?_
            refine r_geti (q11.1 26) rfl hM14 rfl rfl ?_
            refine hs (f := dm_push 72 (.int 1)) rfl rfl ?_
            have e15 : ((q11.1 26) - (1 : Int32)).toInt = (q11.1 26).toInt - 1 := by have w := i_subc (x := (q11.1 26)) (y := (1 : Int32)) 1 rfl (by omega) (by omega); omega
            refine hs (f := dm_ii 73 (fun x y => x - y)) (st' := [.int ((q11.1 26) - (1 : Int32)), .ref 91]) rfl rfl ?_
            refine hs (f := dm_ild 74 2) rfl rfl ?_
            refine hs (f := dm_i1 75 (fun x => .int x.toInt16.toInt32)) (st' := [.int (t.toInt16.toInt32), .int ((q11.1 26) - (1 : Int32)), .ref 91]) rfl rfl ?_
            refine r_sast (L := 3000) (i := ((q11.1 26) - (1 : Int32))) (x := (t.toInt16.toInt32)) (q11.2.2.1 91) rfl hM14 rfl (by omega) rfl (fun M16 hM16 => ?_)
            replace hM16 := rm_to (q' := (sA (sA q11 76 (upd (q11.2.2.1 76) t.toInt.toNat (vp_nar .boolean (0 : Int32)))) 91 (upd (q11.2.2.1 91) ((q11.1 26) - (1 : Int32)).toInt.toNat (vp_nar .short (t.toInt16.toInt32))))) hM16 (show sA (sA q11 76 (upd (q11.2.2.1 76) t.toInt.toNat (vp_nar .boolean (0 : Int32)))) 91 (upd (q11.2.2.1 91) ((q11.1 26) - (1 : Int32)).toInt.toNat (vp_nar .short (t.toInt16.toInt32))) = (sA (sA q11 76 (upd (q11.2.2.1 76) t.toInt.toNat (vp_nar .boolean (0 : Int32)))) 91 (upd (q11.2.2.1 91) ((q11.1 26) - (1 : Int32)).toInt.toNat (vp_nar .short (t.toInt16.toInt32)))) from (show sA (sA q11 76 (upd (q11.2.2.1 76) t.toInt.toNat (vp_nar .boolean (0 : Int32)))) 91 (upd (q11.2.2.1 91) ((q11.1 26) - (1 : Int32)).toInt.toNat (vp_nar .short (t.toInt16.toInt32))) = (sA (sA q11 76 (upd (q11.2.2.1 76) t.toInt.toNat (vp_nar .boolean (0 : Int32)))) 91 (upd (q11.2.2.1 91) ((q11.1 26) - (1 : Int32)).toInt.toNat (vp_nar .short (t.toInt16.toInt32)))) from rfl))
            refine hs (f := dm_ild 77 3) rfl rfl ?_
            exact hr (f := dm_ret .int) rfl rfl (⟨_, _, rfl, hM16, RI_91 (q := q11) Rq11 (by rw [nar_s (by omega) (by omega)]; omega), fq11⟩)
          · skip
            have h13 : x12.toInt = (-1) := h13
            refine hs (f := dm_push 55 (.int (-1))) rfl rfl ?_
            exact hr (f := dm_ret .int) rfl rfl (⟨_, q11, rfl, hM10, RI_up Rq11 (by omega), fq11⟩)
        · skip
          refine hs (f := dm_if_ne 39 41) (pc' := 39) rfl rfl ?_
          refine hs (f := dm_push 40 (.int (-1))) rfl rfl ?_
          exact hr (f := dm_ret .int) rfl rfl (⟨_, q2, rfl, hM1, RI_up Rq2 (by omega), fq2⟩)
    · skip
      refine hs (f := dm_if_eq 21 39) (pc' := 39) rfl rfl ?_
      refine hs (f := dm_push 40 (.int (-1))) rfl rfl ?_
      exact hr (f := dm_ret .int) rfl rfl (⟨_, q2, rfl, hM1, RI_up Rq2 (by omega), fq2⟩)
  · skip
    refine hs (f := dm_if_eq 13 39) (pc' := 39) rfl rfl ?_
    refine hs (f := dm_push 40 (.int (-1))) rfl rfl ?_
    exact hr (f := dm_ret .int) rfl rfl (⟨_, q2, rfl, hM1, RI_up Rq2 (by omega), fq2⟩)
