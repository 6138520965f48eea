/-! a stamp's bits and its questions -/
noncomputable def wN (q : rS) : Nat := wsN (q.2.2.2 96) (q.2.2.2 97) (q.1 34).toInt 60 0 + whN (q.2.2.2 92) (q.2.2.1 93) (q.1 29).toInt 60 0 0
theorem wN_same {q q' : rS} (h : sameW q q') (h2 : sameO q q') : wN q' = wN q := by
  obtain ⟨a1, a2, a3⟩ := h
  obtain ⟨b1, b2, b3⟩ := h2
  unfold wN
  rw [a1, a2, a3, b1, b2, b3]
theorem wN_le {q : rS} (hW : okW q) (hn : (q.1 29).toInt ≤ 24000) (hO : okO q) (ho : (q.1 34).toInt ≤ 24000) : wN q ≤ 300000000 := by
  have h1 := wsN_le (q.2.2.2 96) (q.2.2.2 97) (q.1 34).toInt 60 0
  have h2 := whN_le (q.2.2.2 92) (q.2.2.1 93) (q.1 29).toInt 60 0 0
  have h3 := HN_max hW hn
  have h4 := SN_max hO.1 hO.2 ho
  unfold wN
  omega
theorem r_192 {X : dm_Mem} {q : rS} {M : dm_Mem} (hM : Rm X q M) (tr : Int32) (htr : isB tr) (hW : okW q) (hn : (q.1 29).toInt ≤ 24000) (hO : okO q) (ho : (q.1 34).toInt ≤ 24000) (hw : tr.toInt = 0 ∨ wN q ≤ 600) : hT 64 192 [.ref 68, .int tr] M (fun r M' => ∃ (t : Int32) (a : Nat → Int32), r = some (.int t) ∧ t.toInt = (wN q : Nat) ∧ Rm X (sA (sF (sF q 64 tr) 65 t) 98 a) M') := by
  have hl := wN_le hW hn hO ho
  have hd : wN q = wsN (q.2.2.2 96) (q.2.2.2 97) (q.1 34).toInt 60 0 + whN (q.2.2.2 92) (q.2.2.1 93) (q.1 29).toInt 60 0 0 := rfl
  refine hx (t := cd_192) rfl (Nat.le_of_ble_eq_true rfl) (lv := [(0, .ref 68), (1, .int tr)]) rfl ?_
  refine hs (f := dm_ald 1 0) rfl rfl ?_
  refine hs (f := dm_ild 2 1) rfl rfl ?_
  refine r_putb rfl hM rfl htr (fun M1 hM1 => ?_)
  replace hM1 := rm_to (q' := (sF q 64 tr)) hM1 (show sF q 64 tr = (sF q 64 tr) from (show sF q 64 tr = (sF q 64 tr) from rfl))
  refine hs (f := dm_ald 6 0) rfl rfl ?_
  refine hs (f := dm_push 7 (.int 0)) rfl rfl ?_
  refine r_puti rfl hM1 rfl (fun M2 hM2 => ?_)
  replace hM2 := rm_to (q' := (sF (sF q 64 tr) 65 (0 : Int32))) hM2 (show sF (sF q 64 tr) 65 (0 : Int32) = (sF (sF q 64 tr) 65 (0 : Int32)) from (show sF (sF q 64 tr) 65 (0 : Int32) = (sF (sF q 64 tr) 65 (0 : Int32)) from rfl))
  refine hs (f := dm_ald 11 0) rfl rfl ?_
  refine hs (f := dm_push 12 (.long 0)) rfl rfl ?_
  refine hs (f := dm_push 15 (.long 1152921504606846976)) rfl rfl ?_
  replace hM2 := rm_to (q' := (sA (sF (sF q 64 tr) 65 (0 : Int32)) 98 (q.2.2.1 98))) hM2 (Eq.trans (sA_id (q := (sF (sF q 64 tr) 65 (0 : Int32))) (k := 98) (v := (q.2.2.1 98)) rfl) (show sA (sF (sF q 64 tr) 65 (0 : Int32)) 98 (q.2.2.1 98) = (sA (sF (sF q 64 tr) 65 (0 : Int32)) 98 (q.2.2.1 98)) from (show sA (sF (sF q 64 tr) 65 (0 : Int32)) 98 (q.2.2.1 98) = (sA (sF (sF q 64 tr) 65 (0 : Int32)) 98 (q.2.2.1 98)) from rfl)))
  refine r_inv rfl hM2 rfl (as := [.ref 68, .long 0, .long 1152921504606846976]) rfl (Nat.le_of_ble_eq_true rfl) (hT_mono (by decide) (show hT 62 190 [.ref 68, .long 0, .long 1152921504606846976] _ (fun r M' => r = none ∧ ∃ (t2 : Int32) (a2 : Nat → Int32), t2.toInt = 0 + ((wsN (q.2.2.2 96) (q.2.2.2 97) (q.1 34).toInt 60 0 : Nat) : Int) ∧ Rm X (sA (sF (sF q 64 tr) 65 t2) 98 a2) M') from r_190 (q := sF q 64 tr) ⟨hO.2, ho⟩ 60 0 1152921504606846976 0 (q.2.2.1 98) _ hM2 rfl (by decide) (by decide) (by decide) (show (0 : Int) + ((wsN (q.2.2.2 96) (q.2.2.2 97) (q.1 34).toInt 60 0 : Nat) : Int) ≤ 1000000000 by omega) (show tr.toInt = 0 ∨ (0 : Int) + ((wsN (q.2.2.2 96) (q.2.2.2 97) (q.1 34).toInt 60 0 : Nat) : Int) ≤ 600 by omega)) (fun r1 M3 w => ?_))
  obtain ⟨rfl, t1, a1, e1, hM3⟩ := w
  refine hs (f := dm_ald 19 0) rfl rfl ?_
  refine hs (f := dm_push 20 (.long 0)) rfl rfl ?_
  refine hs (f := dm_push 23 (.long 1152921504606846976)) rfl rfl ?_
  refine hs (f := dm_push 24 (.int 0)) rfl rfl ?_
  refine r_inv rfl hM3 rfl (as := [.ref 68, .long 0, .long 1152921504606846976, .int 0]) rfl (Nat.le_of_ble_eq_true rfl) (hT_mono (by decide) (show hT 63 191 [.ref 68, .long 0, .long 1152921504606846976, .int 0] _ (fun r M' => r = none ∧ ∃ (t2 : Int32) (a2 : Nat → Int32), t2.toInt = t1.toInt + ((whN (q.2.2.2 92) (q.2.2.1 93) (q.1 29).toInt 60 0 0 : Nat) : Int) ∧ Rm X (sA (sF (sF q 64 tr) 65 t2) 98 a2) M') from r_191 (q := sF q 64 tr) hW hn 60 0 1152921504606846976 0 t1 a1 _ hM3 rfl (by decide) (by decide) (by omega) (show t1.toInt + ((whN (q.2.2.2 92) (q.2.2.1 93) (q.1 29).toInt 60 0 0 : Nat) : Int) ≤ 1000000000 by omega) (show tr.toInt = 0 ∨ t1.toInt + ((whN (q.2.2.2 92) (q.2.2.1 93) (q.1 29).toInt 60 0 0 : Nat) : Int) ≤ 600 by omega)) (fun r1 M4 w => ?_))
  obtain ⟨rfl, t2, a2, e2, hM4⟩ := w
  refine hs (f := dm_ald 28 0) rfl rfl ?_
  refine r_geti t2 rfl hM4 rfl rfl ?_
  exact hr (f := dm_ret .int) rfl rfl (⟨t2, a2, rfl, by omega, hM4⟩)
theorem w_192 {X : dm_Mem} {q : rS} {M : dm_Mem} {T : Int} (hM : Rm X q M) (hR : RI T q) (hW : okW q) (hn : (q.1 29).toInt ≤ 24000) (hO : okO q) (ho : (q.1 34).toInt ≤ 24000) (tr : Int32) (htr : isB tr) (hw : tr.toInt = 0 ∨ wN q ≤ 600) : hT 64 192 [.ref 68, .int tr] M (fun r M' => ∃ (x : Int32) (q' : rS), r = some (.int x) ∧ x.toInt = (wN q : Nat) ∧ Rm X q' M' ∧ RI T q' ∧ KP q q' ∧ sameW q q' ∧ sameO q q') := by
  refine hT_mono (Nat.le_refl _) (r_192 hM tr htr hW hn hO ho hw) (fun r M' w => ?_)
  obtain ⟨t, a, rfl, e, hM2⟩ := w
  exact ⟨t, _, rfl, e, hM2, hR, ⟨rfl, rfl, rfl, rfl, rfl, rfl, rfl, rfl, rfl, rfl, rfl, rfl, rfl⟩, ⟨rfl, rfl, rfl⟩, ⟨rfl, rfl, rfl⟩⟩
set_option maxHeartbeats 4000000 in
theorem op_193 {X : dm_Mem} {q : rS} {M : dm_Mem} {T : Int} (hM : Rm X q M) (hR : RI T q) (hT6 : 0 ≤ T ∧ T ≤ 600) (s : Int32) : hT 65 193 [.ref 68, .int s] M (fun r M' => ∃ (x : Int32) (q' : rS), r = some (.int x) ∧ Rm X q' M' ∧ RI (T + 1) q' ∧ q'.1 41 = q.1 41) := by
  refine hx (t := cd_193) rfl (Nat.le_of_ble_eq_true rfl) (lv := [(0, .ref 68), (1, .int s)]) rfl ?_
  refine hs (f := dm_ald 1 0) rfl rfl ?_
  refine hs (f := dm_push 2 (.int 0)) rfl rfl ?_
  refine r_puti rfl hM rfl (fun M1 hM1 => ?_)
  replace hM1 := rm_to (q' := (sF q 40 (0 : Int32))) hM1 (show sF q 40 (0 : Int32) = (sF q 40 (0 : Int32)) from (show sF q 40 (0 : Int32) = (sF q 40 (0 : Int32)) from rfl))
  obtain ⟨q2, eq2⟩ : ∃ z, z = (sF q 40 (0 : Int32)) := ⟨_, rfl⟩
  rw [← eq2] at hM1
  have Rq2 : RI T q2 := by rw [eq2]; exact hR
  have Kq2 : KP q q2 := by rw [eq2]; exact ⟨rfl, rfl, rfl, rfl, rfl, rfl, rfl, rfl, rfl, rfl, rfl, rfl, rfl⟩
  have fq2 : q2.1 41 = q.1 41 := Kq2.2.2.2.2.1
  have evq2 := Rq2.2.2.1
  have mxq2 := Rq2.1.2.1
  have btq2 := Rq2.2.2.2.2.2.1
  refine hs (f := dm_ald 6 0) rfl rfl ?_
  refine hs (f := dm_ild 7 1) rfl rfl ?_
  refine r_inv rfl hM1 rfl (as := [.ref 68, .int s]) rfl (Nat.le_of_ble_eq_true rfl) (hT_mono (by decide) (r_136 hM1 s) (fun r1 M4 w => ?_))
  obtain ⟨rfl, ⟨rfl, u3a, u3b⟩ | ⟨rfl, u3n⟩⟩ := w
  · skip
    refine hs (f := dm_if_ne 13 15) (pc' := 15) rfl rfl ?_
    refine hs (f := dm_ald 16 0) rfl rfl ?_
    refine hs (f := dm_ild 17 1) rfl rfl ?_
    have kqq2 := SB_at Rq2.1 (s := s.toInt) (by omega) (by omega)
    have knq2 := Rq2.1.2.2.2.2.2.2
    refine r_inv rfl hM1 rfl (as := [.ref 68, .int s]) rfl (Nat.le_of_ble_eq_true rfl) (hT_mono (by decide) (w_141 hM1 Rq2 s (by omega) (by omega)) (fun r1 M5 w => ?_))
    obtain ⟨rfl, q6, hM5, Rq6, Kq6, Oq6, Wq6, Sq6⟩ := w
    have mq6 : (q6.1 15).toInt = (q2.1 15).toInt := by rw [Kq6.1]
    have nq6 : (q6.1 17).toInt = (q2.1 17).toInt := by rw [Kq6.2.2.1]
    have fq6 : q6.1 41 = q.1 41 := Kq6.2.2.2.2.1.trans fq2
    have vq6 : (q6.1 16).toInt = (q2.1 16).toInt := by rw [Kq6.2.1]
    have lwq6 : 2 * (q6.1 29).toInt - 1 ≤ (hN q6 : Nat) := HN_len Wq6
    have l29q6 : (q6.1 29).toInt ≤ 24000 := by omega
    refine hs (f := dm_ald 21 0) rfl rfl ?_
    refine hs (f := dm_ild 22 1) rfl rfl ?_
    have kqq6 := SB_at Rq6.1 (s := s.toInt) (by omega) (by omega)
    refine r_inv rfl hM5 rfl (as := [.ref 68, .int s]) rfl (Nat.le_of_ble_eq_true rfl) (hT_mono (by decide) (w_142 hM5 Rq6 s (by omega) (by omega)) (fun r1 M7 w => ?_))
    obtain ⟨rfl, q8, hM7, Rq8, Kq8, Wq8, Oq8, Sq8, Lq8⟩ := w
    have mq8 : (q8.1 15).toInt = (q6.1 15).toInt := by rw [Kq8.1]
    have nq8 : (q8.1 17).toInt = (q6.1 17).toInt := by rw [Kq8.2.2.1]
    have fq8 : q8.1 41 = q.1 41 := Kq8.2.2.2.2.1.trans fq6
    have vq8 : (q8.1 16).toInt = (q6.1 16).toInt := by rw [Kq8.2.1]
    have Qq8 := sameW_ok Wq8 Wq6
    have l29q8 : (q8.1 29).toInt ≤ 24000 := by rw [Wq8.1]; exact l29q6
    have l34q8 : (q8.1 34).toInt ≤ 24000 := by omega
    refine hs (f := dm_ald 26 0) rfl rfl ?_
    refine hs (f := dm_push 27 (.int 0)) rfl rfl ?_
    refine r_inv rfl hM7 rfl (as := [.ref 68, .int 0]) rfl (Nat.le_of_ble_eq_true rfl) (hT_mono (by decide) (w_192 hM7 Rq8 Qq8.1 l29q8 Oq8 l34q8 (0 : Int32) isB_0 (Or.inl rfl)) (fun r1 M9 w => ?_))
    obtain ⟨xq10, q10, rfl, eq10, hM9, Rq10, Kq10, Wq10, Oq10⟩ := w
    have mq10 : (q10.1 15).toInt = (q8.1 15).toInt := by rw [Kq10.1]
    have nq10 : (q10.1 17).toInt = (q8.1 17).toInt := by rw [Kq10.2.2.1]
    have fq10 : q10.1 41 = q.1 41 := Kq10.2.2.2.2.1.trans fq8
    have vq10 : (q10.1 16).toInt = (q8.1 16).toInt := by rw [Kq10.2.1]
    have cq10 : (q10.1 26).toInt = (q8.1 26).toInt := by rw [Kq10.2.2.2.1]
    have wnq10 : wN q10 = wN q8 := wN_same Wq10 Oq10
    have Qq10 := sameW_ok Wq10 Qq8.1
    have Pq10 := sameO_ok Oq10 Oq8
    have l29q10 : (q10.1 29).toInt ≤ 24000 := by rw [Wq10.1]; exact l29q8
    have l34q10 : (q10.1 34).toInt ≤ 24000 := by rw [Oq10.1]; exact l34q8
    refine hs (f := dm_push 33 (.int 600)) rfl rfl ?_
    refine g_ic_le (n := 36) (tt := 38) rfl (fun h11 => ?_) (fun h11 => ?_)
    · skip
      have h11 : xq10.toInt ≤ 600 := h11
      refine hs (f := dm_ald 39 0) rfl rfl ?_
      refine hs (f := dm_ald 40 0) rfl rfl ?_
      refine hs (f := dm_push 41 (.int 1)) rfl rfl ?_
      refine r_inv rfl hM9 rfl (as := [.ref 68, .int 1]) rfl (Nat.le_of_ble_eq_true rfl) (hT_mono (by decide) (w_192 hM9 Rq10 Qq10.1 l29q10 Pq10.1 l34q10 (1 : Int32) isB_1 (Or.inr (by omega))) (fun r1 M12 w => ?_))
      obtain ⟨xq13, q13, rfl, eq13, hM12, Rq13, Kq13, Wq13, Oq13⟩ := w
      have mq13 : (q13.1 15).toInt = (q10.1 15).toInt := by rw [Kq13.1]
      have nq13 : (q13.1 17).toInt = (q10.1 17).toInt := by rw [Kq13.2.2.1]
      have fq13 : q13.1 41 = q.1 41 := Kq13.2.2.2.2.1.trans fq10
      have vq13 : (q13.1 16).toInt = (q10.1 16).toInt := by rw [Kq13.2.1]
      have cq13 : (q13.1 26).toInt = (q10.1 26).toInt := by rw [Kq13.2.2.2.1]
      have wnq13 : wN q13 = wN q10 := wN_same Wq13 Oq13
      have Qq13 := sameW_ok Wq13 Qq10.1
      have Pq13 := sameO_ok Oq13 Pq10.1
      have l29q13 : (q13.1 29).toInt ≤ 24000 := by rw [Wq13.1]; exact l29q10
      have l34q13 : (q13.1 34).toInt ≤ 24000 := by rw [Oq13.1]; exact l34q10
      refine r_puti rfl hM12 rfl (fun M14 hM14 => ?_)
      replace hM14 := rm_to (q' := (sF q13 36 xq13)) hM14 (show sF q13 36 xq13 = (sF q13 36 xq13) from (show sF q13 36 xq13 = (sF q13 36 xq13) from rfl))
      refine hs (f := dm_ald 48 0) rfl rfl ?_
      refine r_geti xq13 rfl hM14 rfl rfl ?_
      exact hr (f := dm_ret .int) rfl rfl (⟨_, _, rfl, hM14, RI_up (RI_36 Rq13 (by omega)) (by omega), fq13⟩)
    · skip
      have h11 : xq10.toInt > 600 := h11
      refine hs (f := dm_push 37 (.int (-1))) rfl rfl ?_
      exact hr (f := dm_ret .int) rfl rfl (⟨_, _, rfl, hM9, RI_up Rq10 (by omega), fq10⟩)
  · skip
    refine hs (f := dm_if_ne 13 15) (pc' := 13) rfl rfl ?_
    refine hs (f := dm_push 14 (.int (-1))) rfl rfl ?_
    exact hr (f := dm_ret .int) rfl rfl (⟨_, _, rfl, hM1, RI_up Rq2 (by omega), fq2⟩)
set_option maxHeartbeats 4000000 in
theorem op_181 {X : dm_Mem} {q : rS} {M : dm_Mem} {T : Int} (hM : Rm X q M) (hR : RI T q) (hT6 : 0 ≤ T ∧ T ≤ 600) (s w : Int32) : hT 65 181 [.ref 68, .int s, .int w] M (fun r M' => ∃ (x : Int32) (q' : rS), r = some (.int x) ∧ Rm X q' M' ∧ RI (T + 1) q' ∧ q'.1 41 = q.1 41) := by
  refine hx (t := cd_181) rfl (Nat.le_of_ble_eq_true rfl) (lv := [(0, .ref 68), (1, .int s), (2, .int w)]) rfl ?_
  refine hs (f := dm_ald 1 0) rfl rfl ?_
  refine hs (f := dm_push 2 (.int 0)) rfl rfl ?_
  refine r_puti rfl hM rfl (fun M1 hM1 => ?_)
  replace hM1 := rm_to (q' := (sF q 40 (0 : Int32))) hM1 (show sF q 40 (0 : Int32) = (sF q 40 (0 : Int32)) from (show sF q 40 (0 : Int32) = (sF q 40 (0 : Int32)) from rfl))
  obtain ⟨q2, eq2⟩ : ∃ z, z = (sF q 40 (0 : Int32)) := ⟨_, rfl⟩
  rw [← eq2] at hM1
  have Rq2 : RI T q2 := by rw [eq2]; exact hR
  have Kq2 : KP q q2 := by rw [eq2]; exact ⟨rfl, rfl, rfl, rfl, rfl, rfl, rfl, rfl, rfl, rfl, rfl, rfl, rfl⟩
  have fq2 : q2.1 41 = q.1 41 := Kq2.2.2.2.2.1
  have evq2 := Rq2.2.2.1
  have mxq2 := Rq2.1.2.1
  have btq2 := Rq2.2.2.2.2.2.1
  refine hs (f := dm_ald 6 0) rfl rfl ?_
  refine hs (f := dm_ild 7 1) rfl rfl ?_
  refine r_inv rfl hM1 rfl (as := [.ref 68, .int s]) rfl (Nat.le_of_ble_eq_true rfl) (hT_mono (by decide) (r_136 hM1 s) (fun r1 M4 w => ?_))
  obtain ⟨rfl, ⟨rfl, u3a, u3b⟩ | ⟨rfl, u3n⟩⟩ := w
  · skip
    refine hs (f := dm_if_ne 13 15) (pc' := 15) rfl rfl ?_
    refine hs (f := dm_ald 16 0) rfl rfl ?_
    refine hs (f := dm_ild 17 1) rfl rfl ?_
    have kqq2 := SB_at Rq2.1 (s := s.toInt) (by omega) (by omega)
    have knq2 := Rq2.1.2.2.2.2.2.2
    refine r_inv rfl hM1 rfl (as := [.ref 68, .int s]) rfl (Nat.le_of_ble_eq_true rfl) (hT_mono (by decide) (w_141 hM1 Rq2 s (by omega) (by omega)) (fun r1 M5 w => ?_))
    obtain ⟨rfl, q6, hM5, Rq6, Kq6, Oq6, Wq6, Sq6⟩ := w
    have mq6 : (q6.1 15).toInt = (q2.1 15).toInt := by rw [Kq6.1]
    have nq6 : (q6.1 17).toInt = (q2.1 17).toInt := by rw [Kq6.2.2.1]
    have fq6 : q6.1 41 = q.1 41 := Kq6.2.2.2.2.1.trans fq2
    have vq6 : (q6.1 16).toInt = (q2.1 16).toInt := by rw [Kq6.2.1]
    have lwq6 : 2 * (q6.1 29).toInt - 1 ≤ (hN q6 : Nat) := HN_len Wq6
    have l29q6 : (q6.1 29).toInt ≤ 24000 := by omega
    refine hs (f := dm_ald 21 0) rfl rfl ?_
    refine hs (f := dm_ild 22 1) rfl rfl ?_
    have kqq6 := SB_at Rq6.1 (s := s.toInt) (by omega) (by omega)
    refine r_inv rfl hM5 rfl (as := [.ref 68, .int s]) rfl (Nat.le_of_ble_eq_true rfl) (hT_mono (by decide) (w_142 hM5 Rq6 s (by omega) (by omega)) (fun r1 M7 w => ?_))
    obtain ⟨rfl, q8, hM7, Rq8, Kq8, Wq8, Oq8, Sq8, Lq8⟩ := w
    have mq8 : (q8.1 15).toInt = (q6.1 15).toInt := by rw [Kq8.1]
    have nq8 : (q8.1 17).toInt = (q6.1 17).toInt := by rw [Kq8.2.2.1]
    have fq8 : q8.1 41 = q.1 41 := Kq8.2.2.2.2.1.trans fq6
    have vq8 : (q8.1 16).toInt = (q6.1 16).toInt := by rw [Kq8.2.1]
    have Qq8 := sameW_ok Wq8 Wq6
    have l29q8 : (q8.1 29).toInt ≤ 24000 := by rw [Wq8.1]; exact l29q6
    have l34q8 : (q8.1 34).toInt ≤ 24000 := by omega
    refine hs (f := dm_ild 26 2) rfl rfl ?_
    refine h_tsw rfl (by decide) ?_ (hal_c ?_ (hal_c ?_ (hal_c ?_ (hal_c ?_ (hal_c ?_ (hal_c ?_ (hal_c ?_ (hal_c ?_ (hal_c ?_ (hal_c ?_ (hal_c ?_ hal_n)))))))))))
    · skip
      refine hs (f := dm_push 194 (.int (-1))) rfl rfl ?_
      exact hr (f := dm_ret .int) rfl rfl (⟨_, _, rfl, hM7, RI_up Rq8 (by omega), fq8⟩)
    · skip
      refine hs (f := dm_ald 85 0) rfl rfl ?_
      refine r_geta (c := 72) rfl hM7 rfl ?_
      refine hs (f := dm_ild 89 1) rfl rfl ?_
      refine r_zald (L := 1000) (i := s) ((q8.2.2.1 75) s.toInt.toNat) rfl hM7 rfl (by omega) rfl ?_
      refine g_if_eq (n := 93) (tt := 97) rfl (fun h9 => ?_) (fun h9 => ?_)
      · skip
        have h9 : ((q8.2.2.1 75) s.toInt.toNat).toInt = 0 := h9
        refine hs (f := dm_push 98 (.int 0)) rfl rfl ?_
        exact hr (f := dm_ret .int) rfl rfl (⟨_, _, rfl, hM7, RI_up Rq8 (by omega), fq8⟩)
      · skip
        have h9 : ¬ ((q8.2.2.1 75) s.toInt.toNat).toInt = 0 := h9
        refine hs (f := dm_push 94 (.int 1)) rfl rfl ?_
        refine hs (f := dm_goto 98) rfl rfl ?_
        exact hr (f := dm_ret .int) rfl rfl (⟨_, _, rfl, hM7, RI_up Rq8 (by omega), fq8⟩)
    · skip
      refine hs (f := dm_ald 100 0) rfl rfl ?_
      refine r_geta (c := 78) rfl hM7 rfl ?_
      refine hs (f := dm_ild 104 1) rfl rfl ?_
      refine r_iald (L := 1000) (i := s) ((q8.2.2.1 81) s.toInt.toNat) rfl hM7 rfl (by omega) rfl ?_
      generalize g11 : (q8.2.2.1 81) s.toInt.toNat = v10
      have x12 : v10.toInt = rA (q8.2.2.1 81) s.toInt := rA_of (i := s) g11 rfl
      exact hr (f := dm_ret .int) rfl rfl (⟨_, _, rfl, hM7, RI_up Rq8 (by omega), fq8⟩)
    · skip
      refine hs (f := dm_ald 107 0) rfl rfl ?_
      refine r_geta (c := 79) rfl hM7 rfl ?_
      refine hs (f := dm_ild 111 1) rfl rfl ?_
      refine r_iald (L := 1000) (i := s) ((q8.2.2.1 82) s.toInt.toNat) rfl hM7 rfl (by omega) rfl ?_
      generalize g14 : (q8.2.2.1 82) s.toInt.toNat = v13
      have x15 : v13.toInt = rA (q8.2.2.1 82) s.toInt := rA_of (i := s) g14 rfl
      exact hr (f := dm_ret .int) rfl rfl (⟨_, _, rfl, hM7, RI_up Rq8 (by omega), fq8⟩)
    · skip
      refine hs (f := dm_ald 114 0) rfl rfl ?_
      refine r_geta (c := 75) rfl hM7 rfl ?_
      refine hs (f := dm_ild 118 1) rfl rfl ?_
      refine r_yald (L := 1000) (i := s) ((q8.2.2.1 78) s.toInt.toNat) rfl hM7 rfl (by omega) rfl ?_
      generalize g17 : (q8.2.2.1 78) s.toInt.toNat = v16
      have x18 : v16.toInt = rA (q8.2.2.1 78) s.toInt := rA_of (i := s) g17 rfl
      exact hr (f := dm_ret .int) rfl rfl (⟨_, _, rfl, hM7, RI_up Rq8 (by omega), fq8⟩)
    · skip
      refine hs (f := dm_ald 121 0) rfl rfl ?_
      refine r_geta (c := 76) rfl hM7 rfl ?_
      refine hs (f := dm_ild 125 1) rfl rfl ?_
      refine r_sald (L := 1000) (i := s) ((q8.2.2.1 79) s.toInt.toNat) rfl hM7 rfl (by omega) rfl ?_
      generalize g20 : (q8.2.2.1 79) s.toInt.toNat = v19
      have x21 : v19.toInt = rA (q8.2.2.1 79) s.toInt := rA_of (i := s) g20 rfl
      exact hr (f := dm_ret .int) rfl rfl (⟨_, _, rfl, hM7, RI_up Rq8 (by omega), fq8⟩)
    · skip
      refine hs (f := dm_ald 128 0) rfl rfl ?_
      refine r_geta (c := 77) rfl hM7 rfl ?_
      refine hs (f := dm_ild 132 1) rfl rfl ?_
      refine r_sald (L := 1000) (i := s) ((q8.2.2.1 80) s.toInt.toNat) rfl hM7 rfl (by omega) rfl ?_
      generalize g23 : (q8.2.2.1 80) s.toInt.toNat = v22
      have x24 : v22.toInt = rA (q8.2.2.1 80) s.toInt := rA_of (i := s) g23 rfl
      exact hr (f := dm_ret .int) rfl rfl (⟨_, _, rfl, hM7, RI_up Rq8 (by omega), fq8⟩)
    · skip
      refine hs (f := dm_ald 135 0) rfl rfl ?_
      refine hs (f := dm_push 136 (.int 0)) rfl rfl ?_
      refine r_inv rfl hM7 rfl (as := [.ref 68, .int 0]) rfl (Nat.le_of_ble_eq_true rfl) (hT_mono (by decide) (w_192 hM7 Rq8 Qq8.1 l29q8 Oq8 l34q8 (0 : Int32) isB_0 (Or.inl rfl)) (fun r1 M25 w => ?_))
      obtain ⟨xq26, q26, rfl, eq26, hM25, Rq26, Kq26, Wq26, Oq26⟩ := w
      have mq26 : (q26.1 15).toInt = (q8.1 15).toInt := by rw [Kq26.1]
      have nq26 : (q26.1 17).toInt = (q8.1 17).toInt := by rw [Kq26.2.2.1]
      have fq26 : q26.1 41 = q.1 41 := Kq26.2.2.2.2.1.trans fq8
      have vq26 : (q26.1 16).toInt = (q8.1 16).toInt := by rw [Kq26.2.1]
      have cq26 : (q26.1 26).toInt = (q8.1 26).toInt := by rw [Kq26.2.2.2.1]
      have wnq26 : wN q26 = wN q8 := wN_same Wq26 Oq26
      have Qq26 := sameW_ok Wq26 Qq8.1
      have Pq26 := sameO_ok Oq26 Oq8
      have l29q26 : (q26.1 29).toInt ≤ 24000 := by rw [Wq26.1]; exact l29q8
      have l34q26 : (q26.1 34).toInt ≤ 24000 := by rw [Oq26.1]; exact l34q8
      exact hr (f := dm_ret .int) rfl rfl (⟨_, _, rfl, hM25, RI_up Rq26 (by omega), fq26⟩)
    · skip
      refine hs (f := dm_ald 141 0) rfl rfl ?_
      refine hs (f := dm_push 142 (.long 0)) rfl rfl ?_
      refine hs (f := dm_push 145 (.long 1152921504606846976)) rfl rfl ?_
      refine r_inv rfl hM7 rfl (as := [.ref 68, .long 0, .long 1152921504606846976]) rfl (Nat.le_of_ble_eq_true rfl) (hT_mono (by decide) (r_147 hM7 (0 : Int64) (1152921504606846976 : Int64) Qq8.1 l29q8 (by decide) (by decide) (by decide)) (fun r1 M27 w => ?_))
      obtain ⟨rfl, rfl⟩ := w
      exact hr (f := dm_ret .int) rfl rfl (⟨_, _, rfl, hM7, RI_up Rq8 (by omega), fq8⟩)
    · skip
      refine hs (f := dm_ald 150 0) rfl rfl ?_
      refine hs (f := dm_push 151 (.long 0)) rfl rfl ?_
      refine hs (f := dm_push 154 (.long 1152921504606846976)) rfl rfl ?_
      refine r_inv rfl hM7 rfl (as := [.ref 68, .long 0, .long 1152921504606846976]) rfl (Nat.le_of_ble_eq_true rfl) (hT_mono (by decide) (r_146 hM7 (0 : Int64) (1152921504606846976 : Int64) Qq8.1 l29q8 (by decide) (by decide) (by decide)) (fun r1 M29 w => ?_))
      obtain ⟨u30, rfl, rfl⟩ := w
      exact hr (f := dm_ret .int) rfl rfl (⟨_, _, rfl, hM7, RI_up Rq8 (by omega), fq8⟩)
    · skip
      refine hs (f := dm_ald 159 0) rfl rfl ?_
      refine r_geta (c := 73) rfl hM7 rfl ?_
      refine hs (f := dm_ild 163 1) rfl rfl ?_
      refine r_zald (L := 1000) (i := s) ((q8.2.2.1 76) s.toInt.toNat) rfl hM7 rfl (by omega) rfl ?_
      refine g_if_eq (n := 167) (tt := 171) rfl (fun h31 => ?_) (fun h31 => ?_)
      · skip
        have h31 : ((q8.2.2.1 76) s.toInt.toNat).toInt = 0 := h31
        refine hs (f := dm_push 172 (.int 0)) rfl rfl ?_
        exact hr (f := dm_ret .int) rfl rfl (⟨_, _, rfl, hM7, RI_up Rq8 (by omega), fq8⟩)
      · skip
        have h31 : ¬ ((q8.2.2.1 76) s.toInt.toNat).toInt = 0 := h31
        refine hs (f := dm_push 168 (.int 1)) rfl rfl ?_
        refine hs (f := dm_goto 172) rfl rfl ?_
        exact hr (f := dm_ret .int) rfl rfl (⟨_, _, rfl, hM7, RI_up Rq8 (by omega), fq8⟩)
    · skip
      refine hs (f := dm_ald 174 0) rfl rfl ?_
      refine hs (f := dm_ild 175 1) rfl rfl ?_
      refine hs (f := dm_ild 176 1) rfl rfl ?_
      have mkq33 := Rq8.1.2.1
      refine r_inv rfl hM7 rfl (as := [.ref 68, .int s, .int s]) rfl (Nat.le_of_ble_eq_true rfl) (hT_mono (by decide) (op_175 hM7 Rq8 hT6 s s) (fun r1 M32 w => ?_))
      obtain ⟨xq33, q33, rfl, hM32, Rq33, Fq33⟩ := w
      have fq33 : q33.1 41 = q.1 41 := Fq33.trans fq8
      refine hs (f := dm_push 180 (.int (-1))) rfl rfl ?_
      refine g_ic_ne (n := 183) (tt := 187) rfl (fun h34 => ?_) (fun h34 => ?_)
      · skip
        have h34 : ¬ xq33.toInt = (-1) := h34
        refine hs (f := dm_ald 188 0) rfl rfl ?_
        refine hs (f := dm_ild 189 1) rfl rfl ?_
        refine r_inv rfl hM32 rfl (as := [.ref 68, .int s]) rfl (Nat.le_of_ble_eq_true rfl) (hT_mono (by decide) (r_182 hM32 s ⟨by omega, by omega⟩) (fun r1 M35 w => ?_))
        obtain ⟨u36, rfl, rfl⟩ := w
        exact hr (f := dm_ret .int) rfl rfl (⟨_, _, rfl, hM32, RI_up Rq33 (by omega), fq33⟩)
      · skip
        have h34 : xq33.toInt = (-1) := h34
        refine hs (f := dm_push 184 (.int (-1))) rfl rfl ?_
        refine hs (f := dm_goto 192) rfl rfl ?_
        exact hr (f := dm_ret .int) rfl rfl (⟨_, _, rfl, hM32, RI_up Rq33 (by omega), fq33⟩)
  · skip
    refine hs (f := dm_if_ne 13 15) (pc' := 13) rfl rfl ?_
    refine hs (f := dm_push 14 (.int (-1))) rfl rfl ?_
    exact hr (f := dm_ret .int) rfl rfl (⟨_, _, rfl, hM1, RI_up Rq2 (by omega), fq2⟩)
