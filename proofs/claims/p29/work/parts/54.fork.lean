/-! a stamp parted in two -/
def cuL (q : rS) (s : Int) (f t : Int64) : List (Int64 × Int64) := cutL (q.2.2.2 71) (q.2.2.2 72) f t (rA (q.2.2.1 74) (s + 1)) (rA (q.2.2.1 74) (s + 1) - rA (q.2.2.1 74) s).toNat (rA (q.2.2.1 74) s) []
def cuN (q : rS) (s : Int) (f t : Int64) : Nat := SN (fun k => ((cuL q s f t)[k]?.getD (0, 0)).1) (fun k => ((cuL q s f t)[k]?.getD (0, 0)).2) (cuL q s f t).length 60 0
theorem rowO_SN {a b : Nat → Int64} {n : Int} {l : List (Int64 × Int64)} (h : rowO a b n l) : SN a b n 60 0 = SN (fun k => (l[k]?.getD (0, 0)).1) (fun k => (l[k]?.getD (0, 0)).2) l.length 60 0 := by
  rw [h.1]
  refine SN_congr (fun i i0 i1 => ?_) 60 0
  have h2 := h.2 i.toNat l[i.toNat] (List.getElem?_eq_getElem (by omega))
  unfold rB
  rw [h2.1, h2.2]
  show _ = (l[i.toNat]?.getD (0, 0)).1.toInt ∧ _ = (l[i.toNat]?.getD (0, 0)).2.toInt
  rw [List.getElem?_eq_getElem (show i.toNat < l.length by omega)]
  exact ⟨rfl, rfl⟩
theorem cutL_congr {fr to fr' to' : Nat → Int64} {f t : Int64} {e : Int} (h : ∀ m : Int, 0 ≤ m → m < e → fr' m.toNat = fr m.toNat ∧ to' m.toNat = to m.toNat) : ∀ (d : Nat) (k : Int) (l : List (Int64 × Int64)), 0 ≤ k → (e - k).toNat = d → cutL fr' to' f t e d k l = cutL fr to f t e d k l := by
  intro d
  induction d with
  | zero =>
    intro k l k0 hk
    rw [cutL_end (by omega), cutL_end (by omega)]
  | succ d ih =>
    intro k l k0 hk
    have h1 := cutL_go (fr := fr') (to := to') (f := f) (t := t) (l := l) (show k < e by omega)
    have h2 := cutL_go (fr := fr) (to := to) (f := f) (t := t) (l := l) (show k < e by omega)
    rw [hk, show (e - (k + 1)).toNat = d by omega] at h1 h2
    rw [h1, h2, (h k k0 (by omega)).1, (h k k0 (by omega)).2]
    exact ih (k + 1) _ (by omega) (by omega)
theorem cuN_c {q q' : rS} {s : Int} {f t : Int64} (h0 : 0 ≤ rA (q.2.2.1 74) s) (h1 : rA (q'.2.2.1 74) s = rA (q.2.2.1 74) s) (h2 : rA (q'.2.2.1 74) (s + 1) = rA (q.2.2.1 74) (s + 1)) (h3 : ∀ m : Int, 0 ≤ m → m < rA (q.2.2.1 74) (s + 1) → q'.2.2.2 71 m.toNat = q.2.2.2 71 m.toNat ∧ q'.2.2.2 72 m.toNat = q.2.2.2 72 m.toNat) : cuN q' s f t = cuN q s f t := by
  have e : cuL q' s f t = cuL q s f t := by
    unfold cuL
    rw [h1, h2]
    exact cutL_congr h3 _ _ _ h0 rfl
  unfold cuN
  rw [e]
theorem cuN_e {q q' : rS} {s : Int} {f t : Int64} (h1 : q'.2.2.1 74 = q.2.2.1 74) (h2 : q'.2.2.2 71 = q.2.2.2 71) (h3 : q'.2.2.2 72 = q.2.2.2 72) : cuN q' s f t = cuN q s f t := by
  unfold cuN cuL
  rw [h1, h2, h3]
theorem cuN_KP {q q' : rS} {s : Int} {f t : Int64} (h : KP q q') : cuN q' s f t = cuN q s f t := cuN_e h.2.2.2.2.2.2.2.1 h.2.2.2.2.2.2.2.2.2.2.2.1 h.2.2.2.2.2.2.2.2.2.2.2.2
theorem w_154 {X : dm_Mem} {q : rS} {M : dm_Mem} {T : Int} (hM : Rm X q M) (hR : RI T q) (s : Int32) (f t : Int64) (s0 : 0 ≤ s.toInt) (s1 : s.toInt < (q.1 15).toInt) (ht : t.toInt ≤ 1152921504606846976) (hf : 0 ≤ f.toInt) : hT 1 154 [.ref 68, .int s, .long f, .long t] M (fun r M' => r = none ∧ ∃ q', Rm X q' M' ∧ RI T q' ∧ KP q q' ∧ sameW q q' ∧ okO q' ∧ (q'.1 34).toInt ≤ 21000 ∧ sN q' = cuN q s.toInt f t) := by
  have ha := SB_at hR.1 s0 s1
  obtain ⟨g1, g2, g3, g4, g5, g6⟩ := hR.1.2.2.2.2.1 s.toInt s0 s1
  refine hT_mono (Nat.le_refl _) (r_154 hM s f t s0 ha.1 (by omega) (by omega) (by omega) g4 ht hf) (fun r M' w => ?_)
  obtain ⟨rfl, n, b96, b97, w1, w2, w3, w4, hM2⟩ := w
  refine ⟨rfl, _, hM2, hR, ⟨rfl, rfl, rfl, rfl, rfl, rfl, rfl, rfl, rfl, rfl, rfl, rfl, rfl⟩, ⟨rfl, rfl, rfl⟩, ⟨w2, w3⟩, ?_, rowO_SN w1⟩
  show n.toInt ≤ 21000
  omega
set_option maxHeartbeats 8000000 in
theorem f_157_0 {X : dm_Mem} {q q0 : rS} {M : dm_Mem} {T : Int} (hM : Rm X q0 M) (hR : RI T q0) (hT6 : 0 ≤ T ∧ T ≤ 600) (hf : q0.1 41 = q.1 41) (s : Int32) (s0 : 0 ≤ s.toInt) (s1 : s.toInt < (q0.1 15).toInt) (fr sz : Int64) (z0 : 0 ≤ fr.toInt) (z1 : 1 ≤ sz.toInt) (z2 : fr.toInt + sz.toInt ≤ 1152921504606846976) : hG 65 cd_157 107 [(4, .long sz), (2, .long fr), (0, .ref 68), (1, .int s)] [] M (fun r M' => ∃ (x : Int32) (q' : rS), r = some (.int x) ∧ Rm X q' M' ∧ RI (T + 1) q' ∧ q'.1 41 = q.1 41) := by
  have evq := hR.2.2.1
  have mxq := hR.1.2.1
  have kq := SB_at hR.1 s0 s1
  have nq := hR.1.2.2.2.2.2.2
  refine hs (f := dm_lld 109 4) rfl rfl ?_
  refine hs (f := dm_push 110 (.long 1)) rfl rfl ?_
  refine g_lc_ne (x := sz) (y := (1 : Int64)) (m := 111) (n := 114) (tt := 116) rfl rfl (fun h1 => ?_) (fun h1 => ?_)
  · skip
    have h1 : ¬ sz.toInt = 1 := h1
    refine hs (f := dm_lld 117 2) rfl rfl ?_
    refine hs (f := dm_lld 119 4) rfl rfl ?_
    refine hs (f := dm_push 122 (.long 2)) rfl rfl ?_
    have e2 : (sz / (2 : Int64)).toInt = sz.toInt / 2 := by have w := j_half (x := sz) (by omega); omega
    refine hs (f := dm_lq 123 (fun x y => x / y)) (st' := [.long (sz / (2 : Int64)), .long fr]) rfl rfl ?_
    have e3 : (fr + (sz / (2 : Int64))).toInt = fr.toInt + sz.toInt / 2 := by have w := j_add (x := fr) (y := (sz / (2 : Int64))) (by omega) (by omega); omega
    refine hs (f := dm_ll 124 (fun x y => x + y)) (st' := [.long (fr + (sz / (2 : Int64)))]) rfl rfl ?_
    refine hs (f := dm_lst 126 6) (lv' := [(6, .long (fr + (sz / (2 : Int64)))), (4, .long sz), (2, .long fr), (0, .ref 68), (1, .int s)]) rfl rfl ?_
    refine hs (f := dm_ald 127 0) rfl rfl ?_
    refine hs (f := dm_ild 128 1) rfl rfl ?_
    refine hs (f := dm_push 129 (.long 0)) rfl rfl ?_
    refine hs (f := dm_lld 131 6) rfl rfl ?_
    refine r_inv rfl hM rfl (as := [.ref 68, .int s, .long 0, .long (fr + (sz / (2 : Int64)))]) rfl (Nat.le_of_ble_eq_true rfl) (hT_mono (by decide) (w_154 hM hR s (0 : Int64) (fr + (sz / (2 : Int64))) (by omega) (by omega) (by omega) (by decide)) (fun r1 M4 w => ?_))
    obtain ⟨rfl, q5, hM4, Rq5, Kq5, Wq5, Oq5, Lq5, Sq5⟩ := w
    have mq5 : (q5.1 15).toInt = (q0.1 15).toInt := by rw [Kq5.1]
    have nq5 : (q5.1 17).toInt = (q0.1 17).toInt := by rw [Kq5.2.2.1]
    have fq5 : q5.1 41 = q.1 41 := Kq5.2.2.2.2.1.trans hf
    have vq5 : (q5.1 16).toInt = (q0.1 16).toInt := by rw [Kq5.2.1]
    have cq5 : (q5.1 26).toInt = (q0.1 26).toInt := by rw [Kq5.2.2.2.1]
    have sxq5 := SN_max Oq5.1 Oq5.2 (show (q5.1 34).toInt ≤ 24000 by omega)
    have syq5 : sN q5 ≤ 5760001 := sxq5
    have S0q5 : sN q5 = cuN q0 s.toInt (0 : Int64) (fr + (sz / (2 : Int64))) := Sq5.trans ((fun (_ _ : Int64) => rfl) _ _)
    have Gq5 : ∀ f t, cuN q5 s.toInt f t = cuN q0 s.toInt f t := fun f t => (cuN_KP Kq5).trans ((fun (_ _ : Int64) => rfl) f t)
    have y82q5 : rA (q5.2.2.1 82) s.toInt = rA (q0.2.2.1 82) s.toInt := by rw [Kq5.2.2.2.2.2.2.2.2.2.1]
    refine hs (f := dm_ald 135 0) rfl rfl ?_
    refine hs (f := dm_push 136 (.long 0)) rfl rfl ?_
    refine hs (f := dm_push 139 (.long 1152921504606846976)) rfl rfl ?_
    refine r_inv rfl hM4 rfl (as := [.ref 68, .long 0, .long 1152921504606846976]) rfl (Nat.le_of_ble_eq_true rfl) (hT_mono (by decide) (w_153 hM4 Oq5 (by omega)) (fun r1 M6 w => ?_))
    obtain ⟨rfl, rfl⟩ := w
    have eu7 : (Int32.ofNat (sN q5)).toInt = (sN q5 : Nat) := i_ofNat2 (by omega)
    refine hs (f := dm_ist 144 8) (lv' := [(8, .int (Int32.ofNat (sN q5))), (6, .long (fr + (sz / (2 : Int64)))), (4, .long sz), (2, .long fr), (0, .ref 68), (1, .int s)]) rfl rfl ?_
    refine hs (f := dm_ald 145 0) rfl rfl ?_
    refine hs (f := dm_ild 146 1) rfl rfl ?_
    refine hs (f := dm_lld 148 6) rfl rfl ?_
    refine hs (f := dm_push 151 (.long 1152921504606846976)) rfl rfl ?_
    refine r_inv rfl hM4 rfl (as := [.ref 68, .int s, .long (fr + (sz / (2 : Int64))), .long 1152921504606846976]) rfl (Nat.le_of_ble_eq_true rfl) (hT_mono (by decide) (w_154 hM4 Rq5 s (fr + (sz / (2 : Int64))) (1152921504606846976 : Int64) (by omega) (by omega) (by decide) (by omega)) (fun r1 M8 w => ?_))
    obtain ⟨rfl, q9, hM8, Rq9, Kq9, Wq9, Oq9, Lq9, Sq9⟩ := w
    have mq9 : (q9.1 15).toInt = (q5.1 15).toInt := by rw [Kq9.1]
    have nq9 : (q9.1 17).toInt = (q5.1 17).toInt := by rw [Kq9.2.2.1]
    have fq9 : q9.1 41 = q.1 41 := Kq9.2.2.2.2.1.trans fq5
    have vq9 : (q9.1 16).toInt = (q5.1 16).toInt := by rw [Kq9.2.1]
    have cq9 : (q9.1 26).toInt = (q5.1 26).toInt := by rw [Kq9.2.2.2.1]
    have sxq9 := SN_max Oq9.1 Oq9.2 (show (q9.1 34).toInt ≤ 24000 by omega)
    have syq9 : sN q9 ≤ 5760001 := sxq9
    have S0q9 : sN q9 = cuN q0 s.toInt (fr + (sz / (2 : Int64))) (1152921504606846976 : Int64) := Sq9.trans (Gq5 _ _)
    have Gq9 : ∀ f t, cuN q9 s.toInt f t = cuN q0 s.toInt f t := fun f t => (cuN_KP Kq9).trans (Gq5 f t)
    have y82q9 : rA (q9.2.2.1 82) s.toInt = rA (q5.2.2.1 82) s.toInt := by rw [Kq9.2.2.2.2.2.2.2.2.2.1]
    refine hs (f := dm_ald 155 0) rfl rfl ?_
    refine hs (f := dm_push 156 (.long 0)) rfl rfl ?_
    refine hs (f := dm_push 159 (.long 1152921504606846976)) rfl rfl ?_
    refine r_inv rfl hM8 rfl (as := [.ref 68, .long 0, .long 1152921504606846976]) rfl (Nat.le_of_ble_eq_true rfl) (hT_mono (by decide) (w_153 hM8 Oq9 (by omega)) (fun r1 M10 w => ?_))
    obtain ⟨rfl, rfl⟩ := w
    have eu11 : (Int32.ofNat (sN q9)).toInt = (sN q9 : Nat) := i_ofNat2 (by omega)
    refine hs (f := dm_ist 164 9) (lv' := [(9, .int (Int32.ofNat (sN q9))), (8, .int (Int32.ofNat (sN q5))), (6, .long (fr + (sz / (2 : Int64)))), (4, .long sz), (2, .long fr), (0, .ref 68), (1, .int s)]) rfl rfl ?_
    refine hs (f := dm_ald 165 0) rfl rfl ?_
    refine hs (f := dm_push 166 (.int 2)) rfl rfl ?_
    refine hs (f := dm_ild 168 8) rfl rfl ?_
    refine hs (f := dm_ild 170 9) rfl rfl ?_
    have e12 : ((Int32.ofNat (sN q5)) + (Int32.ofNat (sN q9))).toInt = ((sN q5 : Nat) : Int) + ((sN q9 : Nat) : Int) := by have w := i_add (x := (Int32.ofNat (sN q5))) (y := (Int32.ofNat (sN q9))) (by omega) (by omega); omega
    refine hs (f := dm_ii 171 (fun x y => x + y)) (st' := [.int ((Int32.ofNat (sN q5)) + (Int32.ofNat (sN q9))), .int 2, .ref 68]) rfl rfl ?_
    refine hs (f := dm_push 172 (.int 2)) rfl rfl ?_
    refine hs (f := dm_ald 173 0) rfl rfl ?_
    refine r_geta (c := 79) rfl hM8 rfl ?_
    refine hs (f := dm_ild 177 1) rfl rfl ?_
    refine r_iald (L := 1000) (i := s) ((q9.2.2.1 82) s.toInt.toNat) rfl hM8 rfl (by omega) rfl ?_
    generalize g14 : (q9.2.2.1 82) s.toInt.toNat = v13
    have x15 : v13.toInt = rA (q9.2.2.1 82) s.toInt := rA_of (i := s) g14 rfl
    have e16 : ((2 : Int32) * v13).toInt = 2 * (rA (q9.2.2.1 82) s.toInt) := by have w := i_mulc (x := (2 : Int32)) (y := v13) 2 rfl (by omega) (by omega); omega
    refine hs (f := dm_ii 179 (fun x y => x * y)) (st' := [.int ((2 : Int32) * v13), .int ((Int32.ofNat (sN q5)) + (Int32.ofNat (sN q9))), .int 2, .ref 68]) rfl rfl ?_
    have e17 : (((Int32.ofNat (sN q5)) + (Int32.ofNat (sN q9))) + ((2 : Int32) * v13)).toInt = ((sN q5 : Nat) : Int) + ((sN q9 : Nat) : Int) + 2 * (rA (q9.2.2.1 82) s.toInt) := by have w := i_add (x := ((Int32.ofNat (sN q5)) + (Int32.ofNat (sN q9)))) (y := ((2 : Int32) * v13)) (by omega) (by omega); omega
    refine hs (f := dm_ii 180 (fun x y => x + y)) (st' := [.int (((Int32.ofNat (sN q5)) + (Int32.ofNat (sN q9))) + ((2 : Int32) * v13)), .int 2, .ref 68]) rfl rfl ?_
    have tpu19 := SB_top Rq9.1
    have mau19 := Rq9.1.1
    have mbu19 := Rq9.1.2.1
    have mcu19 := Rq9.1.2.2.2.2.2.2
    have ecu19 : ((2 : Int32)).toInt = 2 := rfl
    refine r_inv rfl hM8 rfl (as := [.ref 68, .int 2, .int (((Int32.ofNat (sN q5)) + (Int32.ofNat (sN q9))) + ((2 : Int32) * v13))]) rfl (Nat.le_of_ble_eq_true rfl) (hT_mono (by decide) (r_139 hM8 ⟨mau19, mbu19⟩ ⟨tpu19.1, by omega⟩ (2 : Int32) (((Int32.ofNat (sN q5)) + (Int32.ofNat (sN q9))) + ((2 : Int32) * v13)) (by omega) (by omega)) (fun r1 M18 w => ?_))
    obtain ⟨rfl, ⟨rfl, u19a, u19b⟩ | ⟨rfl, u19n⟩⟩ := w
    · skip
      refine hs (f := dm_if_ne 186 188) (pc' := 188) rfl rfl ?_
      refine hs (f := dm_ald 189 0) rfl rfl ?_
      refine hs (f := dm_ild 190 1) rfl rfl ?_
      refine hs (f := dm_push 191 (.int (-1))) rfl rfl ?_
      refine r_inv rfl hM8 rfl (as := [.ref 68, .int s, .int (-1)]) rfl (Nat.le_of_ble_eq_true rfl) (hT_mono (by decide) (w_155 hM8 Rq9 (by omega) s (-1 : Int32) (by have := Rq9.1.2.1; omega) (by decide)) (fun r1 M20 w => ?_))
      obtain ⟨rfl, q21, hM20, Rq21, ⟨Kq211, Kq212, Kq213, Kq214, Kq215, Kq216, Kq217, Kq218, Kq219, Kq2110, Kq2111, Kq2112, Kq2113⟩, Wq21, Oq21⟩ := w
      have mq21 : (q21.1 15).toInt = (q9.1 15).toInt := by rw [Kq211]
      have nq21 : (q21.1 17).toInt = (q9.1 17).toInt := by rw [Kq213]
      have fq21 : q21.1 41 = q.1 41 := Kq215.trans fq9
      have vq21 : (q21.1 16).toInt = (q9.1 16).toInt := by rw [Kq212]
      have Pq21 := sameO_ok Oq21 Oq9
      have q34q21 : (q21.1 34).toInt = (q9.1 34).toInt := by rw [Oq21.1]
      have sqq21 : (sN q21 : Int) = sN q9 := by rw [Pq21.2.1]
      have b73q21 : rA (q21.2.2.1 73) (q21.1 15).toInt = rA (q9.2.2.1 73) (q9.1 15).toInt ∧ rA (q21.2.2.1 74) (q21.1 15).toInt = rA (q9.2.2.1 74) (q9.1 15).toInt := by rw [Kq217, Kq218, Kq211]; exact ⟨rfl, rfl⟩
      have b82q21 : ∀ m : Int, rA (q21.2.2.1 82) m = rA (q9.2.2.1 82) m ∧ rA (q21.2.2.1 81) m = rA (q9.2.2.1 81) m := fun m => by rw [Kq2110, Kq219]; exact ⟨rfl, rfl⟩
      have b82q21s := b82q21 s.toInt
      have Gq21 : ∀ f t, cuN q21 s.toInt f t = cuN q0 s.toInt f t := fun f t => (cuN_e Kq218 Kq2112 Kq2113).trans (Gq9 f t)
      have y82q21 : rA (q21.2.2.1 82) s.toInt = rA (q9.2.2.1 82) s.toInt := by rw [Kq2110]
      refine hs (f := dm_ald 195 0) rfl rfl ?_
      refine hs (f := dm_ild 196 1) rfl rfl ?_
      refine r_inv rfl hM20 rfl (as := [.ref 68, .int s]) rfl (Nat.le_of_ble_eq_true rfl) (hT_mono (by decide) (w_141 hM20 Rq21 s (by omega) (by omega)) (fun r1 M22 w => ?_))
      obtain ⟨rfl, q23, hM22, Rq23, Kq23, Oq23, Wq23, Sq23⟩ := w
      have mq23 : (q23.1 15).toInt = (q21.1 15).toInt := by rw [Kq23.1]
      have nq23 : (q23.1 17).toInt = (q21.1 17).toInt := by rw [Kq23.2.2.1]
      have fq23 : q23.1 41 = q.1 41 := Kq23.2.2.2.2.1.trans fq21
      have vq23 : (q23.1 16).toInt = (q21.1 16).toInt := by rw [Kq23.2.1]
      have hxq23 : hN q23 ≤ 41000 := by have z := SB_at Rq23.1 (s := s.toInt) (by omega) (by omega); have z2 := Rq23.1.2.2.2.2.2.2; have z3 : rA (q23.2.2.1 82) s.toInt = rA (q21.2.2.1 82) s.toInt := (by rw [Kq23.2.2.2.2.2.2.2.2.2.1]); omega
      have lwq23 : 2 * (q23.1 29).toInt - 1 ≤ (hN q23 : Nat) := HN_len Wq23
      have Gq23 : ∀ f t, cuN q23 s.toInt f t = cuN q0 s.toInt f t := fun f t => (cuN_KP Kq23).trans (Gq21 f t)
      have y82q23 : rA (q23.2.2.1 82) s.toInt = rA (q21.2.2.1 82) s.toInt := by rw [Kq23.2.2.2.2.2.2.2.2.2.1]
      refine hs (f := dm_ald 200 0) rfl rfl ?_
      refine hs (f := dm_ild 201 1) rfl rfl ?_
      refine hs (f := dm_push 202 (.long 0)) rfl rfl ?_
      refine hs (f := dm_lld 204 6) rfl rfl ?_
      refine r_inv rfl hM22 rfl (as := [.ref 68, .int s, .long 0, .long (fr + (sz / (2 : Int64)))]) rfl (Nat.le_of_ble_eq_true rfl) (hT_mono (by decide) (w_154 hM22 Rq23 s (0 : Int64) (fr + (sz / (2 : Int64))) (by omega) (by omega) (by omega) (by decide)) (fun r1 M24 w => ?_))
      obtain ⟨rfl, q25, hM24, Rq25, Kq25, Wq25, Oq25, Lq25, Sq25⟩ := w
      have mq25 : (q25.1 15).toInt = (q23.1 15).toInt := by rw [Kq25.1]
      have nq25 : (q25.1 17).toInt = (q23.1 17).toInt := by rw [Kq25.2.2.1]
      have fq25 : q25.1 41 = q.1 41 := Kq25.2.2.2.2.1.trans fq23
      have vq25 : (q25.1 16).toInt = (q23.1 16).toInt := by rw [Kq25.2.1]
      have cq25 : (q25.1 26).toInt = (q23.1 26).toInt := by rw [Kq25.2.2.2.1]
      have Qq25 := sameW_ok Wq25 Wq23
      have q29q25 : (q25.1 29).toInt = (q23.1 29).toInt := by rw [Wq25.1]
      have hqq25 : (hN q25 : Int) = hN q23 := by rw [Qq25.2]
      have sxq25 := SN_max Oq25.1 Oq25.2 (show (q25.1 34).toInt ≤ 24000 by omega)
      have syq25 : sN q25 ≤ 5760001 := sxq25
      have S1q25 : (sN q25 : Int) = sN q5 := by rw [Sq25, Gq23, S0q5]
      have Gq25 : ∀ f t, cuN q25 s.toInt f t = cuN q0 s.toInt f t := fun f t => (cuN_KP Kq25).trans (Gq23 f t)
      have y82q25 : rA (q25.2.2.1 82) s.toInt = rA (q23.2.2.1 82) s.toInt := by rw [Kq25.2.2.2.2.2.2.2.2.2.1]
      refine hs (f := dm_ald 208 0) rfl rfl ?_
      refine hs (f := dm_push 209 (.int 1)) rfl rfl ?_
      refine hs (f := dm_ild 210 1) rfl rfl ?_
      refine hs (f := dm_push 211 (.int (-1))) rfl rfl ?_
      have tqq27 := SB_top Rq25.1
      have lwq27 : 2 * (q25.1 29).toInt - 1 ≤ (hN q25 : Nat) := HN_len Qq25.1
      have loq27 : 2 * (q25.1 34).toInt - 1 ≤ (sN q25 : Nat) := SN_len Oq25.1 Oq25.2
      refine r_inv rfl hM24 rfl (as := [.ref 68, .int 1, .int s, .int (-1)]) rfl (Nat.le_of_ble_eq_true rfl) (hT_mono (by decide) (w_140 hM24 Rq25 (1 : Int32) s (-1 : Int32) (by have := Rq25.1.2.1; omega) (by decide) Qq25.1 (by omega) Oq25 (by omega) (by omega) (by omega) (by omega) (by omega)) (fun r1 M26 w => ?_))
      obtain ⟨rfl, q27, hM26, Rq27, Aq271, Aq272, Aq273, Aq274, Aq275, Wq27, Oq27, Aq276, Aq277, Aq278, Aq279, Aq2710⟩ := w
      have fq27 : q27.1 41 = q.1 41 := Aq273.trans fq25
      have vq27 : (q27.1 16).toInt = (q25.1 16).toInt := by rw [Aq275]
      have Qq27 := sameW_ok Wq27 Qq25.1
      have Pq27 := sameO_ok Oq27 Oq25
      have q29q27 : (q27.1 29).toInt = (q25.1 29).toInt := by rw [Wq27.1]
      have q34q27 : (q27.1 34).toInt = (q25.1 34).toInt := by rw [Oq27.1]
      have hqq27 : (hN q27 : Int) = hN q25 := by rw [Qq27.2]
      have sqq27 : (sN q27 : Int) = sN q25 := by rw [Pq27.2.1]
      have pfq27 := SB_at Rq25.1 (s := s.toInt) (by omega) (by omega)
      have Gq27 : ∀ f t, cuN q27 s.toInt f t = cuN q0 s.toInt f t := fun f t => (cuN_c (by omega) (Aq279 s.toInt (by omega) (by omega)).2 (Aq279 (s.toInt + 1) (by omega) (by omega)).2 (fun m m0 m1 => Aq2710 m m0 (by omega))).trans (Gq25 f t)
      have y82q27 : rA (q27.2.2.1 82) s.toInt = rA (q25.2.2.1 82) s.toInt := (Aq278 s.toInt (by omega) (by omega)).1
      refine hs (f := dm_ist 216 10) (lv' := [(10, .int (q25.1 15)), (9, .int (Int32.ofNat (sN q9))), (8, .int (Int32.ofNat (sN q5))), (6, .long (fr + (sz / (2 : Int64)))), (4, .long sz), (2, .long fr), (0, .ref 68), (1, .int s)]) rfl rfl ?_
      refine hs (f := dm_ald 217 0) rfl rfl ?_
      refine hs (f := dm_ild 218 1) rfl rfl ?_
      refine r_inv rfl hM26 rfl (as := [.ref 68, .int s]) rfl (Nat.le_of_ble_eq_true rfl) (hT_mono (by decide) (w_141 hM26 Rq27 s (by omega) (by omega)) (fun r1 M28 w => ?_))
      obtain ⟨rfl, q29, hM28, Rq29, Kq29, Oq29, Wq29, Sq29⟩ := w
      have mq29 : (q29.1 15).toInt = (q27.1 15).toInt := by rw [Kq29.1]
      have nq29 : (q29.1 17).toInt = (q27.1 17).toInt := by rw [Kq29.2.2.1]
      have fq29 : q29.1 41 = q.1 41 := Kq29.2.2.2.2.1.trans fq27
      have vq29 : (q29.1 16).toInt = (q27.1 16).toInt := by rw [Kq29.2.1]
      have hxq29 : hN q29 ≤ 41000 := by have z := SB_at Rq29.1 (s := s.toInt) (by omega) (by omega); have z2 := Rq29.1.2.2.2.2.2.2; have z3 : rA (q29.2.2.1 82) s.toInt = rA (q27.2.2.1 82) s.toInt := (by rw [Kq29.2.2.2.2.2.2.2.2.2.1]); omega
      have lwq29 : 2 * (q29.1 29).toInt - 1 ≤ (hN q29 : Nat) := HN_len Wq29
      have Gq29 : ∀ f t, cuN q29 s.toInt f t = cuN q0 s.toInt f t := fun f t => (cuN_KP Kq29).trans (Gq27 f t)
      have y82q29 : rA (q29.2.2.1 82) s.toInt = rA (q27.2.2.1 82) s.toInt := by rw [Kq29.2.2.2.2.2.2.2.2.2.1]
      refine hs (f := dm_ald 222 0) rfl rfl ?_
      refine hs (f := dm_ild 223 1) rfl rfl ?_
      refine hs (f := dm_lld 225 6) rfl rfl ?_
      refine hs (f := dm_push 228 (.long 1152921504606846976)) rfl rfl ?_
      refine r_inv rfl hM28 rfl (as := [.ref 68, .int s, .long (fr + (sz / (2 : Int64))), .long 1152921504606846976]) rfl (Nat.le_of_ble_eq_true rfl) (hT_mono (by decide) (w_154 hM28 Rq29 s (fr + (sz / (2 : Int64))) (1152921504606846976 : Int64) (by omega) (by omega) (by decide) (by omega)) (fun r1 M30 w => ?_))
      obtain ⟨rfl, q31, hM30, Rq31, Kq31, Wq31, Oq31, Lq31, Sq31⟩ := w
      have mq31 : (q31.1 15).toInt = (q29.1 15).toInt := by rw [Kq31.1]
      have nq31 : (q31.1 17).toInt = (q29.1 17).toInt := by rw [Kq31.2.2.1]
      have fq31 : q31.1 41 = q.1 41 := Kq31.2.2.2.2.1.trans fq29
      have vq31 : (q31.1 16).toInt = (q29.1 16).toInt := by rw [Kq31.2.1]
      have cq31 : (q31.1 26).toInt = (q29.1 26).toInt := by rw [Kq31.2.2.2.1]
      have Qq31 := sameW_ok Wq31 Wq29
      have q29q31 : (q31.1 29).toInt = (q29.1 29).toInt := by rw [Wq31.1]
      have hqq31 : (hN q31 : Int) = hN q29 := by rw [Qq31.2]
      have sxq31 := SN_max Oq31.1 Oq31.2 (show (q31.1 34).toInt ≤ 24000 by omega)
      have syq31 : sN q31 ≤ 5760001 := sxq31
      have S1q31 : (sN q31 : Int) = sN q9 := by rw [Sq31, Gq29, S0q9]
      have Gq31 : ∀ f t, cuN q31 s.toInt f t = cuN q0 s.toInt f t := fun f t => (cuN_KP Kq31).trans (Gq29 f t)
      have y82q31 : rA (q31.2.2.1 82) s.toInt = rA (q29.2.2.1 82) s.toInt := by rw [Kq31.2.2.2.2.2.2.2.2.2.1]
      refine hs (f := dm_ald 232 0) rfl rfl ?_
      refine hs (f := dm_push 233 (.int 1)) rfl rfl ?_
      refine hs (f := dm_ild 234 1) rfl rfl ?_
      refine hs (f := dm_push 235 (.int (-1))) rfl rfl ?_
      have tqq33 := SB_top Rq31.1
      have lwq33 : 2 * (q31.1 29).toInt - 1 ≤ (hN q31 : Nat) := HN_len Qq31.1
      have loq33 : 2 * (q31.1 34).toInt - 1 ≤ (sN q31 : Nat) := SN_len Oq31.1 Oq31.2
      refine r_inv rfl hM30 rfl (as := [.ref 68, .int 1, .int s, .int (-1)]) rfl (Nat.le_of_ble_eq_true rfl) (hT_mono (by decide) (w_140 hM30 Rq31 (1 : Int32) s (-1 : Int32) (by have := Rq31.1.2.1; omega) (by decide) Qq31.1 (by omega) Oq31 (by omega) (by omega) (by omega) (by omega) (by omega)) (fun r1 M32 w => ?_))
      obtain ⟨rfl, q33, hM32, Rq33, Aq331, Aq332, Aq333, Aq334, Aq335, Wq33, Oq33, Aq336, Aq337, Aq338, Aq339, Aq3310⟩ := w
      have fq33 : q33.1 41 = q.1 41 := Aq333.trans fq31
      have vq33 : (q33.1 16).toInt = (q31.1 16).toInt := by rw [Aq335]
      have Qq33 := sameW_ok Wq33 Qq31.1
      have Pq33 := sameO_ok Oq33 Oq31
      have q29q33 : (q33.1 29).toInt = (q31.1 29).toInt := by rw [Wq33.1]
      have q34q33 : (q33.1 34).toInt = (q31.1 34).toInt := by rw [Oq33.1]
      have hqq33 : (hN q33 : Int) = hN q31 := by rw [Qq33.2]
      have sqq33 : (sN q33 : Int) = sN q31 := by rw [Pq33.2.1]
      have pfq33 := SB_at Rq31.1 (s := s.toInt) (by omega) (by omega)
      have Gq33 : ∀ f t, cuN q33 s.toInt f t = cuN q0 s.toInt f t := fun f t => (cuN_c (by omega) (Aq339 s.toInt (by omega) (by omega)).2 (Aq339 (s.toInt + 1) (by omega) (by omega)).2 (fun m m0 m1 => Aq3310 m m0 (by omega))).trans (Gq31 f t)
      have y82q33 : rA (q33.2.2.1 82) s.toInt = rA (q31.2.2.1 82) s.toInt := (Aq338 s.toInt (by omega) (by omega)).1
      refine hs (f := dm_pop 239) (st' := []) rfl rfl ?_
      refine hs (f := dm_ald 240 0) rfl rfl ?_
      refine hs (f := dm_ild 241 1) rfl rfl ?_
      have meq35 := Rq33.1.2.1
      refine r_inv rfl hM32 rfl (as := [.ref 68, .int s]) rfl (Nat.le_of_ble_eq_true rfl) (hT_mono (by decide) (w_156 hM32 Rq33 s (by omega) (by omega)) (fun r1 M34 w => ?_))
      obtain ⟨rfl, q35, hM34, Rq35, Kq35⟩ := w
      have fq35 : q35.1 41 = q.1 41 := Kq35.2.2.2.2.1.trans fq33
      have mq35 : (q35.1 15).toInt = (q33.1 15).toInt := by rw [Kq35.1]
      refine hs (f := dm_ild 246 10) rfl rfl ?_
      exact hr (f := dm_ret .int) rfl rfl (⟨_, q35, rfl, hM34, RI_up Rq35 (by omega), fq35⟩)
    · skip
      refine hs (f := dm_if_ne 186 188) (pc' := 186) rfl rfl ?_
      refine hs (f := dm_push 187 (.int (-1))) rfl rfl ?_
      exact hr (f := dm_ret .int) rfl rfl (⟨_, q9, rfl, hM8, RI_up Rq9 (by omega), fq9⟩)
  · skip
    have h1 : sz.toInt = 1 := h1
    refine hs (f := dm_push 115 (.int (-1))) rfl rfl ?_
    exact hr (f := dm_ret .int) rfl rfl (⟨_, q0, rfl, hM, RI_up hR (by omega), hf⟩)
set_option maxHeartbeats 8000000 in
theorem f_157_1 {X : dm_Mem} {q q0 : rS} {M : dm_Mem} {T : Int} (hM : Rm X q0 M) (hR : RI T q0) (hT6 : 0 ≤ T ∧ T ≤ 600) (hf : q0.1 41 = q.1 41) (s : Int32) (s0 : 0 ≤ s.toInt) (s1 : s.toInt < (q0.1 15).toInt) (fr sz : Int64) (z0 : 0 ≤ fr.toInt) (z1 : 1 ≤ sz.toInt) (z2 : fr.toInt + sz.toInt ≤ 1152921504606846976) : hG 65 cd_157 107 [(2, .long fr), (4, .long sz), (0, .ref 68), (1, .int s)] [] M (fun r M' => ∃ (x : Int32) (q' : rS), r = some (.int x) ∧ Rm X q' M' ∧ RI (T + 1) q' ∧ q'.1 41 = q.1 41) := by
  have evq := hR.2.2.1
  have mxq := hR.1.2.1
  have kq := SB_at hR.1 s0 s1
  have nq := hR.1.2.2.2.2.2.2
  refine hs (f := dm_lld 109 4) rfl rfl ?_
  refine hs (f := dm_push 110 (.long 1)) rfl rfl ?_
  refine g_lc_ne (x := sz) (y := (1 : Int64)) (m := 111) (n := 114) (tt := 116) rfl rfl (fun h1 => ?_) (fun h1 => ?_)
  · skip
    have h1 : ¬ sz.toInt = 1 := h1
    refine hs (f := dm_lld 117 2) rfl rfl ?_
    refine hs (f := dm_lld 119 4) rfl rfl ?_
    refine hs (f := dm_push 122 (.long 2)) rfl rfl ?_
    have e2 : (sz / (2 : Int64)).toInt = sz.toInt / 2 := by have w := j_half (x := sz) (by omega); omega
    refine hs (f := dm_lq 123 (fun x y => x / y)) (st' := [.long (sz / (2 : Int64)), .long fr]) rfl rfl ?_
    have e3 : (fr + (sz / (2 : Int64))).toInt = fr.toInt + sz.toInt / 2 := by have w := j_add (x := fr) (y := (sz / (2 : Int64))) (by omega) (by omega); omega
    refine hs (f := dm_ll 124 (fun x y => x + y)) (st' := [.long (fr + (sz / (2 : Int64)))]) rfl rfl ?_
    refine hs (f := dm_lst 126 6) (lv' := [(6, .long (fr + (sz / (2 : Int64)))), (2, .long fr), (4, .long sz), (0, .ref 68), (1, .int s)]) rfl rfl ?_
    refine hs (f := dm_ald 127 0) rfl rfl ?_
    refine hs (f := dm_ild 128 1) rfl rfl ?_
    refine hs (f := dm_push 129 (.long 0)) rfl rfl ?_
    refine hs (f := dm_lld 131 6) rfl rfl ?_
    refine r_inv rfl hM rfl (as := [.ref 68, .int s, .long 0, .long (fr + (sz / (2 : Int64)))]) rfl (Nat.le_of_ble_eq_true rfl) (hT_mono (by decide) (w_154 hM hR s (0 : Int64) (fr + (sz / (2 : Int64))) (by omega) (by omega) (by omega) (by decide)) (fun r1 M4 w => ?_))
    obtain ⟨rfl, q5, hM4, Rq5, Kq5, Wq5, Oq5, Lq5, Sq5⟩ := w
    have mq5 : (q5.1 15).toInt = (q0.1 15).toInt := by rw [Kq5.1]
    have nq5 : (q5.1 17).toInt = (q0.1 17).toInt := by rw [Kq5.2.2.1]
    have fq5 : q5.1 41 = q.1 41 := Kq5.2.2.2.2.1.trans hf
    have vq5 : (q5.1 16).toInt = (q0.1 16).toInt := by rw [Kq5.2.1]
    have cq5 : (q5.1 26).toInt = (q0.1 26).toInt := by rw [Kq5.2.2.2.1]
    have sxq5 := SN_max Oq5.1 Oq5.2 (show (q5.1 34).toInt ≤ 24000 by omega)
    have syq5 : sN q5 ≤ 5760001 := sxq5
    have S0q5 : sN q5 = cuN q0 s.toInt (0 : Int64) (fr + (sz / (2 : Int64))) := Sq5.trans ((fun (_ _ : Int64) => rfl) _ _)
    have Gq5 : ∀ f t, cuN q5 s.toInt f t = cuN q0 s.toInt f t := fun f t => (cuN_KP Kq5).trans ((fun (_ _ : Int64) => rfl) f t)
    have y82q5 : rA (q5.2.2.1 82) s.toInt = rA (q0.2.2.1 82) s.toInt := by rw [Kq5.2.2.2.2.2.2.2.2.2.1]
    refine hs (f := dm_ald 135 0) rfl rfl ?_
    refine hs (f := dm_push 136 (.long 0)) rfl rfl ?_
    refine hs (f := dm_push 139 (.long 1152921504606846976)) rfl rfl ?_
    refine r_inv rfl hM4 rfl (as := [.ref 68, .long 0, .long 1152921504606846976]) rfl (Nat.le_of_ble_eq_true rfl) (hT_mono (by decide) (w_153 hM4 Oq5 (by omega)) (fun r1 M6 w => ?_))
    obtain ⟨rfl, rfl⟩ := w
    have eu7 : (Int32.ofNat (sN q5)).toInt = (sN q5 : Nat) := i_ofNat2 (by omega)
    refine hs (f := dm_ist 144 8) (lv' := [(8, .int (Int32.ofNat (sN q5))), (6, .long (fr + (sz / (2 : Int64)))), (2, .long fr), (4, .long sz), (0, .ref 68), (1, .int s)]) rfl rfl ?_
    refine hs (f := dm_ald 145 0) rfl rfl ?_
    refine hs (f := dm_ild 146 1) rfl rfl ?_
    refine hs (f := dm_lld 148 6) rfl rfl ?_
    refine hs (f := dm_push 151 (.long 1152921504606846976)) rfl rfl ?_
    refine r_inv rfl hM4 rfl (as := [.ref 68, .int s, .long (fr + (sz / (2 : Int64))), .long 1152921504606846976]) rfl (Nat.le_of_ble_eq_true rfl) (hT_mono (by decide) (w_154 hM4 Rq5 s (fr + (sz / (2 : Int64))) (1152921504606846976 : Int64) (by omega) (by omega) (by decide) (by omega)) (fun r1 M8 w => ?_))
    obtain ⟨rfl, q9, hM8, Rq9, Kq9, Wq9, Oq9, Lq9, Sq9⟩ := w
    have mq9 : (q9.1 15).toInt = (q5.1 15).toInt := by rw [Kq9.1]
    have nq9 : (q9.1 17).toInt = (q5.1 17).toInt := by rw [Kq9.2.2.1]
    have fq9 : q9.1 41 = q.1 41 := Kq9.2.2.2.2.1.trans fq5
    have vq9 : (q9.1 16).toInt = (q5.1 16).toInt := by rw [Kq9.2.1]
    have cq9 : (q9.1 26).toInt = (q5.1 26).toInt := by rw [Kq9.2.2.2.1]
    have sxq9 := SN_max Oq9.1 Oq9.2 (show (q9.1 34).toInt ≤ 24000 by omega)
    have syq9 : sN q9 ≤ 5760001 := sxq9
    have S0q9 : sN q9 = cuN q0 s.toInt (fr + (sz / (2 : Int64))) (1152921504606846976 : Int64) := Sq9.trans (Gq5 _ _)
    have Gq9 : ∀ f t, cuN q9 s.toInt f t = cuN q0 s.toInt f t := fun f t => (cuN_KP Kq9).trans (Gq5 f t)
    have y82q9 : rA (q9.2.2.1 82) s.toInt = rA (q5.2.2.1 82) s.toInt := by rw [Kq9.2.2.2.2.2.2.2.2.2.1]
    refine hs (f := dm_ald 155 0) rfl rfl ?_
    refine hs (f := dm_push 156 (.long 0)) rfl rfl ?_
    refine hs (f := dm_push 159 (.long 1152921504606846976)) rfl rfl ?_
    refine r_inv rfl hM8 rfl (as := [.ref 68, .long 0, .long 1152921504606846976]) rfl (Nat.le_of_ble_eq_true rfl) (hT_mono (by decide) (w_153 hM8 Oq9 (by omega)) (fun r1 M10 w => ?_))
    obtain ⟨rfl, rfl⟩ := w
    have eu11 : (Int32.ofNat (sN q9)).toInt = (sN q9 : Nat) := i_ofNat2 (by omega)
    refine hs (f := dm_ist 164 9) (lv' := [(9, .int (Int32.ofNat (sN q9))), (8, .int (Int32.ofNat (sN q5))), (6, .long (fr + (sz / (2 : Int64)))), (2, .long fr), (4, .long sz), (0, .ref 68), (1, .int s)]) rfl rfl ?_
    refine hs (f := dm_ald 165 0) rfl rfl ?_
    refine hs (f := dm_push 166 (.int 2)) rfl rfl ?_
    refine hs (f := dm_ild 168 8) rfl rfl ?_
    refine hs (f := dm_ild 170 9) rfl rfl ?_
    have e12 : ((Int32.ofNat (sN q5)) + (Int32.ofNat (sN q9))).toInt = ((sN q5 : Nat) : Int) + ((sN q9 : Nat) : Int) := by have w := i_add (x := (Int32.ofNat (sN q5))) (y := (Int32.ofNat (sN q9))) (by omega) (by omega); omega
    refine hs (f := dm_ii 171 (fun x y => x + y)) (st' := [.int ((Int32.ofNat (sN q5)) + (Int32.ofNat (sN q9))), .int 2, .ref 68]) rfl rfl ?_
    refine hs (f := dm_push 172 (.int 2)) rfl rfl ?_
    refine hs (f := dm_ald 173 0) rfl rfl ?_
    refine r_geta (c := 79) rfl hM8 rfl ?_
    refine hs (f := dm_ild 177 1) rfl rfl ?_
    refine r_iald (L := 1000) (i := s) ((q9.2.2.1 82) s.toInt.toNat) rfl hM8 rfl (by omega) rfl ?_
    generalize g14 : (q9.2.2.1 82) s.toInt.toNat = v13
    have x15 : v13.toInt = rA (q9.2.2.1 82) s.toInt := rA_of (i := s) g14 rfl
    have e16 : ((2 : Int32) * v13).toInt = 2 * (rA (q9.2.2.1 82) s.toInt) := by have w := i_mulc (x := (2 : Int32)) (y := v13) 2 rfl (by omega) (by omega); omega
    refine hs (f := dm_ii 179 (fun x y => x * y)) (st' := [.int ((2 : Int32) * v13), .int ((Int32.ofNat (sN q5)) + (Int32.ofNat (sN q9))), .int 2, .ref 68]) rfl rfl ?_
    have e17 : (((Int32.ofNat (sN q5)) + (Int32.ofNat (sN q9))) + ((2 : Int32) * v13)).toInt = ((sN q5 : Nat) : Int) + ((sN q9 : Nat) : Int) + 2 * (rA (q9.2.2.1 82) s.toInt) := by have w := i_add (x := ((Int32.ofNat (sN q5)) + (Int32.ofNat (sN q9)))) (y := ((2 : Int32) * v13)) (by omega) (by omega); omega
    refine hs (f := dm_ii 180 (fun x y => x + y)) (st' := [.int (((Int32.ofNat (sN q5)) + (Int32.ofNat (sN q9))) + ((2 : Int32) * v13)), .int 2, .ref 68]) rfl rfl ?_
    have tpu19 := SB_top Rq9.1
    have mau19 := Rq9.1.1
    have mbu19 := Rq9.1.2.1
    have mcu19 := Rq9.1.2.2.2.2.2.2
    have ecu19 : ((2 : Int32)).toInt = 2 := rfl
    refine r_inv rfl hM8 rfl (as := [.ref 68, .int 2, .int (((Int32.ofNat (sN q5)) + (Int32.ofNat (sN q9))) + ((2 : Int32) * v13))]) rfl (Nat.le_of_ble_eq_true rfl) (hT_mono (by decide) (r_139 hM8 ⟨mau19, mbu19⟩ ⟨tpu19.1, by omega⟩ (2 : Int32) (((Int32.ofNat (sN q5)) + (Int32.ofNat (sN q9))) + ((2 : Int32) * v13)) (by omega) (by omega)) (fun r1 M18 w => ?_))
    obtain ⟨rfl, ⟨rfl, u19a, u19b⟩ | ⟨rfl, u19n⟩⟩ := w
    · skip
      refine hs (f := dm_if_ne 186 188) (pc' := 188) rfl rfl ?_
      refine hs (f := dm_ald 189 0) rfl rfl ?_
      refine hs (f := dm_ild 190 1) rfl rfl ?_
      refine hs (f := dm_push 191 (.int (-1))) rfl rfl ?_
      refine r_inv rfl hM8 rfl (as := [.ref 68, .int s, .int (-1)]) rfl (Nat.le_of_ble_eq_true rfl) (hT_mono (by decide) (w_155 hM8 Rq9 (by omega) s (-1 : Int32) (by have := Rq9.1.2.1; omega) (by decide)) (fun r1 M20 w => ?_))
      obtain ⟨rfl, q21, hM20, Rq21, ⟨Kq211, Kq212, Kq213, Kq214, Kq215, Kq216, Kq217, Kq218, Kq219, Kq2110, Kq2111, Kq2112, Kq2113⟩, Wq21, Oq21⟩ := w
      have mq21 : (q21.1 15).toInt = (q9.1 15).toInt := by rw [Kq211]
      have nq21 : (q21.1 17).toInt = (q9.1 17).toInt := by rw [Kq213]
      have fq21 : q21.1 41 = q.1 41 := Kq215.trans fq9
      have vq21 : (q21.1 16).toInt = (q9.1 16).toInt := by rw [Kq212]
      have Pq21 := sameO_ok Oq21 Oq9
      have q34q21 : (q21.1 34).toInt = (q9.1 34).toInt := by rw [Oq21.1]
      have sqq21 : (sN q21 : Int) = sN q9 := by rw [Pq21.2.1]
      have b73q21 : rA (q21.2.2.1 73) (q21.1 15).toInt = rA (q9.2.2.1 73) (q9.1 15).toInt ∧ rA (q21.2.2.1 74) (q21.1 15).toInt = rA (q9.2.2.1 74) (q9.1 15).toInt := by rw [Kq217, Kq218, Kq211]; exact ⟨rfl, rfl⟩
      have b82q21 : ∀ m : Int, rA (q21.2.2.1 82) m = rA (q9.2.2.1 82) m ∧ rA (q21.2.2.1 81) m = rA (q9.2.2.1 81) m := fun m => by rw [Kq2110, Kq219]; exact ⟨rfl, rfl⟩
      have b82q21s := b82q21 s.toInt
      have Gq21 : ∀ f t, cuN q21 s.toInt f t = cuN q0 s.toInt f t := fun f t => (cuN_e Kq218 Kq2112 Kq2113).trans (Gq9 f t)
      have y82q21 : rA (q21.2.2.1 82) s.toInt = rA (q9.2.2.1 82) s.toInt := by rw [Kq2110]
      refine hs (f := dm_ald 195 0) rfl rfl ?_
      refine hs (f := dm_ild 196 1) rfl rfl ?_
      refine r_inv rfl hM20 rfl (as := [.ref 68, .int s]) rfl (Nat.le_of_ble_eq_true rfl) (hT_mono (by decide) (w_141 hM20 Rq21 s (by omega) (by omega)) (fun r1 M22 w => ?_))
      obtain ⟨rfl, q23, hM22, Rq23, Kq23, Oq23, Wq23, Sq23⟩ := w
      have mq23 : (q23.1 15).toInt = (q21.1 15).toInt := by rw [Kq23.1]
      have nq23 : (q23.1 17).toInt = (q21.1 17).toInt := by rw [Kq23.2.2.1]
      have fq23 : q23.1 41 = q.1 41 := Kq23.2.2.2.2.1.trans fq21
      have vq23 : (q23.1 16).toInt = (q21.1 16).toInt := by rw [Kq23.2.1]
      have hxq23 : hN q23 ≤ 41000 := by have z := SB_at Rq23.1 (s := s.toInt) (by omega) (by omega); have z2 := Rq23.1.2.2.2.2.2.2; have z3 : rA (q23.2.2.1 82) s.toInt = rA (q21.2.2.1 82) s.toInt := (by rw [Kq23.2.2.2.2.2.2.2.2.2.1]); omega
      have lwq23 : 2 * (q23.1 29).toInt - 1 ≤ (hN q23 : Nat) := HN_len Wq23
      have Gq23 : ∀ f t, cuN q23 s.toInt f t = cuN q0 s.toInt f t := fun f t => (cuN_KP Kq23).trans (Gq21 f t)
      have y82q23 : rA (q23.2.2.1 82) s.toInt = rA (q21.2.2.1 82) s.toInt := by rw [Kq23.2.2.2.2.2.2.2.2.2.1]
      refine hs (f := dm_ald 200 0) rfl rfl ?_
      refine hs (f := dm_ild 201 1) rfl rfl ?_
      refine hs (f := dm_push 202 (.long 0)) rfl rfl ?_
      refine hs (f := dm_lld 204 6) rfl rfl ?_
      refine r_inv rfl hM22 rfl (as := [.ref 68, .int s, .long 0, .long (fr + (sz / (2 : Int64)))]) rfl (Nat.le_of_ble_eq_true rfl) (hT_mono (by decide) (w_154 hM22 Rq23 s (0 : Int64) (fr + (sz / (2 : Int64))) (by omega) (by omega) (by omega) (by decide)) (fun r1 M24 w => ?_))
      obtain ⟨rfl, q25, hM24, Rq25, Kq25, Wq25, Oq25, Lq25, Sq25⟩ := w
      have mq25 : (q25.1 15).toInt = (q23.1 15).toInt := by rw [Kq25.1]
      have nq25 : (q25.1 17).toInt = (q23.1 17).toInt := by rw [Kq25.2.2.1]
      have fq25 : q25.1 41 = q.1 41 := Kq25.2.2.2.2.1.trans fq23
      have vq25 : (q25.1 16).toInt = (q23.1 16).toInt := by rw [Kq25.2.1]
      have cq25 : (q25.1 26).toInt = (q23.1 26).toInt := by rw [Kq25.2.2.2.1]
      have Qq25 := sameW_ok Wq25 Wq23
      have q29q25 : (q25.1 29).toInt = (q23.1 29).toInt := by rw [Wq25.1]
      have hqq25 : (hN q25 : Int) = hN q23 := by rw [Qq25.2]
      have sxq25 := SN_max Oq25.1 Oq25.2 (show (q25.1 34).toInt ≤ 24000 by omega)
      have syq25 : sN q25 ≤ 5760001 := sxq25
      have S1q25 : (sN q25 : Int) = sN q5 := by rw [Sq25, Gq23, S0q5]
      have Gq25 : ∀ f t, cuN q25 s.toInt f t = cuN q0 s.toInt f t := fun f t => (cuN_KP Kq25).trans (Gq23 f t)
      have y82q25 : rA (q25.2.2.1 82) s.toInt = rA (q23.2.2.1 82) s.toInt := by rw [Kq25.2.2.2.2.2.2.2.2.2.1]
      refine hs (f := dm_ald 208 0) rfl rfl ?_
      refine hs (f := dm_push 209 (.int 1)) rfl rfl ?_
      refine hs (f := dm_ild 210 1) rfl rfl ?_
      refine hs (f := dm_push 211 (.int (-1))) rfl rfl ?_
      have tqq27 := SB_top Rq25.1
      have lwq27 : 2 * (q25.1 29).toInt - 1 ≤ (hN q25 : Nat) := HN_len Qq25.1
      have loq27 : 2 * (q25.1 34).toInt - 1 ≤ (sN q25 : Nat) := SN_len Oq25.1 Oq25.2
      refine r_inv rfl hM24 rfl (as := [.ref 68, .int 1, .int s, .int (-1)]) rfl (Nat.le_of_ble_eq_true rfl) (hT_mono (by decide) (w_140 hM24 Rq25 (1 : Int32) s (-1 : Int32) (by have := Rq25.1.2.1; omega) (by decide) Qq25.1 (by omega) Oq25 (by omega) (by omega) (by omega) (by omega) (by omega)) (fun r1 M26 w => ?_))
      obtain ⟨rfl, q27, hM26, Rq27, Aq271, Aq272, Aq273, Aq274, Aq275, Wq27, Oq27, Aq276, Aq277, Aq278, Aq279, Aq2710⟩ := w
      have fq27 : q27.1 41 = q.1 41 := Aq273.trans fq25
      have vq27 : (q27.1 16).toInt = (q25.1 16).toInt := by rw [Aq275]
      have Qq27 := sameW_ok Wq27 Qq25.1
      have Pq27 := sameO_ok Oq27 Oq25
      have q29q27 : (q27.1 29).toInt = (q25.1 29).toInt := by rw [Wq27.1]
      have q34q27 : (q27.1 34).toInt = (q25.1 34).toInt := by rw [Oq27.1]
      have hqq27 : (hN q27 : Int) = hN q25 := by rw [Qq27.2]
      have sqq27 : (sN q27 : Int) = sN q25 := by rw [Pq27.2.1]
      have pfq27 := SB_at Rq25.1 (s := s.toInt) (by omega) (by omega)
      have Gq27 : ∀ f t, cuN q27 s.toInt f t = cuN q0 s.toInt f t := fun f t => (cuN_c (by omega) (Aq279 s.toInt (by omega) (by omega)).2 (Aq279 (s.toInt + 1) (by omega) (by omega)).2 (fun m m0 m1 => Aq2710 m m0 (by omega))).trans (Gq25 f t)
      have y82q27 : rA (q27.2.2.1 82) s.toInt = rA (q25.2.2.1 82) s.toInt := (Aq278 s.toInt (by omega) (by omega)).1
      refine hs (f := dm_ist 216 10) (lv' := [(10, .int (q25.1 15)), (9, .int (Int32.ofNat (sN q9))), (8, .int (Int32.ofNat (sN q5))), (6, .long (fr + (sz / (2 : Int64)))), (2, .long fr), (4, .long sz), (0, .ref 68), (1, .int s)]) rfl rfl ?_
      refine hs (f := dm_ald 217 0) rfl rfl ?_
      refine hs (f := dm_ild 218 1) rfl rfl ?_
      refine r_inv rfl hM26 rfl (as := [.ref 68, .int s]) rfl (Nat.le_of_ble_eq_true rfl) (hT_mono (by decide) (w_141 hM26 Rq27 s (by omega) (by omega)) (fun r1 M28 w => ?_))
      obtain ⟨rfl, q29, hM28, Rq29, Kq29, Oq29, Wq29, Sq29⟩ := w
      have mq29 : (q29.1 15).toInt = (q27.1 15).toInt := by rw [Kq29.1]
      have nq29 : (q29.1 17).toInt = (q27.1 17).toInt := by rw [Kq29.2.2.1]
      have fq29 : q29.1 41 = q.1 41 := Kq29.2.2.2.2.1.trans fq27
      have vq29 : (q29.1 16).toInt = (q27.1 16).toInt := by rw [Kq29.2.1]
      have hxq29 : hN q29 ≤ 41000 := by have z := SB_at Rq29.1 (s := s.toInt) (by omega) (by omega); have z2 := Rq29.1.2.2.2.2.2.2; have z3 : rA (q29.2.2.1 82) s.toInt = rA (q27.2.2.1 82) s.toInt := (by rw [Kq29.2.2.2.2.2.2.2.2.2.1]); omega
      have lwq29 : 2 * (q29.1 29).toInt - 1 ≤ (hN q29 : Nat) := HN_len Wq29
      have Gq29 : ∀ f t, cuN q29 s.toInt f t = cuN q0 s.toInt f t := fun f t => (cuN_KP Kq29).trans (Gq27 f t)
      have y82q29 : rA (q29.2.2.1 82) s.toInt = rA (q27.2.2.1 82) s.toInt := by rw [Kq29.2.2.2.2.2.2.2.2.2.1]
      refine hs (f := dm_ald 222 0) rfl rfl ?_
      refine hs (f := dm_ild 223 1) rfl rfl ?_
      refine hs (f := dm_lld 225 6) rfl rfl ?_
      refine hs (f := dm_push 228 (.long 1152921504606846976)) rfl rfl ?_
      refine r_inv rfl hM28 rfl (as := [.ref 68, .int s, .long (fr + (sz / (2 : Int64))), .long 1152921504606846976]) rfl (Nat.le_of_ble_eq_true rfl) (hT_mono (by decide) (w_154 hM28 Rq29 s (fr + (sz / (2 : Int64))) (1152921504606846976 : Int64) (by omega) (by omega) (by decide) (by omega)) (fun r1 M30 w => ?_))
      obtain ⟨rfl, q31, hM30, Rq31, Kq31, Wq31, Oq31, Lq31, Sq31⟩ := w
      have mq31 : (q31.1 15).toInt = (q29.1 15).toInt := by rw [Kq31.1]
      have nq31 : (q31.1 17).toInt = (q29.1 17).toInt := by rw [Kq31.2.2.1]
      have fq31 : q31.1 41 = q.1 41 := Kq31.2.2.2.2.1.trans fq29
      have vq31 : (q31.1 16).toInt = (q29.1 16).toInt := by rw [Kq31.2.1]
      have cq31 : (q31.1 26).toInt = (q29.1 26).toInt := by rw [Kq31.2.2.2.1]
      have Qq31 := sameW_ok Wq31 Wq29
      have q29q31 : (q31.1 29).toInt = (q29.1 29).toInt := by rw [Wq31.1]
      have hqq31 : (hN q31 : Int) = hN q29 := by rw [Qq31.2]
      have sxq31 := SN_max Oq31.1 Oq31.2 (show (q31.1 34).toInt ≤ 24000 by omega)
      have syq31 : sN q31 ≤ 5760001 := sxq31
      have S1q31 : (sN q31 : Int) = sN q9 := by rw [Sq31, Gq29, S0q9]
      have Gq31 : ∀ f t, cuN q31 s.toInt f t = cuN q0 s.toInt f t := fun f t => (cuN_KP Kq31).trans (Gq29 f t)
      have y82q31 : rA (q31.2.2.1 82) s.toInt = rA (q29.2.2.1 82) s.toInt := by rw [Kq31.2.2.2.2.2.2.2.2.2.1]
      refine hs (f := dm_ald 232 0) rfl rfl ?_
      refine hs (f := dm_push 233 (.int 1)) rfl rfl ?_
      refine hs (f := dm_ild 234 1) rfl rfl ?_
      refine hs (f := dm_push 235 (.int (-1))) rfl rfl ?_
      have tqq33 := SB_top Rq31.1
      have lwq33 : 2 * (q31.1 29).toInt - 1 ≤ (hN q31 : Nat) := HN_len Qq31.1
      have loq33 : 2 * (q31.1 34).toInt - 1 ≤ (sN q31 : Nat) := SN_len Oq31.1 Oq31.2
      refine r_inv rfl hM30 rfl (as := [.ref 68, .int 1, .int s, .int (-1)]) rfl (Nat.le_of_ble_eq_true rfl) (hT_mono (by decide) (w_140 hM30 Rq31 (1 : Int32) s (-1 : Int32) (by have := Rq31.1.2.1; omega) (by decide) Qq31.1 (by omega) Oq31 (by omega) (by omega) (by omega) (by omega) (by omega)) (fun r1 M32 w => ?_))
      obtain ⟨rfl, q33, hM32, Rq33, Aq331, Aq332, Aq333, Aq334, Aq335, Wq33, Oq33, Aq336, Aq337, Aq338, Aq339, Aq3310⟩ := w
      have fq33 : q33.1 41 = q.1 41 := Aq333.trans fq31
      have vq33 : (q33.1 16).toInt = (q31.1 16).toInt := by rw [Aq335]
      have Qq33 := sameW_ok Wq33 Qq31.1
      have Pq33 := sameO_ok Oq33 Oq31
      have q29q33 : (q33.1 29).toInt = (q31.1 29).toInt := by rw [Wq33.1]
      have q34q33 : (q33.1 34).toInt = (q31.1 34).toInt := by rw [Oq33.1]
      have hqq33 : (hN q33 : Int) = hN q31 := by rw [Qq33.2]
      have sqq33 : (sN q33 : Int) = sN q31 := by rw [Pq33.2.1]
      have pfq33 := SB_at Rq31.1 (s := s.toInt) (by omega) (by omega)
      have Gq33 : ∀ f t, cuN q33 s.toInt f t = cuN q0 s.toInt f t := fun f t => (cuN_c (by omega) (Aq339 s.toInt (by omega) (by omega)).2 (Aq339 (s.toInt + 1) (by omega) (by omega)).2 (fun m m0 m1 => Aq3310 m m0 (by omega))).trans (Gq31 f t)
      have y82q33 : rA (q33.2.2.1 82) s.toInt = rA (q31.2.2.1 82) s.toInt := (Aq338 s.toInt (by omega) (by omega)).1
      refine hs (f := dm_pop 239) (st' := []) rfl rfl ?_
      refine hs (f := dm_ald 240 0) rfl rfl ?_
      refine hs (f := dm_ild 241 1) rfl rfl ?_
      have meq35 := Rq33.1.2.1
      refine r_inv rfl hM32 rfl (as := [.ref 68, .int s]) rfl (Nat.le_of_ble_eq_true rfl) (hT_mono (by decide) (w_156 hM32 Rq33 s (by omega) (by omega)) (fun r1 M34 w => ?_))
      obtain ⟨rfl, q35, hM34, Rq35, Kq35⟩ := w
      have fq35 : q35.1 41 = q.1 41 := Kq35.2.2.2.2.1.trans fq33
      have mq35 : (q35.1 15).toInt = (q33.1 15).toInt := by rw [Kq35.1]
      refine hs (f := dm_ild 246 10) rfl rfl ?_
      exact hr (f := dm_ret .int) rfl rfl (⟨_, q35, rfl, hM34, RI_up Rq35 (by omega), fq35⟩)
    · skip
      refine hs (f := dm_if_ne 186 188) (pc' := 186) rfl rfl ?_
      refine hs (f := dm_push 187 (.int (-1))) rfl rfl ?_
      exact hr (f := dm_ret .int) rfl rfl (⟨_, q9, rfl, hM8, RI_up Rq9 (by omega), fq9⟩)
  · skip
    have h1 : sz.toInt = 1 := h1
    refine hs (f := dm_push 115 (.int (-1))) rfl rfl ?_
    exact hr (f := dm_ret .int) rfl rfl (⟨_, q0, rfl, hM, RI_up hR (by omega), hf⟩)
set_option maxHeartbeats 4000000 in
theorem op_157 {X : dm_Mem} {q : rS} {M : dm_Mem} {T : Int} (hM : Rm X q M) (hR : RI T q) (hT6 : 0 ≤ T ∧ T ≤ 600) (s : Int32) : hT 66 157 [.ref 68, .int s] M (fun r M' => ∃ (x : Int32) (q' : rS), r = some (.int x) ∧ Rm X q' M' ∧ RI (T + 1) q' ∧ q'.1 41 = q.1 41) := by
  refine hx (t := cd_157) rfl (Nat.le_of_ble_eq_true rfl) (lv := [(0, .ref 68), (1, .int s)]) rfl ?_
  refine hs (f := dm_ald 1 0) rfl rfl ?_
  refine hs (f := dm_push 2 (.int 0)) rfl rfl ?_
  refine r_puti rfl hM rfl (fun M1 hM1 => ?_)
  replace hM1 := rm_to (q' := (sF q 40 (0 : Int32))) hM1 (show sF q 40 (0 : Int32) = (sF q 40 (0 : Int32)) from (show sF q 40 (0 : Int32) = (sF q 40 (0 : Int32)) from rfl))
  obtain ⟨q2, eq2⟩ : ∃ z, z = (sF q 40 (0 : Int32)) := ⟨_, rfl⟩
  rw [← eq2] at hM1
  have Rq2 : RI T q2 := by rw [eq2]; exact hR
  have Kq2 : KP q q2 := by rw [eq2]; exact ⟨rfl, rfl, rfl, rfl, rfl, rfl, rfl, rfl, rfl, rfl, rfl, rfl, rfl⟩
  have fq2 : q2.1 41 = q.1 41 := Kq2.2.2.2.2.1
  have evq2 := Rq2.2.2.1
  have mxq2 := Rq2.1.2.1
  have btq2 := Rq2.2.2.2.2.2.1
  refine hs (f := dm_ald 6 0) rfl rfl ?_
  refine hs (f := dm_ild 7 1) rfl rfl ?_
  refine r_inv rfl hM1 rfl (as := [.ref 68, .int s]) rfl (Nat.le_of_ble_eq_true rfl) (hT_mono (by decide) (r_137 hM1 Rq2.1.2.1 s) (fun r1 M4 w => ?_))
  obtain ⟨rfl, ⟨rfl, u3a, u3b⟩ | ⟨rfl, u3n⟩⟩ := w
  · skip
    refine hs (f := dm_if_eq 13 21) (pc' := 13) rfl rfl ?_
    refine hs (f := dm_ald 14 0) rfl rfl ?_
    refine hs (f := dm_ild 15 1) rfl rfl ?_
    refine r_inv rfl hM1 rfl (as := [.ref 68, .int s]) rfl (Nat.le_of_ble_eq_true rfl) (hT_mono (by decide) (r_138 hM1 s (by omega) (by have := Rq2.1.2.1; omega)) (fun r1 M6 w => ?_))
    obtain ⟨rfl, ⟨rfl, u5a⟩ | ⟨rfl, u5n⟩⟩ := w
    · skip
      refine hs (f := dm_if_ne 21 23) (pc' := 23) rfl rfl ?_
      refine hs (f := dm_ald 24 0) rfl rfl ?_
      refine hs (f := dm_ild 25 1) rfl rfl ?_
      refine r_inv rfl hM1 rfl (as := [.ref 68, .int s]) rfl (Nat.le_of_ble_eq_true rfl) (hT_mono (by decide) (w_142 hM1 Rq2 s (by omega) (by omega)) (fun r1 M7 w => ?_))
      obtain ⟨rfl, q8, hM7, Rq8, Kq8, Wq8, Oq8, Sq8, Lq8⟩ := w
      have mq8 : (q8.1 15).toInt = (q2.1 15).toInt := by rw [Kq8.1]
      have nq8 : (q8.1 17).toInt = (q2.1 17).toInt := by rw [Kq8.2.2.1]
      have fq8 : q8.1 41 = q.1 41 := Kq8.2.2.2.2.1.trans fq2
      have vq8 : (q8.1 16).toInt = (q2.1 16).toInt := by rw [Kq8.2.1]
      have a81q8 : rA (q8.2.2.1 81) s.toInt = rA (q2.2.2.1 81) s.toInt := by rw [Kq8.2.2.2.2.2.2.2.2.1]
      have a82q8 : rA (q8.2.2.1 82) s.toInt = rA (q2.2.2.1 82) s.toInt := by rw [Kq8.2.2.2.2.2.2.2.2.2.1]
      have a74q8 : rA (q8.2.2.1 74) s.toInt = rA (q2.2.2.1 74) s.toInt ∧ rA (q8.2.2.1 74) (s.toInt + 1) = rA (q2.2.2.1 74) (s.toInt + 1) := by rw [Kq8.2.2.2.2.2.2.2.1]; exact ⟨rfl, rfl⟩
      have hbq8 := SB_at Rq2.1 (s := s.toInt) (by omega) (by omega)
      have g34q8 : 1 ≤ (q8.1 34).toInt ∧ (q8.1 34).toInt ≤ 21000 := by omega
      have kq := SB_at Rq8.1 (s := s.toInt) (by omega) (by omega)
      have sl : (q8.1 34).toInt ≤ 24000 := by omega
      have j35 : ∀ (nn : Nat), (∀ (fr sz : Int64) (M : dm_Mem), Rm X q8 M → (0 ≤ fr.toInt) → (∃ j : Nat, sz.toInt = 2 ^ j) → (fr.toInt + sz.toInt ≤ 1152921504606846976) → sz.toInt.toNat = nn → hG 65 cd_157 35 [(4, .long sz), (2, .long fr), (0, .ref 68), (1, .int s)] [] M (fun r M' => ∃ (x : Int32) (q' : rS), r = some (.int x) ∧ Rm X q' M' ∧ RI (T + 1) q' ∧ q'.1 41 = q.1 41)) ∧ (∀ (fr sz : Int64) (M : dm_Mem), Rm X q8 M → (0 ≤ fr.toInt) → (∃ j : Nat, sz.toInt = 2 ^ j) → (fr.toInt + sz.toInt ≤ 1152921504606846976) → sz.toInt.toNat = nn → hG 65 cd_157 35 [(2, .long fr), (4, .long sz), (0, .ref 68), (1, .int s)] [] M (fun r M' => ∃ (x : Int32) (q' : rS), r = some (.int x) ∧ Rm X q' M' ∧ RI (T + 1) q' ∧ q'.1 41 = q.1 41)) := by
        intro nn
        induction nn using Nat.strongRecOn with
        | ind nn IH =>
          refine ⟨?_, ?_⟩
          · skip
            intro fr sz M hM z0 hj z2 hms
            obtain ⟨j9, hj9⟩ := hj
            have z1 := p2_pos j9
            refine hs (f := dm_ald 36 0) rfl rfl ?_
            refine hs (f := dm_lld 37 2) rfl rfl ?_
            refine hs (f := dm_lld 39 4) rfl rfl ?_
            refine r_inv rfl hM rfl (as := [.ref 68, .long fr, .long sz]) rfl (Nat.le_of_ble_eq_true rfl) (hT_mono (by decide) (r_152 hM fr sz ⟨Oq8.2, by omega⟩ (by omega) (by omega) (by omega)) (fun r1 M9 w => ?_))
            obtain ⟨rfl, rfl⟩ := w
            have plu10 : Part (q8.2.2.2 96) (q8.2.2.2 97) (q8.1 34).toInt fr.toInt sz.toInt ≤ 2 := Part_le
            have eu10 : (Int32.ofNat (Part (q8.2.2.2 96) (q8.2.2.2 97) (q8.1 34).toInt fr.toInt sz.toInt)).toInt = (Part (q8.2.2.2 96) (q8.2.2.2 97) (q8.1 34).toInt fr.toInt sz.toInt : Nat) := i_ofNat2 (by omega)
            refine hs (f := dm_push 43 (.int 2)) rfl rfl ?_
            refine g_ic_ne (n := 46) (tt := 107) rfl (fun h11 => ?_) (fun h11 => ?_)
            · skip
              have h11 : ¬ (Int32.ofNat (Part (q8.2.2.2 96) (q8.2.2.2 97) (q8.1 34).toInt fr.toInt sz.toInt)).toInt = 2 := h11
              exact f_157_0 hM Rq8 hT6 fq8 s (by omega) (by omega) _ _ (by omega) (by omega) (by omega)
            · skip
              have h11 : (Int32.ofNat (Part (q8.2.2.2 96) (q8.2.2.2 97) (q8.1 34).toInt fr.toInt sz.toInt)).toInt = 2 := h11
              obtain ⟨jj, rfl⟩ : ∃ jj, j9 = jj + 1 := by
                rcases j9 with _ | jj
                · have z := Part_one (a := q8.2.2.2 96) (b := q8.2.2.2 97) (n := (q8.1 34).toInt) (f := fr.toInt)
                  have z2 : sz.toInt = 1 := hj9
                  rw [← z2] at z
                  omega
                · exact ⟨jj, rfl⟩
              rw [p2_succ] at hj9
              have zj := p2_pos jj
              refine hs (f := dm_ald 47 0) rfl rfl ?_
              refine hs (f := dm_lld 48 2) rfl rfl ?_
              refine hs (f := dm_lld 50 4) rfl rfl ?_
              refine hs (f := dm_push 53 (.long 2)) rfl rfl ?_
              have e12 : (sz / (2 : Int64)).toInt = sz.toInt / 2 := by have w := j_half (x := sz) (by omega); omega
              refine hs (f := dm_lq 54 (fun x y => x / y)) (st' := [.long (sz / (2 : Int64)), .long fr, .ref 68]) rfl rfl ?_
              refine r_inv rfl hM rfl (as := [.ref 68, .long fr, .long (sz / (2 : Int64))]) rfl (Nat.le_of_ble_eq_true rfl) (hT_mono (by decide) (r_152 hM fr (sz / (2 : Int64)) ⟨Oq8.2, by omega⟩ (by omega) (by omega) (by omega)) (fun r1 M13 w => ?_))
              obtain ⟨rfl, rfl⟩ := w
              have plu14 : Part (q8.2.2.2 96) (q8.2.2.2 97) (q8.1 34).toInt fr.toInt (sz / (2 : Int64)).toInt ≤ 2 := Part_le
              have eu14 : (Int32.ofNat (Part (q8.2.2.2 96) (q8.2.2.2 97) (q8.1 34).toInt fr.toInt (sz / (2 : Int64)).toInt)).toInt = (Part (q8.2.2.2 96) (q8.2.2.2 97) (q8.1 34).toInt fr.toInt (sz / (2 : Int64)).toInt : Nat) := i_ofNat2 (by omega)
              refine g_if_eq (n := 60) (tt := 81) rfl (fun h15 => ?_) (fun h15 => ?_)
              · skip
                have h15 : (Int32.ofNat (Part (q8.2.2.2 96) (q8.2.2.2 97) (q8.1 34).toInt fr.toInt (sz / (2 : Int64)).toInt)).toInt = 0 := h15
                refine hs (f := dm_lld 83 4) rfl rfl ?_
                refine hs (f := dm_push 86 (.long 2)) rfl rfl ?_
                have e16 : (sz / (2 : Int64)).toInt = sz.toInt / 2 := by have w := j_half (x := sz) (by omega); omega
                refine hs (f := dm_lq 87 (fun x y => x / y)) (st' := [.long (sz / (2 : Int64))]) rfl rfl ?_
                refine hs (f := dm_lst 89 4) (lv' := [(4, .long (sz / (2 : Int64))), (2, .long fr), (0, .ref 68), (1, .int s)]) rfl rfl ?_
                refine hs (f := dm_ald 90 0) rfl rfl ?_
                refine hs (f := dm_lld 91 2) rfl rfl ?_
                refine hs (f := dm_lld 93 4) rfl rfl ?_
                refine r_inv rfl hM rfl (as := [.ref 68, .long fr, .long (sz / (2 : Int64))]) rfl (Nat.le_of_ble_eq_true rfl) (hT_mono (by decide) (r_152 hM fr (sz / (2 : Int64)) ⟨Oq8.2, by omega⟩ (by omega) (by omega) (by omega)) (fun r1 M17 w => ?_))
                obtain ⟨rfl, rfl⟩ := w
                have plu18 : Part (q8.2.2.2 96) (q8.2.2.2 97) (q8.1 34).toInt fr.toInt (sz / (2 : Int64)).toInt ≤ 2 := Part_le
                have eu18 : (Int32.ofNat (Part (q8.2.2.2 96) (q8.2.2.2 97) (q8.1 34).toInt fr.toInt (sz / (2 : Int64)).toInt)).toInt = (Part (q8.2.2.2 96) (q8.2.2.2 97) (q8.1 34).toInt fr.toInt (sz / (2 : Int64)).toInt : Nat) := i_ofNat2 (by omega)
                refine g_if_ne (n := 99) (tt := 35) rfl (fun h19 => ?_) (fun h19 => ?_)
                · skip
                  have h19 : ¬ (Int32.ofNat (Part (q8.2.2.2 96) (q8.2.2.2 97) (q8.1 34).toInt fr.toInt (sz / (2 : Int64)).toInt)).toInt = 0 := h19
                  exact (IH _ (by omega)).1 fr (sz / (2 : Int64)) _ hM (by omega) ⟨jj, by omega⟩ (by omega) rfl
                · skip
                  have h19 : (Int32.ofNat (Part (q8.2.2.2 96) (q8.2.2.2 97) (q8.1 34).toInt fr.toInt (sz / (2 : Int64)).toInt)).toInt = 0 := h19
                  refine hs (f := dm_lld 100 2) rfl rfl ?_
                  refine hs (f := dm_lld 102 4) rfl rfl ?_
                  have e20 : (fr + (sz / (2 : Int64))).toInt = fr.toInt + sz.toInt / 2 := by have w := j_add (x := fr) (y := (sz / (2 : Int64))) (by omega) (by omega); omega
                  refine hs (f := dm_ll 103 (fun x y => x + y)) (st' := [.long (fr + (sz / (2 : Int64)))]) rfl rfl ?_
                  refine hs (f := dm_lst 104 2) (lv' := [(2, .long (fr + (sz / (2 : Int64)))), (4, .long (sz / (2 : Int64))), (0, .ref 68), (1, .int s)]) rfl rfl ?_
                  refine hs (f := dm_goto 35) rfl rfl ?_
                  exact (IH _ (by omega)).2 (fr + (sz / (2 : Int64))) (sz / (2 : Int64)) _ hM (by omega) ⟨jj, by omega⟩ (by omega) rfl
              · skip
                have h15 : ¬ (Int32.ofNat (Part (q8.2.2.2 96) (q8.2.2.2 97) (q8.1 34).toInt fr.toInt (sz / (2 : Int64)).toInt)).toInt = 0 := h15
                refine hs (f := dm_ald 61 0) rfl rfl ?_
                refine hs (f := dm_lld 62 2) rfl rfl ?_
                refine hs (f := dm_lld 64 4) rfl rfl ?_
                refine hs (f := dm_push 67 (.long 2)) rfl rfl ?_
                have e21 : (sz / (2 : Int64)).toInt = sz.toInt / 2 := by have w := j_half (x := sz) (by omega); omega
                refine hs (f := dm_lq 68 (fun x y => x / y)) (st' := [.long (sz / (2 : Int64)), .long fr, .ref 68]) rfl rfl ?_
                have e22 : (fr + (sz / (2 : Int64))).toInt = fr.toInt + sz.toInt / 2 := by have w := j_add (x := fr) (y := (sz / (2 : Int64))) (by omega) (by omega); omega
                refine hs (f := dm_ll 69 (fun x y => x + y)) (st' := [.long (fr + (sz / (2 : Int64))), .ref 68]) rfl rfl ?_
                refine hs (f := dm_lld 71 4) rfl rfl ?_
                refine hs (f := dm_push 74 (.long 2)) rfl rfl ?_
                have e23 : (sz / (2 : Int64)).toInt = sz.toInt / 2 := by have w := j_half (x := sz) (by omega); omega
                refine hs (f := dm_lq 75 (fun x y => x / y)) (st' := [.long (sz / (2 : Int64)), .long (fr + (sz / (2 : Int64))), .ref 68]) rfl rfl ?_
                refine r_inv rfl hM rfl (as := [.ref 68, .long (fr + (sz / (2 : Int64))), .long (sz / (2 : Int64))]) rfl (Nat.le_of_ble_eq_true rfl) (hT_mono (by decide) (r_152 hM (fr + (sz / (2 : Int64))) (sz / (2 : Int64)) ⟨Oq8.2, by omega⟩ (by omega) (by omega) (by omega)) (fun r1 M24 w => ?_))
                obtain ⟨rfl, rfl⟩ := w
                have plu25 : Part (q8.2.2.2 96) (q8.2.2.2 97) (q8.1 34).toInt (fr + (sz / (2 : Int64))).toInt (sz / (2 : Int64)).toInt ≤ 2 := Part_le
                have eu25 : (Int32.ofNat (Part (q8.2.2.2 96) (q8.2.2.2 97) (q8.1 34).toInt (fr + (sz / (2 : Int64))).toInt (sz / (2 : Int64)).toInt)).toInt = (Part (q8.2.2.2 96) (q8.2.2.2 97) (q8.1 34).toInt (fr + (sz / (2 : Int64))).toInt (sz / (2 : Int64)).toInt : Nat) := i_ofNat2 (by omega)
                refine g_if_ne (n := 81) (tt := 107) rfl (fun h26 => ?_) (fun h26 => ?_)
                · skip
                  have h26 : ¬ (Int32.ofNat (Part (q8.2.2.2 96) (q8.2.2.2 97) (q8.1 34).toInt (fr + (sz / (2 : Int64))).toInt (sz / (2 : Int64)).toInt)).toInt = 0 := h26
                  exact f_157_0 hM Rq8 hT6 fq8 s (by omega) (by omega) _ _ (by omega) (by omega) (by omega)
                · skip
                  have h26 : (Int32.ofNat (Part (q8.2.2.2 96) (q8.2.2.2 97) (q8.1 34).toInt (fr + (sz / (2 : Int64))).toInt (sz / (2 : Int64)).toInt)).toInt = 0 := h26
                  refine hs (f := dm_lld 83 4) rfl rfl ?_
                  refine hs (f := dm_push 86 (.long 2)) rfl rfl ?_
                  have e27 : (sz / (2 : Int64)).toInt = sz.toInt / 2 := by have w := j_half (x := sz) (by omega); omega
                  refine hs (f := dm_lq 87 (fun x y => x / y)) (st' := [.long (sz / (2 : Int64))]) rfl rfl ?_
                  refine hs (f := dm_lst 89 4) (lv' := [(4, .long (sz / (2 : Int64))), (2, .long fr), (0, .ref 68), (1, .int s)]) rfl rfl ?_
                  refine hs (f := dm_ald 90 0) rfl rfl ?_
                  refine hs (f := dm_lld 91 2) rfl rfl ?_
                  refine hs (f := dm_lld 93 4) rfl rfl ?_
                  refine r_inv rfl hM rfl (as := [.ref 68, .long fr, .long (sz / (2 : Int64))]) rfl (Nat.le_of_ble_eq_true rfl) (hT_mono (by decide) (r_152 hM fr (sz / (2 : Int64)) ⟨Oq8.2, by omega⟩ (by omega) (by omega) (by omega)) (fun r1 M28 w => ?_))
                  obtain ⟨rfl, rfl⟩ := w
                  have plu29 : Part (q8.2.2.2 96) (q8.2.2.2 97) (q8.1 34).toInt fr.toInt (sz / (2 : Int64)).toInt ≤ 2 := Part_le
                  have eu29 : (Int32.ofNat (Part (q8.2.2.2 96) (q8.2.2.2 97) (q8.1 34).toInt fr.toInt (sz / (2 : Int64)).toInt)).toInt = (Part (q8.2.2.2 96) (q8.2.2.2 97) (q8.1 34).toInt fr.toInt (sz / (2 : Int64)).toInt : Nat) := i_ofNat2 (by omega)
                  refine g_if_ne (n := 99) (tt := 35) rfl (fun h30 => ?_) (fun h30 => ?_)
                  · skip
                    have h30 : ¬ (Int32.ofNat (Part (q8.2.2.2 96) (q8.2.2.2 97) (q8.1 34).toInt fr.toInt (sz / (2 : Int64)).toInt)).toInt = 0 := h30
                    exact (IH _ (by omega)).1 fr (sz / (2 : Int64)) _ hM (by omega) ⟨jj, by omega⟩ (by omega) rfl
                  · skip
                    have h30 : (Int32.ofNat (Part (q8.2.2.2 96) (q8.2.2.2 97) (q8.1 34).toInt fr.toInt (sz / (2 : Int64)).toInt)).toInt = 0 := h30
                    refine hs (f := dm_lld 100 2) rfl rfl ?_
                    refine hs (f := dm_lld 102 4) rfl rfl ?_
                    have e31 : (fr + (sz / (2 : Int64))).toInt = fr.toInt + sz.toInt / 2 := by have w := j_add (x := fr) (y := (sz / (2 : Int64))) (by omega) (by omega); omega
                    refine hs (f := dm_ll 103 (fun x y => x + y)) (st' := [.long (fr + (sz / (2 : Int64)))]) rfl rfl ?_
                    refine hs (f := dm_lst 104 2) (lv' := [(2, .long (fr + (sz / (2 : Int64)))), (4, .long (sz / (2 : Int64))), (0, .ref 68), (1, .int s)]) rfl rfl ?_
                    refine hs (f := dm_goto 35) rfl rfl ?_
                    exact (IH _ (by omega)).2 (fr + (sz / (2 : Int64))) (sz / (2 : Int64)) _ hM (by omega) ⟨jj, by omega⟩ (by omega) rfl
          · skip
            intro fr sz M hM z0 hj z2 hms
            obtain ⟨j9, hj9⟩ := hj
            have z1 := p2_pos j9
            refine hs (f := dm_ald 36 0) rfl rfl ?_
            refine hs (f := dm_lld 37 2) rfl rfl ?_
            refine hs (f := dm_lld 39 4) rfl rfl ?_
            refine r_inv rfl hM rfl (as := [.ref 68, .long fr, .long sz]) rfl (Nat.le_of_ble_eq_true rfl) (hT_mono (by decide) (r_152 hM fr sz ⟨Oq8.2, by omega⟩ (by omega) (by omega) (by omega)) (fun r1 M32 w => ?_))
            obtain ⟨rfl, rfl⟩ := w
            have plu33 : Part (q8.2.2.2 96) (q8.2.2.2 97) (q8.1 34).toInt fr.toInt sz.toInt ≤ 2 := Part_le
            have eu33 : (Int32.ofNat (Part (q8.2.2.2 96) (q8.2.2.2 97) (q8.1 34).toInt fr.toInt sz.toInt)).toInt = (Part (q8.2.2.2 96) (q8.2.2.2 97) (q8.1 34).toInt fr.toInt sz.toInt : Nat) := i_ofNat2 (by omega)
            refine hs (f := dm_push 43 (.int 2)) rfl rfl ?_
            refine g_ic_ne (n := 46) (tt := 107) rfl (fun h34 => ?_) (fun h34 => ?_)
            · skip
              have h34 : ¬ (Int32.ofNat (Part (q8.2.2.2 96) (q8.2.2.2 97) (q8.1 34).toInt fr.toInt sz.toInt)).toInt = 2 := h34
              exact f_157_1 hM Rq8 hT6 fq8 s (by omega) (by omega) _ _ (by omega) (by omega) (by omega)
            · skip
              have h34 : (Int32.ofNat (Part (q8.2.2.2 96) (q8.2.2.2 97) (q8.1 34).toInt fr.toInt sz.toInt)).toInt = 2 := h34
              obtain ⟨jj, rfl⟩ : ∃ jj, j9 = jj + 1 := by
                rcases j9 with _ | jj
                · have z := Part_one (a := q8.2.2.2 96) (b := q8.2.2.2 97) (n := (q8.1 34).toInt) (f := fr.toInt)
                  have z2 : sz.toInt = 1 := hj9
                  rw [← z2] at z
                  omega
                · exact ⟨jj, rfl⟩
              rw [p2_succ] at hj9
              have zj := p2_pos jj
              refine hs (f := dm_ald 47 0) rfl rfl ?_
              refine hs (f := dm_lld 48 2) rfl rfl ?_
              refine hs (f := dm_lld 50 4) rfl rfl ?_
              refine hs (f := dm_push 53 (.long 2)) rfl rfl ?_
              have e35 : (sz / (2 : Int64)).toInt = sz.toInt / 2 := by have w := j_half (x := sz) (by omega); omega
              refine hs (f := dm_lq 54 (fun x y => x / y)) (st' := [.long (sz / (2 : Int64)), .long fr, .ref 68]) rfl rfl ?_
              refine r_inv rfl hM rfl (as := [.ref 68, .long fr, .long (sz / (2 : Int64))]) rfl (Nat.le_of_ble_eq_true rfl) (hT_mono (by decide) (r_152 hM fr (sz / (2 : Int64)) ⟨Oq8.2, by omega⟩ (by omega) (by omega) (by omega)) (fun r1 M36 w => ?_))
              obtain ⟨rfl, rfl⟩ := w
              have plu37 : Part (q8.2.2.2 96) (q8.2.2.2 97) (q8.1 34).toInt fr.toInt (sz / (2 : Int64)).toInt ≤ 2 := Part_le
              have eu37 : (Int32.ofNat (Part (q8.2.2.2 96) (q8.2.2.2 97) (q8.1 34).toInt fr.toInt (sz / (2 : Int64)).toInt)).toInt = (Part (q8.2.2.2 96) (q8.2.2.2 97) (q8.1 34).toInt fr.toInt (sz / (2 : Int64)).toInt : Nat) := i_ofNat2 (by omega)
              refine g_if_eq (n := 60) (tt := 81) rfl (fun h38 => ?_) (fun h38 => ?_)
              · skip
                have h38 : (Int32.ofNat (Part (q8.2.2.2 96) (q8.2.2.2 97) (q8.1 34).toInt fr.toInt (sz / (2 : Int64)).toInt)).toInt = 0 := h38
                refine hs (f := dm_lld 83 4) rfl rfl ?_
                refine hs (f := dm_push 86 (.long 2)) rfl rfl ?_
                have e39 : (sz / (2 : Int64)).toInt = sz.toInt / 2 := by have w := j_half (x := sz) (by omega); omega
                refine hs (f := dm_lq 87 (fun x y => x / y)) (st' := [.long (sz / (2 : Int64))]) rfl rfl ?_
                refine hs (f := dm_lst 89 4) (lv' := [(4, .long (sz / (2 : Int64))), (2, .long fr), (0, .ref 68), (1, .int s)]) rfl rfl ?_
                refine hs (f := dm_ald 90 0) rfl rfl ?_
                refine hs (f := dm_lld 91 2) rfl rfl ?_
                refine hs (f := dm_lld 93 4) rfl rfl ?_
                refine r_inv rfl hM rfl (as := [.ref 68, .long fr, .long (sz / (2 : Int64))]) rfl (Nat.le_of_ble_eq_true rfl) (hT_mono (by decide) (r_152 hM fr (sz / (2 : Int64)) ⟨Oq8.2, by omega⟩ (by omega) (by omega) (by omega)) (fun r1 M40 w => ?_))
                obtain ⟨rfl, rfl⟩ := w
                have plu41 : Part (q8.2.2.2 96) (q8.2.2.2 97) (q8.1 34).toInt fr.toInt (sz / (2 : Int64)).toInt ≤ 2 := Part_le
                have eu41 : (Int32.ofNat (Part (q8.2.2.2 96) (q8.2.2.2 97) (q8.1 34).toInt fr.toInt (sz / (2 : Int64)).toInt)).toInt = (Part (q8.2.2.2 96) (q8.2.2.2 97) (q8.1 34).toInt fr.toInt (sz / (2 : Int64)).toInt : Nat) := i_ofNat2 (by omega)
                refine g_if_ne (n := 99) (tt := 35) rfl (fun h42 => ?_) (fun h42 => ?_)
                · skip
                  have h42 : ¬ (Int32.ofNat (Part (q8.2.2.2 96) (q8.2.2.2 97) (q8.1 34).toInt fr.toInt (sz / (2 : Int64)).toInt)).toInt = 0 := h42
                  exact (IH _ (by omega)).1 fr (sz / (2 : Int64)) _ hM (by omega) ⟨jj, by omega⟩ (by omega) rfl
                · skip
                  have h42 : (Int32.ofNat (Part (q8.2.2.2 96) (q8.2.2.2 97) (q8.1 34).toInt fr.toInt (sz / (2 : Int64)).toInt)).toInt = 0 := h42
                  refine hs (f := dm_lld 100 2) rfl rfl ?_
                  refine hs (f := dm_lld 102 4) rfl rfl ?_
                  have e43 : (fr + (sz / (2 : Int64))).toInt = fr.toInt + sz.toInt / 2 := by have w := j_add (x := fr) (y := (sz / (2 : Int64))) (by omega) (by omega); omega
                  refine hs (f := dm_ll 103 (fun x y => x + y)) (st' := [.long (fr + (sz / (2 : Int64)))]) rfl rfl ?_
                  refine hs (f := dm_lst 104 2) (lv' := [(2, .long (fr + (sz / (2 : Int64)))), (4, .long (sz / (2 : Int64))), (0, .ref 68), (1, .int s)]) rfl rfl ?_
                  refine hs (f := dm_goto 35) rfl rfl ?_
                  exact (IH _ (by omega)).2 (fr + (sz / (2 : Int64))) (sz / (2 : Int64)) _ hM (by omega) ⟨jj, by omega⟩ (by omega) rfl
              · skip
                have h38 : ¬ (Int32.ofNat (Part (q8.2.2.2 96) (q8.2.2.2 97) (q8.1 34).toInt fr.toInt (sz / (2 : Int64)).toInt)).toInt = 0 := h38
                refine hs (f := dm_ald 61 0) rfl rfl ?_
                refine hs (f := dm_lld 62 2) rfl rfl ?_
                refine hs (f := dm_lld 64 4) rfl rfl ?_
                refine hs (f := dm_push 67 (.long 2)) rfl rfl ?_
                have e44 : (sz / (2 : Int64)).toInt = sz.toInt / 2 := by have w := j_half (x := sz) (by omega); omega
                refine hs (f := dm_lq 68 (fun x y => x / y)) (st' := [.long (sz / (2 : Int64)), .long fr, .ref 68]) rfl rfl ?_
                have e45 : (fr + (sz / (2 : Int64))).toInt = fr.toInt + sz.toInt / 2 := by have w := j_add (x := fr) (y := (sz / (2 : Int64))) (by omega) (by omega); omega
                refine hs (f := dm_ll 69 (fun x y => x + y)) (st' := [.long (fr + (sz / (2 : Int64))), .ref 68]) rfl rfl ?_
                refine hs (f := dm_lld 71 4) rfl rfl ?_
                refine hs (f := dm_push 74 (.long 2)) rfl rfl ?_
                have e46 : (sz / (2 : Int64)).toInt = sz.toInt / 2 := by have w := j_half (x := sz) (by omega); omega
                refine hs (f := dm_lq 75 (fun x y => x / y)) (st' := [.long (sz / (2 : Int64)), .long (fr + (sz / (2 : Int64))), .ref 68]) rfl rfl ?_
                refine r_inv rfl hM rfl (as := [.ref 68, .long (fr + (sz / (2 : Int64))), .long (sz / (2 : Int64))]) rfl (Nat.le_of_ble_eq_true rfl) (hT_mono (by decide) (r_152 hM (fr + (sz / (2 : Int64))) (sz / (2 : Int64)) ⟨Oq8.2, by omega⟩ (by omega) (by omega) (by omega)) (fun r1 M47 w => ?_))
                obtain ⟨rfl, rfl⟩ := w
                have plu48 : Part (q8.2.2.2 96) (q8.2.2.2 97) (q8.1 34).toInt (fr + (sz / (2 : Int64))).toInt (sz / (2 : Int64)).toInt ≤ 2 := Part_le
                have eu48 : (Int32.ofNat (Part (q8.2.2.2 96) (q8.2.2.2 97) (q8.1 34).toInt (fr + (sz / (2 : Int64))).toInt (sz / (2 : Int64)).toInt)).toInt = (Part (q8.2.2.2 96) (q8.2.2.2 97) (q8.1 34).toInt (fr + (sz / (2 : Int64))).toInt (sz / (2 : Int64)).toInt : Nat) := i_ofNat2 (by omega)
                refine g_if_ne (n := 81) (tt := 107) rfl (fun h49 => ?_) (fun h49 => ?_)
                · skip
                  have h49 : ¬ (Int32.ofNat (Part (q8.2.2.2 96) (q8.2.2.2 97) (q8.1 34).toInt (fr + (sz / (2 : Int64))).toInt (sz / (2 : Int64)).toInt)).toInt = 0 := h49
                  exact f_157_1 hM Rq8 hT6 fq8 s (by omega) (by omega) _ _ (by omega) (by omega) (by omega)
                · skip
                  have h49 : (Int32.ofNat (Part (q8.2.2.2 96) (q8.2.2.2 97) (q8.1 34).toInt (fr + (sz / (2 : Int64))).toInt (sz / (2 : Int64)).toInt)).toInt = 0 := h49
                  refine hs (f := dm_lld 83 4) rfl rfl ?_
                  refine hs (f := dm_push 86 (.long 2)) rfl rfl ?_
                  have e50 : (sz / (2 : Int64)).toInt = sz.toInt / 2 := by have w := j_half (x := sz) (by omega); omega
                  refine hs (f := dm_lq 87 (fun x y => x / y)) (st' := [.long (sz / (2 : Int64))]) rfl rfl ?_
                  refine hs (f := dm_lst 89 4) (lv' := [(4, .long (sz / (2 : Int64))), (2, .long fr), (0, .ref 68), (1, .int s)]) rfl rfl ?_
                  refine hs (f := dm_ald 90 0) rfl rfl ?_
                  refine hs (f := dm_lld 91 2) rfl rfl ?_
                  refine hs (f := dm_lld 93 4) rfl rfl ?_
                  refine r_inv rfl hM rfl (as := [.ref 68, .long fr, .long (sz / (2 : Int64))]) rfl (Nat.le_of_ble_eq_true rfl) (hT_mono (by decide) (r_152 hM fr (sz / (2 : Int64)) ⟨Oq8.2, by omega⟩ (by omega) (by omega) (by omega)) (fun r1 M51 w => ?_))
                  obtain ⟨rfl, rfl⟩ := w
                  have plu52 : Part (q8.2.2.2 96) (q8.2.2.2 97) (q8.1 34).toInt fr.toInt (sz / (2 : Int64)).toInt ≤ 2 := Part_le
                  have eu52 : (Int32.ofNat (Part (q8.2.2.2 96) (q8.2.2.2 97) (q8.1 34).toInt fr.toInt (sz / (2 : Int64)).toInt)).toInt = (Part (q8.2.2.2 96) (q8.2.2.2 97) (q8.1 34).toInt fr.toInt (sz / (2 : Int64)).toInt : Nat) := i_ofNat2 (by omega)
                  refine g_if_ne (n := 99) (tt := 35) rfl (fun h53 => ?_) (fun h53 => ?_)
                  · skip
                    have h53 : ¬ (Int32.ofNat (Part (q8.2.2.2 96) (q8.2.2.2 97) (q8.1 34).toInt fr.toInt (sz / (2 : Int64)).toInt)).toInt = 0 := h53
                    exact (IH _ (by omega)).1 fr (sz / (2 : Int64)) _ hM (by omega) ⟨jj, by omega⟩ (by omega) rfl
                  · skip
                    have h53 : (Int32.ofNat (Part (q8.2.2.2 96) (q8.2.2.2 97) (q8.1 34).toInt fr.toInt (sz / (2 : Int64)).toInt)).toInt = 0 := h53
                    refine hs (f := dm_lld 100 2) rfl rfl ?_
                    refine hs (f := dm_lld 102 4) rfl rfl ?_
                    have e54 : (fr + (sz / (2 : Int64))).toInt = fr.toInt + sz.toInt / 2 := by have w := j_add (x := fr) (y := (sz / (2 : Int64))) (by omega) (by omega); omega
                    refine hs (f := dm_ll 103 (fun x y => x + y)) (st' := [.long (fr + (sz / (2 : Int64)))]) rfl rfl ?_
                    refine hs (f := dm_lst 104 2) (lv' := [(2, .long (fr + (sz / (2 : Int64)))), (4, .long (sz / (2 : Int64))), (0, .ref 68), (1, .int s)]) rfl rfl ?_
                    refine hs (f := dm_goto 35) rfl rfl ?_
                    exact (IH _ (by omega)).2 (fr + (sz / (2 : Int64))) (sz / (2 : Int64)) _ hM (by omega) ⟨jj, by omega⟩ (by omega) rfl
      refine hs (f := dm_push 29 (.long 0)) rfl rfl ?_
      refine hs (f := dm_lst 30 2) (lv' := [(2, .long 0), (0, .ref 68), (1, .int s)]) rfl rfl ?_
      refine hs (f := dm_push 33 (.long 1152921504606846976)) rfl rfl ?_
      refine hs (f := dm_lst 35 4) (lv' := [(4, .long 1152921504606846976), (2, .long 0), (0, .ref 68), (1, .int s)]) rfl rfl ?_
      exact (j35 _).1 (0 : Int64) (1152921504606846976 : Int64) _ hM7 (by decide) ⟨60, rfl⟩ (by decide) rfl
    · skip
      refine hs (f := dm_if_ne 21 23) (pc' := 21) rfl rfl ?_
      refine hs (f := dm_push 22 (.int (-1))) rfl rfl ?_
      exact hr (f := dm_ret .int) rfl rfl (⟨_, q2, rfl, hM1, RI_up Rq2 (by omega), fq2⟩)
  · skip
    refine hs (f := dm_if_eq 13 21) (pc' := 21) rfl rfl ?_
    refine hs (f := dm_push 22 (.int (-1))) rfl rfl ?_
    exact hr (f := dm_ret .int) rfl rfl (⟨_, q2, rfl, hM1, RI_up Rq2 (by omega), fq2⟩)
