/-! what stands fast of the reference, and its helpers over it -/
def RI (T : Int) (q : rS) : Prop :=
  SB (q.2.2.2 69) (q.2.2.2 71) (q.2.2.2 72) (q.2.2.1 73) (q.2.2.1 74) (q.2.2.1 81) (q.2.2.1 82) (q.1 15).toInt (q.1 17).toInt ∧
  SB (q.2.2.2 99) (q.2.2.2 101) (q.2.2.2 102) (q.2.2.1 103) (q.2.2.1 104) (q.2.2.1 111) (q.2.2.1 112) (q.1 57).toInt (q.1 59).toInt ∧
  (0 ≤ (q.1 16).toInt ∧ (q.1 16).toInt ≤ T) ∧ (0 ≤ (q.1 58).toInt ∧ (q.1 58).toInt ≤ T) ∧ (0 ≤ (q.1 26).toInt ∧ (q.1 26).toInt ≤ T) ∧ (0 ≤ (q.1 36).toInt ∧ (q.1 36).toInt ≤ 600) ∧
  (∀ j : Int, 0 ≤ j → j < (q.1 26).toInt → 0 ≤ rA (q.2.2.1 84) j ∧ (0 ≤ rA (q.2.2.1 85) j ∧ rA (q.2.2.1 85) j ≤ T) ∧ (-1 ≤ rA (q.2.2.1 86) j ∧ rA (q.2.2.1 86) j < 1000) ∧ (-1 ≤ rA (q.2.2.1 87) j ∧ rA (q.2.2.1 87) j < 1000) ∧ (-1 ≤ rA (q.2.2.1 90) j ∧ rA (q.2.2.1 90) j < 1000) ∧ (-1 ≤ rA (q.2.2.1 91) j ∧ rA (q.2.2.1 91) j < 1000))
theorem RI_up {T T' : Int} {q : rS} (h : RI T q) (hT : T ≤ T') : RI T' q := by
  obtain ⟨h1, h2, h3, h4, h5, h6, h7⟩ := h
  refine ⟨h1, h2, by omega, by omega, by omega, h6, fun j j0 j1 => ?_⟩
  obtain ⟨k1, k2, k3, k4, k5, k6⟩ := h7 j j0 j1
  exact ⟨k1, by omega, k3, k4, k5, k6⟩
/-- the stamps, the flag, the numbers of acts and events are the same -/
def KP (q q' : rS) : Prop := q'.1 15 = q.1 15 ∧ q'.1 16 = q.1 16 ∧ q'.1 17 = q.1 17 ∧ q'.1 26 = q.1 26 ∧ q'.1 41 = q.1 41 ∧ q'.2.2.1 70 = q.2.2.1 70 ∧ q'.2.2.1 73 = q.2.2.1 73 ∧ q'.2.2.1 74 = q.2.2.1 74 ∧ q'.2.2.1 81 = q.2.2.1 81 ∧ q'.2.2.1 82 = q.2.2.1 82 ∧ q'.2.2.2 69 = q.2.2.2 69 ∧ q'.2.2.2 71 = q.2.2.2 71 ∧ q'.2.2.2 72 = q.2.2.2 72
theorem KP_rf {q : rS} : KP q q := ⟨rfl, rfl, rfl, rfl, rfl, rfl, rfl, rfl, rfl, rfl, rfl, rfl, rfl⟩
theorem KP_tr {q q' q'' : rS} (h : KP q q') (h2 : KP q' q'') : KP q q'' := by
  obtain ⟨a1, a2, a3, a4, a5, a6, a7, a8, a9, a10, a11, a12, a13⟩ := h
  obtain ⟨b1, b2, b3, b4, b5, b6, b7, b8, b9, b10, b11, b12, b13⟩ := h2
  exact ⟨b1.trans a1, b2.trans a2, b3.trans a3, b4.trans a4, b5.trans a5, b6.trans a6, b7.trans a7, b8.trans a8, b9.trans a9, b10.trans a10, b11.trans a11, b12.trans a12, b13.trans a13⟩
/-- the work rows of heights, of spans -/
def sameW (q q' : rS) : Prop := q'.1 29 = q.1 29 ∧ q'.2.2.2 92 = q.2.2.2 92 ∧ q'.2.2.1 93 = q.2.2.1 93
def sameO (q q' : rS) : Prop := q'.1 34 = q.1 34 ∧ q'.2.2.2 96 = q.2.2.2 96 ∧ q'.2.2.2 97 = q.2.2.2 97
def okW (q : rS) : Prop := wS (q.2.2.2 92) (q.1 29).toInt
noncomputable def hN (q : rS) : Nat := HN (q.2.2.2 92) (q.1 29).toInt 60 0
def okO (q : rS) : Prop := oS (q.2.2.2 96) (q.2.2.2 97) (q.1 34).toInt ∧ 0 ≤ (q.1 34).toInt
def sN (q : rS) : Nat := SN (q.2.2.2 96) (q.2.2.2 97) (q.1 34).toInt 60 0
theorem sameW_ok {q q' : rS} (h : sameW q q') (hw : okW q) : okW q' ∧ hN q' = hN q := by
  obtain ⟨a, b, -⟩ := h
  unfold okW hN
  rw [a, b]
  exact ⟨hw, rfl⟩
theorem sameO_ok {q q' : rS} (h : sameO q q') (hw : okO q) : okO q' ∧ sN q' = sN q ∧ q'.1 34 = q.1 34 := by
  obtain ⟨a, b, c⟩ := h
  unfold okO sN
  rw [a, b, c]
  exact ⟨hw, rfl, rfl⟩
theorem w_142 {X : dm_Mem} {q : rS} {M : dm_Mem} {T : Int} (hM : Rm X q M) (hR : RI T q) (s : Int32) (s0 : 0 ≤ s.toInt) (s1 : s.toInt < (q.1 15).toInt) : hT 1 142 [.ref 68, .int s] M (fun r M' => r = none ∧ ∃ q', Rm X q' M' ∧ RI T q' ∧ KP q q' ∧ sameW q q' ∧ okO q' ∧ (sN q' : Int) = rA (q.2.2.1 81) s.toInt ∧ (q'.1 34).toInt = rA (q.2.2.1 74) (s.toInt + 1) - rA (q.2.2.1 74) s.toInt) := by
  have hb := SB_at hR.1 s0 s1
  obtain ⟨g1, g2, g3, g4, g5, g6⟩ := hR.1.2.2.2.2.1 s.toInt s0 s1
  refine hT_mono (Nat.le_refl _) (r_142 hM s s0 (by omega) (by omega) (by omega) (by omega)) (fun r M' w => ?_)
  obtain ⟨rfl, n, b1, b2, hn, hc, hM2⟩ := w
  have c2 : ∀ i : Int, 0 ≤ i → i < n.toInt → rB (seg (q.2.2.2 71) (rA (q.2.2.1 74) s.toInt)) i = rB b1 i ∧ rB (seg (q.2.2.2 72) (rA (q.2.2.1 74) s.toInt)) i = rB b2 i := fun i i0 i1 => by
    rw [rB_seg i0, rB_seg i0]
    unfold rB
    rw [(hc i i0 i1).1, (hc i i0 i1).2]
    exact ⟨rfl, rfl⟩
  refine ⟨rfl, _, hM2, hR, ⟨rfl, rfl, rfl, rfl, rfl, rfl, rfl, rfl, rfl, rfl, rfl, rfl, rfl⟩, ⟨rfl, rfl, rfl⟩, ⟨?_, ?_⟩, ?_, hn⟩
  · show oS b1 b2 n.toInt
    exact oS_congr c2 (by rw [hn]; exact g4)
  · show 0 ≤ n.toInt
    omega
  · show ((SN b1 b2 n.toInt 60 0 : Nat) : Int) = _
    rw [g6, ← SN_congr c2, hn]
theorem w_141 {X : dm_Mem} {q : rS} {M : dm_Mem} {T : Int} (hM : Rm X q M) (hR : RI T q) (s : Int32) (s0 : 0 ≤ s.toInt) (s1 : s.toInt < (q.1 15).toInt) : hT 1 141 [.ref 68, .int s] M (fun r M' => r = none ∧ ∃ q', Rm X q' M' ∧ RI T q' ∧ KP q q' ∧ sameO q q' ∧ okW q' ∧ (hN q' : Int) = rA (q.2.2.1 82) s.toInt) := by
  have hb := SB_at hR.1 s0 s1
  obtain ⟨g1, g2, g3, g4, g5, g6⟩ := hR.1.2.2.2.2.1 s.toInt s0 s1
  refine hT_mono (Nat.le_refl _) (r_141 hM s s0 (by omega) (by omega) (by omega) (by omega)) (fun r M' w => ?_)
  obtain ⟨rfl, n, b1, b2, hn, hc, hM2⟩ := w
  have c1 : ∀ i : Int, 0 ≤ i → i < n.toInt → rB (seg (q.2.2.2 69) (rA (q.2.2.1 73) s.toInt)) i = rB b1 i := fun i i0 i1 => by
    rw [rB_seg i0]
    unfold rB
    rw [(hc i i0 i1).1]
  refine ⟨rfl, _, hM2, hR, ⟨rfl, rfl, rfl, rfl, rfl, rfl, rfl, rfl, rfl, rfl, rfl, rfl, rfl⟩, ⟨rfl, rfl, rfl⟩, ?_, ?_⟩
  · show wS b1 n.toInt
    exact wS_congr c1 (by rw [hn]; exact g3)
  · show ((HN b1 n.toInt 60 0 : Nat) : Int) = _
    rw [g5, ← HN_congr c1, hn]
theorem w_160 {X : dm_Mem} {q : rS} {M : dm_Mem} {T : Int} (hM : Rm X q M) (hR : RI T q) (hW : okW q) (hH : hN q ≤ 42000) (hO : okO q) (hO2 : (q.1 34).toInt ≤ 24000) (hO1 : 1 ≤ (q.1 34).toInt) : hT 65 160 [.ref 68] M (fun r M' => r = none ∧ ∃ q', Rm X q' M' ∧ RI T q' ∧ KP q q' ∧ sameO q q' ∧ okW q' ∧ hN q' ≤ hN q + 240 ∧ (q'.1 29).toInt ≤ 21100) := by
  have hP : ¬ Part (q.2.2.2 96) (q.2.2.2 97) (q.1 34).toInt 0 1152921504606846976 = 0 := by
    have h0 := hO.1.1 0 (by omega) (by omega)
    rcases Part_cases (q.2.2.2 96) (q.2.2.2 97) (q.1 34).toInt 0 1152921504606846976 with ⟨_, z⟩ | ⟨m, m0, m1, m2, m3, m4⟩
    · have := z 0 (by omega) (by omega)
      omega
    · have hm := hO.1.1 m m0 m1
      rcases m4 with z | z | z
      · omega
      · omega
      · omega
  refine hT_mono (Nat.le_refl _) (r_160 hM hW hH ⟨hO.2, hO2⟩ (fun i i0 i1 => (hO.1.1 i i0 i1).2.1) hP) (fun r M' w => ?_)
  obtain ⟨rfl, n', c92, c94, c114, c93, c95, c115, d60, d61, w1, w2, w3, hM2⟩ := w
  exact ⟨rfl, _, hM2, hR, ⟨rfl, rfl, rfl, rfl, rfl, rfl, rfl, rfl, rfl, rfl, rfl, rfl, rfl⟩, ⟨rfl, rfl, rfl⟩, w1, w3, w2⟩
theorem w_151 {X : dm_Mem} {q : rS} {M : dm_Mem} (hM : Rm X q M) (hW : okW q) (hn : (q.1 29).toInt ≤ 24000) : hT 63 151 [.ref 68, .long 0, .long 1152921504606846976] M (fun r M' => r = some (.int (Int32.ofNat (hN q))) ∧ M' = M) := r_151 hM hW hn 60 0 1152921504606846976 rfl (by decide) (by decide)
theorem w_153 {X : dm_Mem} {q : rS} {M : dm_Mem} (hM : Rm X q M) (hO : okO q) (hn : (q.1 34).toInt ≤ 24000) : hT 62 153 [.ref 68, .long 0, .long 1152921504606846976] M (fun r M' => r = some (.int (Int32.ofNat (sN q))) ∧ M' = M) := r_153 hM ⟨hO.2, hn⟩ 60 0 1152921504606846976 rfl (by decide) (by decide)
theorem w_155 {X : dm_Mem} {q : rS} {M : dm_Mem} {T : Int} (hM : Rm X q M) (hR : RI T q) (hT6 : T ≤ 600) (a b : Int32) (ha : -1 ≤ a.toInt ∧ a.toInt < 1000) (hb : -1 ≤ b.toInt ∧ b.toInt < 1000) : hT 1 155 [.ref 68, .int a, .int b] M (fun r M' => r = none ∧ ∃ q', Rm X q' M' ∧ RI (T + 1) q' ∧ (q'.1 15 = q.1 15 ∧ q'.1 16 = q.1 16 ∧ q'.1 17 = q.1 17 ∧ (q'.1 26).toInt = (q.1 26).toInt + 1 ∧ q'.1 41 = q.1 41 ∧ q'.2.2.1 70 = q.2.2.1 70 ∧ q'.2.2.1 73 = q.2.2.1 73 ∧ q'.2.2.1 74 = q.2.2.1 74 ∧ q'.2.2.1 81 = q.2.2.1 81 ∧ q'.2.2.1 82 = q.2.2.1 82 ∧ q'.2.2.2 69 = q.2.2.2 69 ∧ q'.2.2.2 71 = q.2.2.2 71 ∧ q'.2.2.2 72 = q.2.2.2 72) ∧ sameW q q' ∧ sameO q q') := by
  obtain ⟨h1, h2, h3, h4, h5, h6, h7⟩ := hR
  refine hT_mono (Nat.le_refl _) (r_155 hM a b ha hb ⟨h5.1, by omega⟩) (fun r M' w => ?_)
  obtain ⟨rfl, c88, c89, hM2⟩ := w
  have e : ((q.1 26) + (1 : Int32)).toInt = (q.1 26).toInt + 1 := i_addc 1 rfl (by omega) (by omega)
  have hmn : ((q.1 26).toInt.toNat : Int) = (q.1 26).toInt := Int.toNat_of_nonneg h5.1
  have hmany := h1.1
  have hmany2 := h1.2.1
  refine ⟨rfl, _, hM2, ⟨h1, h2, by show 0 ≤ (q.1 16).toInt ∧ (q.1 16).toInt ≤ _; omega, by show 0 ≤ (q.1 58).toInt ∧ (q.1 58).toInt ≤ _; omega, by show 0 ≤ ((q.1 26) + (1 : Int32)).toInt ∧ ((q.1 26) + (1 : Int32)).toInt ≤ _; omega, h6, fun j j0 j1 => ?_⟩, ⟨rfl, rfl, rfl, e, rfl, rfl, rfl, rfl, rfl, rfl, rfl, rfl, rfl⟩, ⟨rfl, rfl, rfl⟩, ⟨rfl, rfl, rfl⟩⟩
  have j1' : j < (q.1 26).toInt + 1 := by rw [← e]; exact j1
  show 0 ≤ rA (upd (q.2.2.1 84) _ _) j ∧ (0 ≤ rA (upd (q.2.2.1 85) _ _) j ∧ rA (upd (q.2.2.1 85) _ _) j ≤ T + 1) ∧ (-1 ≤ rA (upd (q.2.2.1 86) _ _) j ∧ rA (upd (q.2.2.1 86) _ _) j < 1000) ∧ (-1 ≤ rA (upd (q.2.2.1 87) _ _) j ∧ rA (upd (q.2.2.1 87) _ _) j < 1000) ∧ (-1 ≤ rA (upd (q.2.2.1 90) _ _) j ∧ rA (upd (q.2.2.1 90) _ _) j < 1000) ∧ (-1 ≤ rA (upd (q.2.2.1 91) _ _) j ∧ rA (upd (q.2.2.1 91) _ _) j < 1000)
  rw [rA_upd j0, rA_upd j0, rA_upd j0, rA_upd j0, rA_upd j0, rA_upd j0]
  by_cases ej : j = ((q.1 26).toInt.toNat : Int)
  · rw [if_pos ej, if_pos ej, if_pos ej, if_pos ej, if_pos ej, if_pos ej, nar_s (by omega) (by omega), nar_s (by omega) (by omega), nar_s (by omega) (by omega), nar_s (by omega) (by omega), nar_m1]
    omega
  · rw [if_neg ej, if_neg ej, if_neg ej, if_neg ej, if_neg ej, if_neg ej]
    obtain ⟨k1, k2, k3, k4, k5, k6⟩ := h7 j j0 (by omega)
    exact ⟨k1, by omega, k3, k4, k5, k6⟩
theorem w_156 {X : dm_Mem} {q : rS} {M : dm_Mem} {T : Int} (hM : Rm X q M) (hR : RI T q) (s : Int32) (h0 : 0 ≤ s.toInt) (h1 : s.toInt < 1000) : hT 2 156 [.ref 68, .int s] M (fun r M' => r = none ∧ ∃ q', Rm X q' M' ∧ RI T q' ∧ KP q q') := by
  refine hT_mono (Nat.le_refl _) (r_156 hM s h0 h1) (fun r M' w => ?_)
  obtain ⟨rfl, c75, hM2⟩ := w
  exact ⟨rfl, _, hM2, hR, ⟨rfl, rfl, rfl, rfl, rfl, rfl, rfl, rfl, rfl, rfl, rfl, rfl, rfl⟩⟩
theorem w_161 {X : dm_Mem} {q : rS} {M : dm_Mem} {T : Int} (hM : Rm X q M) (hR : RI T q) (hev : (q.1 16).toInt + 1 ≤ T) (hT6 : T ≤ 700) (s : Int32) (h0 : 0 ≤ s.toInt) (h1 : s.toInt < 1000) : hT 1 161 [.ref 68, .int s] M (fun r M' => r = none ∧ ∃ q', Rm X q' M' ∧ RI T q' ∧ (q'.1 15 = q.1 15 ∧ q'.1 17 = q.1 17 ∧ q'.1 41 = q.1 41 ∧ q'.2.2.1 81 = q.2.2.1 81 ∧ q'.2.2.1 82 = q.2.2.1 82 ∧ q'.2.2.1 73 = q.2.2.1 73 ∧ q'.2.2.1 74 = q.2.2.1 74) ∧ sameW q q' ∧ sameO q q') := by
  obtain ⟨g1, g2, g3, g4, g5, g6, g7⟩ := hR
  refine hT_mono (Nat.le_refl _) (r_161 hM s h0 h1 ⟨g3.1, by omega⟩) (fun r M' w => ?_)
  obtain ⟨rfl, c83, hM2⟩ := w
  have e : ((q.1 16) + (1 : Int32)).toInt = (q.1 16).toInt + 1 := i_addc 1 rfl (by omega) (by omega)
  exact ⟨rfl, _, hM2, ⟨g1, g2, by show 0 ≤ ((q.1 16) + (1 : Int32)).toInt ∧ ((q.1 16) + (1 : Int32)).toInt ≤ _; omega, g4, g5, g6, g7⟩, ⟨rfl, rfl, rfl, rfl, rfl, rfl, rfl⟩, ⟨rfl, rfl, rfl⟩, ⟨rfl, rfl, rfl⟩⟩
theorem w_140 {X : dm_Mem} {q : rS} {M : dm_Mem} {T : Int} (hM : Rm X q M) (hR : RI T q) (kd a b : Int32) (ha : -1 ≤ a.toInt ∧ a.toInt < 1000) (hb : -1 ≤ b.toInt ∧ b.toInt < 1000) (hW : okW q) (hN2 : (q.1 29).toInt ≤ 24000) (hO : okO q) (hO2 : (q.1 34).toInt ≤ 24000) (hm : (q.1 15).toInt < 1000) (hn : (q.1 17).toInt + sN q + hN q ≤ 41000) (hf1 : rA (q.2.2.1 73) (q.1 15).toInt + (q.1 29).toInt ≤ 24000) (hf2 : rA (q.2.2.1 74) (q.1 15).toInt + (q.1 34).toInt ≤ 24000) :
    hT 64 140 [.ref 68, .int kd, .int a, .int b] M (fun r M' => r = some (.int (q.1 15)) ∧ ∃ q', Rm X q' M' ∧ RI T q' ∧ (q'.1 15).toInt = (q.1 15).toInt + 1 ∧ (q'.1 17).toInt = (q.1 17).toInt + sN q + hN q ∧ q'.1 41 = q.1 41 ∧ q'.1 26 = q.1 26 ∧ q'.1 16 = q.1 16 ∧ sameW q q' ∧ sameO q q' ∧ rA (q'.2.2.1 82) (q.1 15).toInt = hN q ∧ rA (q'.2.2.1 81) (q.1 15).toInt = sN q ∧ (∀ m : Int, 0 ≤ m → m < (q.1 15).toInt → rA (q'.2.2.1 82) m = rA (q.2.2.1 82) m ∧ rA (q'.2.2.1 81) m = rA (q.2.2.1 81) m) ∧ (∀ m : Int, 0 ≤ m → m ≤ (q.1 15).toInt → rA (q'.2.2.1 73) m = rA (q.2.2.1 73) m ∧ rA (q'.2.2.1 74) m = rA (q.2.2.1 74) m) ∧ (∀ m : Int, 0 ≤ m → m < rA (q.2.2.1 74) (q.1 15).toInt → q'.2.2.2 71 m.toNat = q.2.2.2 71 m.toNat ∧ q'.2.2.2 72 m.toNat = q.2.2.2 72 m.toNat)) := by
  have ht := SB_top hR.1
  have h0 := hR.1.1
  have hsx := SN_max hO.1 hO.2 hO2
  have hhx := HN_max hW hN2
  have hnn := hR.1.2.2.2.2.2.2
  refine hT_mono (Nat.le_refl _) (r_140 hM kd a b ha hb ⟨h0, hm⟩ ⟨ht.2.1, hf1⟩ ⟨ht.2.2.2.1, hf2⟩ hW ⟨hO.2, hO2⟩ (by omega) (by omega) ⟨ht.1, by omega⟩) (fun r M' w => ?_)
  obtain ⟨rfl, b69, b71, b72, c83, c70, c73, c74, c75, c76, c77, c78, c79, c80, c81, c82, m2, nd, k1, k2, k3, p1, p2, p3, p4, e1, e2, hM2⟩ := w
  have hSB := SB_make hR.1 k1 k2 k3 hW hO.1 hO.2 p1 p2 p3 p4 hm hn
  refine ⟨rfl, _, hM2, ⟨?_, hR.2.1, hR.2.2.1, hR.2.2.2.1, hR.2.2.2.2.1, hR.2.2.2.2.2.1, hR.2.2.2.2.2.2⟩, e1, e2, rfl, rfl, rfl, ⟨rfl, rfl, rfl⟩, ⟨rfl, rfl, rfl⟩, p4.1, p3.1, fun m m0 m1 => ⟨p4.2 m m0 (by omega), p3.2 m m0 (by omega)⟩, fun m m0 m1 => ⟨p1.2 m m0 (by omega), p2.2 m m0 (by omega)⟩, fun m m0 m1 => ⟨k2.2 m m0 m1, k3.2 m m0 m1⟩⟩
  show SB b69 b71 b72 c73 c74 c81 c82 m2.toInt nd.toInt
  rw [e1, e2]
  exact hSB
