/-! heights read -/
theorem half_j {d : Int32} {j : Nat} (h0 : 0 ≤ d.toInt) (h : d.toInt + j = 61) (hj : 1 ≤ j) : (2 ≤ j → 2 * ((1152921504606846976 : Int64) >>> ((d + (1 : Int32)).toInt64 &&& 63)).toInt = 2 ^ (j - 1) ∧ ((1152921504606846976 : Int64) >>> ((d + (1 : Int32)).toInt64 &&& 63)).toInt = 2 ^ (j - 1 - 1)) ∧ (j = 1 → ((1152921504606846976 : Int64) >>> ((d + (1 : Int32)).toInt64 &&& 63)).toInt = 0) := by
  have z := half_at (d := d) (i := j - 1) h0 (by omega)
  rw [z]
  refine ⟨fun h2 => ?_, fun h2 => ?_⟩
  · rw [if_pos (by omega)]
    refine ⟨?_, rfl⟩
    rw [← p2_succ, show j - 1 - 1 + 1 = j - 1 by omega]
  · rw [if_neg (by omega)]
theorem r_197x {X : dm_Mem} {q : rS} {M : dm_Mem} (x0 p : Int32) (hM : Rm X q M) (e1 : q.1 66 = x0) : hT 1 197 [.ref 68, .int p] M (fun r M' => r = none ∧ ∃ x : Int32, (x0.toInt = -1 → x = p) ∧ (¬ x0.toInt = -1 → x = x0) ∧ Rm X (sF q 66 x) M') := by
  subst e1
  exact r_197 hM p
theorem r_198x {X : dm_Mem} {q : rS} {M : dm_Mem} (t0 x0 b0 : Int32) (hM : Rm X q M) (e1 : q.1 65 = t0) (e2 : q.1 66 = x0) (e3 : q.1 36 = b0) (hB : 0 ≤ t0.toInt ∧ t0.toInt ≤ b0.toInt ∧ b0.toInt ≤ 600) : hT 2 198 [.ref 68] M (fun r M' => ∃ v t x : Int32, r = some (.int v) ∧ (0 ≤ v.toInt ∧ v.toInt ≤ 1) ∧ (t0.toInt ≤ t.toInt ∧ t.toInt ≤ b0.toInt) ∧ (x.toInt = -1 → x0.toInt = -1 ∧ t.toInt = t0.toInt + 1) ∧ (v.toInt = 1 → x.toInt = -1) ∧ Rm X (sF (sF q 65 t) 66 x) M') := by
  subst e1 e2 e3
  exact r_198 hM hB
theorem r_199x {X : dm_Mem} {q : rS} {M : dm_Mem} (t0 x0 b0 : Int32) (hM : Rm X q M) (e1 : q.1 65 = t0) (e2 : q.1 66 = x0) (e3 : q.1 36 = b0) (hB : 0 ≤ t0.toInt ∧ t0.toInt ≤ b0.toInt ∧ b0.toInt ≤ 600) : hT 3 199 [.ref 68] M (fun r M' => ∃ v t x : Int32, r = some (.int v) ∧ (t0.toInt ≤ t.toInt ∧ t.toInt ≤ b0.toInt) ∧ (x.toInt = -1 → x0.toInt = -1) ∧ Rm X (sF (sF q 65 t) 66 x) M') := by
  subst e1 e2 e3
  exact r_199 hM hB
theorem r_202x {X : dm_Mem} {q : rS} {M : dm_Mem} (n0 : Int32) (w0 : Nat → Int64) (p : Int64) (v : Int32) (hM : Rm X q M) (e1 : q.1 29 = n0) (e2 : q.2.2.2 92 = w0) (hn : 0 ≤ n0.toInt ∧ n0.toInt < 24000) : hT 1 202 [.ref 68, .long p, .int v] M (fun r M' => ∃ (n : Int32) (b : Nat → Int64) (g : Nat → Int32), r = some (.int n) ∧ ((n = n0 ∧ 0 < n0.toInt ∧ b = w0) ∨ (n.toInt = n0.toInt + 1 ∧ b = vp_updL w0 n0.toInt.toNat p)) ∧ Rm X (sA (sB q 92 b) 93 g) M') := by
  subst e1 e2
  exact r_202 hM p v hn
set_option maxHeartbeats 8000000 in
theorem r_201 {X : dm_Mem} (j : Nat) : ∀ (q : rS) (M : dm_Mem) (dp : Int32) (f : Int64) (c : Int32) (t0 x0 b0 n0 : Int32) (w0 : Nat → Int64), Rm X q M → q.1 65 = t0 → q.1 66 = x0 → q.1 36 = b0 → q.1 29 = n0 → q.2.2.2 92 = w0 → (0 ≤ t0.toInt ∧ t0.toInt ≤ b0.toInt ∧ b0.toInt ≤ 600) → 0 ≤ dp.toInt → dp.toInt + j = 61 → (0 ≤ n0.toInt ∧ n0.toInt ≤ t0.toInt) → (1 ≤ j → 0 ≤ f.toInt ∧ f.toInt + 2 ^ (j - 1) ≤ 1152921504606846976) → (x0.toInt = -1 → 1 ≤ j → wP w0 n0.toInt f.toInt ∧ (n0.toInt = 0 → f.toInt = 0)) → hT (3 + 1 + j) 201 [.ref 68, .int dp, .long f, .int c] M (fun r M' => ∃ (v n t x y : Int32) (b : Nat → Int64) (g : Nat → Int32), r = some (.int v) ∧ (t0.toInt ≤ t.toInt ∧ t.toInt ≤ b0.toInt) ∧ (n0.toInt ≤ n.toInt ∧ n.toInt - n0.toInt ≤ t.toInt - t0.toInt) ∧ (x.toInt = -1 → x0.toInt = -1 ∧ 1 ≤ j ∧ wP b n.toInt (f.toInt + 2 ^ (j - 1)) ∧ 1 ≤ n.toInt) ∧ Rm X (sA (sB (sF (sF (sF (sF q 29 n) 65 t) 66 x) 67 y) 92 b) 93 g) M') := by
  induction j using Nat.strongRecOn with
  | ind j IH =>
    intro q M dp f c t0 x0 b0 n0 w0 hM e1 e2 e3 e4 e5 hB d0 dj hn hf hw
    subst e1 e2 e3 e4 e5
    rw [show 3 + 1 + j = (3 + j) + 1 by omega]
    have hp := p2_pos (j - 1)
    refine hx (t := cd_201) rfl (Nat.le_of_ble_eq_true rfl) (lv := [(0, .ref 68), (1, .int dp), (2, .long f), (4, .int c)]) rfl ?_
    refine hs (f := dm_ald 1 0) rfl rfl ?_
    refine hs (f := dm_push 2 (.int 0)) rfl rfl ?_
    refine r_putb rfl hM rfl isB_0 (fun M1 hM1 => ?_)
    replace hM1 := rm_to (q' := (sF q 67 (0 : Int32))) hM1 (show sF q 67 (0 : Int32) = (sF q 67 (0 : Int32)) from (show sF q 67 (0 : Int32) = (sF q 67 (0 : Int32)) from rfl))
    refine hs (f := dm_ald 6 0) rfl rfl ?_
    refine r_geti (q.1 66) rfl hM1 rfl rfl ?_
    refine hs (f := dm_push 10 (.int (-1))) rfl rfl ?_
    refine g_ic_eq (n := 13) (tt := 15) rfl (fun h2 => ?_) (fun h2 => ?_)
    · skip
      have h2 : (q.1 66).toInt = (-1) := h2
      refine hs (f := dm_ald 16 0) rfl rfl ?_
      refine r_geti (q.1 65) rfl hM1 rfl rfl ?_
      refine hs (f := dm_ist 21 5) (lv' := [(5, .int (q.1 65)), (0, .ref 68), (1, .int dp), (2, .long f), (4, .int c)]) rfl rfl ?_
      refine hs (f := dm_ild 22 1) rfl rfl ?_
      refine hs (f := dm_push 24 (.int 60)) rfl rfl ?_
      refine g_ic_le (n := 27) (tt := 35) rfl (fun h3 => ?_) (fun h3 => ?_)
      · skip
        have h3 : dp.toInt ≤ 60 := h3
        refine hs (f := dm_ald 36 0) rfl rfl ?_
        refine r_inv rfl hM1 rfl (as := [.ref 68]) rfl (Nat.le_of_ble_eq_true rfl) (hT_mono (by omega) (r_198x (q.1 65) (q.1 66) (q.1 36) hM1 rfl rfl rfl (by omega)) (fun r1 M4 w => ?_))
        obtain ⟨vu5, tu5, xu5, rfl, vbu5, tbu5, xbu5, vxu5, hM4⟩ := w
        replace hM4 := rm_to (q' := (sF (sF (sF q 65 tu5) 66 xu5) 67 (0 : Int32))) hM4 (Eq.trans (congrArg (fun z => sF z 66 xu5) (show sF (sF q 67 (0 : Int32)) 65 tu5 = (sF (sF q 65 tu5) 67 (0 : Int32)) from (show sF (sF q 67 (0 : Int32)) 65 tu5 = (sF (sF q 65 tu5) 67 (0 : Int32)) from Eq.trans (show sF (sF q 67 (0 : Int32)) 65 tu5 = sF (sF q 65 tu5) 67 (0 : Int32) from sF_cm (by decide)) (congrArg (fun z => sF z 67 (0 : Int32)) (show sF q 65 tu5 = (sF q 65 tu5) from rfl))))) (show sF (sF (sF q 65 tu5) 67 (0 : Int32)) 66 xu5 = (sF (sF (sF q 65 tu5) 66 xu5) 67 (0 : Int32)) from (show sF (sF (sF q 65 tu5) 67 (0 : Int32)) 66 xu5 = (sF (sF (sF q 65 tu5) 66 xu5) 67 (0 : Int32)) from Eq.trans (show sF (sF (sF q 65 tu5) 67 (0 : Int32)) 66 xu5 = sF (sF (sF q 65 tu5) 66 xu5) 67 (0 : Int32) from sF_cm (by decide)) (congrArg (fun z => sF z 67 (0 : Int32)) (show sF (sF q 65 tu5) 66 xu5 = (sF (sF q 65 tu5) 66 xu5) from rfl)))))
        refine hs (f := dm_push 40 (.int 1)) rfl rfl ?_
        refine g_ic_ne (n := 43) (tt := 71) rfl (fun h6 => ?_) (fun h6 => ?_)
        · skip
          have h6 : ¬ vu5.toInt = 1 := h6
          have j135 : ∀ (tl nn a9 b9 t3 x3 : Int32) (M : dm_Mem), Rm X (sF (sF (sF q 65 t3) 66 x3) 67 (0 : Int32)) M → ((q.1 65).toInt ≤ t3.toInt ∧ t3.toInt ≤ (q.1 36).toInt) → (x3.toInt = -1 → (q.1 66).toInt = -1 ∧ (q.1 65).toInt + 4 ≤ t3.toInt ∧ ¬ (a9.toInt = 1 ∧ b9.toInt = 1)) → (0 ≤ a9.toInt ∧ a9.toInt ≤ 1 ∧ 0 ≤ b9.toInt ∧ b9.toInt ≤ 1) → hG (3 + j) cd_201 135 [(9, .int b9), (8, .int a9), (7, .int nn), (6, .int tl), (5, .int (q.1 65)), (0, .ref 68), (1, .int dp), (2, .long f), (4, .int c)] [] M (fun r M' => ∃ (v n t x y : Int32) (b : Nat → Int64) (g : Nat → Int32), r = some (.int v) ∧ ((q.1 65).toInt ≤ t.toInt ∧ t.toInt ≤ (q.1 36).toInt) ∧ ((q.1 29).toInt ≤ n.toInt ∧ n.toInt - (q.1 29).toInt ≤ t.toInt - (q.1 65).toInt) ∧ (x.toInt = -1 → (q.1 66).toInt = -1 ∧ 1 ≤ j ∧ wP b n.toInt (f.toInt + 2 ^ (j - 1)) ∧ 1 ≤ n.toInt) ∧ Rm X (sA (sB (sF (sF (sF (sF q 29 n) 65 t) 66 x) 67 y) 92 b) 93 g) M') := by
            intro tl nn a9 b9 t3 x3 M hM tb3 xb3 ab3
            refine hs (f := dm_ald 136 0) rfl rfl ?_
            refine r_geti x3 rfl hM rfl rfl ?_
            refine hs (f := dm_push 140 (.int (-1))) rfl rfl ?_
            refine g_ic_eq (n := 143) (tt := 145) rfl (fun h7 => ?_) (fun h7 => ?_)
            · skip
              have h7 : x3.toInt = (-1) := h7
              refine hs (f := dm_push 148 (.long 1152921504606846976)) rfl rfl ?_
              refine hs (f := dm_ild 149 1) rfl rfl ?_
              refine hs (f := dm_push 150 (.int 1)) rfl rfl ?_
              have e8 : (dp + (1 : Int32)).toInt = dp.toInt + 1 := by have w := i_addc (x := dp) (y := (1 : Int32)) 1 rfl (by omega) (by omega); omega
              refine hs (f := dm_ii 151 (fun x y => x + y)) (st' := [.int (dp + (1 : Int32)), .long 1152921504606846976]) rfl rfl ?_
              refine hs (f := dm_li 152 (fun x y => x >>> (y.toInt64 &&& 63))) (st' := [.long ((1152921504606846976 : Int64) >>> ((dp + (1 : Int32)).toInt64 &&& 63))]) rfl rfl ?_
              refine hs (f := dm_lst 154 10) (lv' := [(10, .long ((1152921504606846976 : Int64) >>> ((dp + (1 : Int32)).toInt64 &&& 63))), (9, .int b9), (8, .int a9), (7, .int nn), (6, .int tl), (5, .int (q.1 65)), (0, .ref 68), (1, .int dp), (2, .long f), (4, .int c)]) rfl rfl ?_
              generalize g9 : (1152921504606846976 : Int64) >>> ((dp + (1 : Int32)).toInt64 &&& 63) = hf9
              have hh : (2 ≤ j → 2 * hf9.toInt = 2 ^ (j - 1) ∧ hf9.toInt = 2 ^ (j - 1 - 1)) ∧ (j = 1 → hf9.toInt = 0) := by rw [← g9]; exact half_j d0 dj (by omega)
              have hhp := p2_pos (j - 1 - 1)
              have hfx := hf (by omega)
              have hfb : 0 ≤ hf9.toInt ∧ f.toInt + hf9.toInt ≤ 1152921504606846976 := by
                by_cases z : 2 ≤ j
                · have z2 := hh.1 z; omega
                · have z2 := hh.2 (by omega); omega
              have j266 : ∀ (l ln r rn : Int32) (n5 t5 x5 y5 : Int32) (b5 : Nat → Int64) (g5 : Nat → Int32) (M : dm_Mem), Rm X (sA (sB (sF (sF (sF (sF q 29 n5) 65 t5) 66 x5) 67 y5) 92 b5) 93 g5) M → ((q.1 65).toInt ≤ t5.toInt ∧ t5.toInt ≤ (q.1 36).toInt) → ((q.1 29).toInt ≤ n5.toInt ∧ n5.toInt - (q.1 29).toInt ≤ t5.toInt - (q.1 65).toInt) → (x5.toInt = -1 → (q.1 66).toInt = -1 ∧ wP b5 n5.toInt (f.toInt + 2 ^ (j - 1)) ∧ 1 ≤ n5.toInt) → hG (3 + j) cd_201 266 [(15, .int rn), (14, .int r), (13, .int ln), (12, .int l), (10, .long hf9), (9, .int b9), (8, .int a9), (7, .int nn), (6, .int tl), (5, .int (q.1 65)), (0, .ref 68), (1, .int dp), (2, .long f), (4, .int c)] [] M (fun r M' => ∃ (v n t x y : Int32) (b : Nat → Int64) (g : Nat → Int32), r = some (.int v) ∧ ((q.1 65).toInt ≤ t.toInt ∧ t.toInt ≤ (q.1 36).toInt) ∧ ((q.1 29).toInt ≤ n.toInt ∧ n.toInt - (q.1 29).toInt ≤ t.toInt - (q.1 65).toInt) ∧ (x.toInt = -1 → (q.1 66).toInt = -1 ∧ 1 ≤ j ∧ wP b n.toInt (f.toInt + 2 ^ (j - 1)) ∧ 1 ≤ n.toInt) ∧ Rm X (sA (sB (sF (sF (sF (sF q 29 n) 65 t) 66 x) 67 y) 92 b) 93 g) M') := by
                intro l ln r rn n5 t5 x5 y5 b5 g5 M hM c5 c6 c7
                refine hs (f := dm_ald 267 0) rfl rfl ?_
                refine hs (f := dm_push 268 (.int 0)) rfl rfl ?_
                refine r_putb rfl hM rfl isB_0 (fun M10 hM10 => ?_)
                replace hM10 := rm_to (q' := (sA (sB (sF (sF (sF (sF q 29 n5) 65 t5) 66 x5) 67 (0 : Int32)) 92 b5) 93 g5)) hM10 (show sF (sA (sB (sF (sF (sF (sF q 29 n5) 65 t5) 66 x5) 67 y5) 92 b5) 93 g5) 67 (0 : Int32) = (sA (sB (sF (sF (sF (sF q 29 n5) 65 t5) 66 x5) 67 (0 : Int32)) 92 b5) 93 g5) from (congrArg (fun z => (sA (sB z 92 b5) 93 g5)) (show sF (sF (sF (sF (sF q 29 n5) 65 t5) 66 x5) 67 y5) 67 (0 : Int32) = (sF (sF (sF (sF q 29 n5) 65 t5) 66 x5) 67 (0 : Int32)) from sF_sF)))
                refine hs (f := dm_ald 272 0) rfl rfl ?_
                refine r_geti x5 rfl hM10 rfl rfl ?_
                refine hs (f := dm_push 276 (.int (-1))) rfl rfl ?_
                refine g_ic_eq (n := 279) (tt := 281) rfl (fun h11 => ?_) (fun h11 => ?_)
                · skip
                  have h11 : x5.toInt = (-1) := h11
                  have j378 : ∀ (bd x6 : Int32) (M : dm_Mem), Rm X (sA (sB (sF (sF (sF (sF q 29 n5) 65 t5) 66 x6) 67 (0 : Int32)) 92 b5) 93 g5) M → (x6.toInt = -1 → x5.toInt = -1) → hG (3 + j) cd_201 378 [(16, .int bd), (15, .int rn), (14, .int r), (13, .int ln), (12, .int l), (10, .long hf9), (9, .int b9), (8, .int a9), (7, .int nn), (6, .int tl), (5, .int (q.1 65)), (0, .ref 68), (1, .int dp), (2, .long f), (4, .int c)] [] M (fun r M' => ∃ (v n t x y : Int32) (b : Nat → Int64) (g : Nat → Int32), r = some (.int v) ∧ ((q.1 65).toInt ≤ t.toInt ∧ t.toInt ≤ (q.1 36).toInt) ∧ ((q.1 29).toInt ≤ n.toInt ∧ n.toInt - (q.1 29).toInt ≤ t.toInt - (q.1 65).toInt) ∧ (x.toInt = -1 → (q.1 66).toInt = -1 ∧ 1 ≤ j ∧ wP b n.toInt (f.toInt + 2 ^ (j - 1)) ∧ 1 ≤ n.toInt) ∧ Rm X (sA (sB (sF (sF (sF (sF q 29 n) 65 t) 66 x) 67 y) 92 b) 93 g) M') := by
                    intro bd x6 M hM c8
                    refine hs (f := dm_ild 380 7) rfl rfl ?_
                    refine hs (f := dm_ild 382 12) rfl rfl ?_
                    refine hs (f := dm_ild 384 14) rfl rfl ?_
                    refine g_ic_ge (n := 387) (tt := 392) rfl (fun h12 => ?_) (fun h12 => ?_)
                    · skip
                      clear h12
                      refine hs (f := dm_ild 394 14) rfl rfl ?_
                      refine hs (f := dm_ii 395 (fun x y => x + y)) (st' := [.int (nn + r)]) rfl rfl ?_
                      exact hr (f := dm_ret .int) rfl rfl (⟨_, n5, t5, x6, (0 : Int32), b5, g5, rfl, by omega, by omega, (fun z => by have z2 := c7 (by omega); exact ⟨z2.1, by omega, z2.2.1, z2.2.2⟩), hM⟩)
                    · skip
                      clear h12
                      refine hs (f := dm_ild 389 12) rfl rfl ?_
                      refine hs (f := dm_goto 394) rfl rfl ?_
                      refine hs (f := dm_ii 395 (fun x y => x + y)) (st' := [.int (nn + l)]) rfl rfl ?_
                      exact hr (f := dm_ret .int) rfl rfl (⟨_, n5, t5, x6, (0 : Int32), b5, g5, rfl, by omega, by omega, (fun z => by have z2 := c7 (by omega); exact ⟨z2.1, by omega, z2.2.1, z2.2.2⟩), hM⟩)
                  have j365 : ∀ (bd be : Int32) (M : dm_Mem), Rm X (sA (sB (sF (sF (sF (sF q 29 n5) 65 t5) 66 x5) 67 (0 : Int32)) 92 b5) 93 g5) M → hG (3 + j) cd_201 365 [(16, .int bd), (15, .int rn), (14, .int r), (13, .int ln), (12, .int l), (10, .long hf9), (9, .int b9), (8, .int a9), (7, .int nn), (6, .int tl), (5, .int (q.1 65)), (0, .ref 68), (1, .int dp), (2, .long f), (4, .int c)] [.int be] M (fun r M' => ∃ (v n t x y : Int32) (b : Nat → Int64) (g : Nat → Int32), r = some (.int v) ∧ ((q.1 65).toInt ≤ t.toInt ∧ t.toInt ≤ (q.1 36).toInt) ∧ ((q.1 29).toInt ≤ n.toInt ∧ n.toInt - (q.1 29).toInt ≤ t.toInt - (q.1 65).toInt) ∧ (x.toInt = -1 → (q.1 66).toInt = -1 ∧ 1 ≤ j ∧ wP b n.toInt (f.toInt + 2 ^ (j - 1)) ∧ 1 ≤ n.toInt) ∧ Rm X (sA (sB (sF (sF (sF (sF q 29 n) 65 t) 66 x) 67 y) 92 b) 93 g) M') := by
                    intro bd be M hM
                    refine hs (f := dm_ist 367 16) (lv' := [(16, .int be), (15, .int rn), (14, .int r), (13, .int ln), (12, .int l), (10, .long hf9), (9, .int b9), (8, .int a9), (7, .int nn), (6, .int tl), (5, .int (q.1 65)), (0, .ref 68), (1, .int dp), (2, .long f), (4, .int c)]) rfl rfl ?_
                    refine hs (f := dm_ild 369 16) rfl rfl ?_
                    refine g_if_eq (n := 372) (tt := 378) rfl (fun h13 => ?_) (fun h13 => ?_)
                    · skip
                      clear h13
                      exact j378 be x5 _ hM (by intro z; omega)
                    · skip
                      clear h13
                      refine hs (f := dm_ald 373 0) rfl rfl ?_
                      refine hs (f := dm_ild 375 5) rfl rfl ?_
                      refine r_inv rfl hM rfl (as := [.ref 68, .int (q.1 65)]) rfl (Nat.le_of_ble_eq_true rfl) (hT_mono (by omega) (r_197x x5 (q.1 65) hM rfl) (fun r1 M14 w => ?_))
                      obtain ⟨rfl, xu15, pu15, nu15, hM14⟩ := w
                      have piu15 : x5.toInt = -1 → xu15.toInt = (q.1 65).toInt := fun z => by rw [pu15 z]
                      have niu15 : ¬ x5.toInt = -1 → xu15.toInt = x5.toInt := fun z => by rw [nu15 z]
                      replace hM14 := rm_to (q' := (sA (sB (sF (sF (sF (sF q 29 n5) 65 t5) 66 xu15) 67 (0 : Int32)) 92 b5) 93 g5)) hM14 (show sF (sA (sB (sF (sF (sF (sF q 29 n5) 65 t5) 66 x5) 67 (0 : Int32)) 92 b5) 93 g5) 66 xu15 = (sA (sB (sF (sF (sF (sF q 29 n5) 65 t5) 66 xu15) 67 (0 : Int32)) 92 b5) 93 g5) from (congrArg (fun z => (sA (sB z 92 b5) 93 g5)) (show sF (sF (sF (sF (sF q 29 n5) 65 t5) 66 x5) 67 (0 : Int32)) 66 xu15 = (sF (sF (sF (sF q 29 n5) 65 t5) 66 xu15) 67 (0 : Int32)) from Eq.trans (show sF (sF (sF (sF (sF q 29 n5) 65 t5) 66 x5) 67 (0 : Int32)) 66 xu15 = sF (sF (sF (sF (sF q 29 n5) 65 t5) 66 x5) 66 xu15) 67 (0 : Int32) from sF_cm (by decide)) (congrArg (fun z => sF z 67 (0 : Int32)) (show sF (sF (sF (sF q 29 n5) 65 t5) 66 x5) 66 xu15 = (sF (sF (sF q 29 n5) 65 t5) 66 xu15) from sF_sF)))))
                      exact j378 be xu15 _ hM14 (by intro z; omega)
                  have j323 : ∀ (bd : Int32) (M : dm_Mem), Rm X (sA (sB (sF (sF (sF (sF q 29 n5) 65 t5) 66 x5) 67 (0 : Int32)) 92 b5) 93 g5) M → hG (3 + j) cd_201 323 [(15, .int rn), (14, .int r), (13, .int ln), (12, .int l), (10, .long hf9), (9, .int b9), (8, .int a9), (7, .int nn), (6, .int tl), (5, .int (q.1 65)), (0, .ref 68), (1, .int dp), (2, .long f), (4, .int c)] [.int bd] M (fun r M' => ∃ (v n t x y : Int32) (b : Nat → Int64) (g : Nat → Int32), r = some (.int v) ∧ ((q.1 65).toInt ≤ t.toInt ∧ t.toInt ≤ (q.1 36).toInt) ∧ ((q.1 29).toInt ≤ n.toInt ∧ n.toInt - (q.1 29).toInt ≤ t.toInt - (q.1 65).toInt) ∧ (x.toInt = -1 → (q.1 66).toInt = -1 ∧ 1 ≤ j ∧ wP b n.toInt (f.toInt + 2 ^ (j - 1)) ∧ 1 ≤ n.toInt) ∧ Rm X (sA (sB (sF (sF (sF (sF q 29 n) 65 t) 66 x) 67 y) 92 b) 93 g) M') := by
                    intro bd M hM
                    refine hs (f := dm_ist 325 16) (lv' := [(16, .int bd), (15, .int rn), (14, .int r), (13, .int ln), (12, .int l), (10, .long hf9), (9, .int b9), (8, .int a9), (7, .int nn), (6, .int tl), (5, .int (q.1 65)), (0, .ref 68), (1, .int dp), (2, .long f), (4, .int c)]) rfl rfl ?_
                    refine hs (f := dm_ild 327 16) rfl rfl ?_
                    refine g_if_ne (n := 330) (tt := 360) rfl (fun h16 => ?_) (fun h16 => ?_)
                    · skip
                      clear h16
                      refine hs (f := dm_push 361 (.int 1)) rfl rfl ?_
                      refine hs (f := dm_goto 365) rfl rfl ?_
                      exact j365 bd (1 : Int32) _ hM 
                    · skip
                      clear h16
                      refine hs (f := dm_ild 332 9) rfl rfl ?_
                      refine g_if_ne (n := 335) (tt := 345) rfl (fun h17 => ?_) (fun h17 => ?_)
                      · skip
                        clear h17
                        refine hs (f := dm_ild 347 8) rfl rfl ?_
                        refine g_if_ne (n := 350) (tt := 364) rfl (fun h18 => ?_) (fun h18 => ?_)
                        · skip
                          clear h18
                          refine hs (f := dm_push 365 (.int 0)) rfl rfl ?_
                          exact j365 bd (0 : Int32) _ hM 
                        · skip
                          clear h18
                          refine hs (f := dm_ild 352 15) rfl rfl ?_
                          refine g_if_eq (n := 355) (tt := 364) rfl (fun h19 => ?_) (fun h19 => ?_)
                          · skip
                            clear h19
                            refine hs (f := dm_push 365 (.int 0)) rfl rfl ?_
                            exact j365 bd (0 : Int32) _ hM 
                          · skip
                            clear h19
                            refine hs (f := dm_ild 357 14) rfl rfl ?_
                            refine g_if_ne (n := 360) (tt := 364) rfl (fun h20 => ?_) (fun h20 => ?_)
                            · skip
                              clear h20
                              refine hs (f := dm_push 365 (.int 0)) rfl rfl ?_
                              exact j365 bd (0 : Int32) _ hM 
                            · skip
                              clear h20
                              refine hs (f := dm_push 361 (.int 1)) rfl rfl ?_
                              refine hs (f := dm_goto 365) rfl rfl ?_
                              exact j365 bd (1 : Int32) _ hM 
                      · skip
                        clear h17
                        refine hs (f := dm_ild 337 13) rfl rfl ?_
                        refine g_if_eq (n := 340) (tt := 345) rfl (fun h21 => ?_) (fun h21 => ?_)
                        · skip
                          clear h21
                          refine hs (f := dm_ild 347 8) rfl rfl ?_
                          refine g_if_ne (n := 350) (tt := 364) rfl (fun h22 => ?_) (fun h22 => ?_)
                          · skip
                            clear h22
                            refine hs (f := dm_push 365 (.int 0)) rfl rfl ?_
                            exact j365 bd (0 : Int32) _ hM 
                          · skip
                            clear h22
                            refine hs (f := dm_ild 352 15) rfl rfl ?_
                            refine g_if_eq (n := 355) (tt := 364) rfl (fun h23 => ?_) (fun h23 => ?_)
                            · skip
                              clear h23
                              refine hs (f := dm_push 365 (.int 0)) rfl rfl ?_
                              exact j365 bd (0 : Int32) _ hM 
                            · skip
                              clear h23
                              refine hs (f := dm_ild 357 14) rfl rfl ?_
                              refine g_if_ne (n := 360) (tt := 364) rfl (fun h24 => ?_) (fun h24 => ?_)
                              · skip
                                clear h24
                                refine hs (f := dm_push 365 (.int 0)) rfl rfl ?_
                                exact j365 bd (0 : Int32) _ hM 
                              · skip
                                clear h24
                                refine hs (f := dm_push 361 (.int 1)) rfl rfl ?_
                                refine hs (f := dm_goto 365) rfl rfl ?_
                                exact j365 bd (1 : Int32) _ hM 
                        · skip
                          clear h21
                          refine hs (f := dm_ild 342 12) rfl rfl ?_
                          refine g_if_eq (n := 345) (tt := 360) rfl (fun h25 => ?_) (fun h25 => ?_)
                          · skip
                            clear h25
                            refine hs (f := dm_push 361 (.int 1)) rfl rfl ?_
                            refine hs (f := dm_goto 365) rfl rfl ?_
                            exact j365 bd (1 : Int32) _ hM 
                          · skip
                            clear h25
                            refine hs (f := dm_ild 347 8) rfl rfl ?_
                            refine g_if_ne (n := 350) (tt := 364) rfl (fun h26 => ?_) (fun h26 => ?_)
                            · skip
                              clear h26
                              refine hs (f := dm_push 365 (.int 0)) rfl rfl ?_
                              exact j365 bd (0 : Int32) _ hM 
                            · skip
                              clear h26
                              refine hs (f := dm_ild 352 15) rfl rfl ?_
                              refine g_if_eq (n := 355) (tt := 364) rfl (fun h27 => ?_) (fun h27 => ?_)
                              · skip
                                clear h27
                                refine hs (f := dm_push 365 (.int 0)) rfl rfl ?_
                                exact j365 bd (0 : Int32) _ hM 
                              · skip
                                clear h27
                                refine hs (f := dm_ild 357 14) rfl rfl ?_
                                refine g_if_ne (n := 360) (tt := 364) rfl (fun h28 => ?_) (fun h28 => ?_)
                                · skip
                                  clear h28
                                  refine hs (f := dm_push 365 (.int 0)) rfl rfl ?_
                                  exact j365 bd (0 : Int32) _ hM 
                                · skip
                                  clear h28
                                  refine hs (f := dm_push 361 (.int 1)) rfl rfl ?_
                                  refine hs (f := dm_goto 365) rfl rfl ?_
                                  exact j365 bd (1 : Int32) _ hM 
                  refine hs (f := dm_ild 283 12) rfl rfl ?_
                  refine g_if_le (n := 286) (tt := 291) rfl (fun h29 => ?_) (fun h29 => ?_)
                  · skip
                    clear h29
                    refine hs (f := dm_ild 293 13) rfl rfl ?_
                    refine g_if_eq (n := 296) (tt := 308) rfl (fun h30 => ?_) (fun h30 => ?_)
                    · skip
                      clear h30
                      refine hs (f := dm_ild 310 6) rfl rfl ?_
                      refine g_if_eq (n := 313) (tt := 322) rfl (fun h31 => ?_) (fun h31 => ?_)
                      · skip
                        clear h31
                        refine hs (f := dm_push 323 (.int 0)) rfl rfl ?_
                        exact j323 (0 : Int32) _ hM10 
                      · skip
                        clear h31
                        refine hs (f := dm_ild 315 7) rfl rfl ?_
                        refine g_if_ne (n := 318) (tt := 322) rfl (fun h32 => ?_) (fun h32 => ?_)
                        · skip
                          clear h32
                          refine hs (f := dm_push 323 (.int 0)) rfl rfl ?_
                          exact j323 (0 : Int32) _ hM10 
                        · skip
                          clear h32
                          refine hs (f := dm_push 319 (.int 1)) rfl rfl ?_
                          refine hs (f := dm_goto 323) rfl rfl ?_
                          exact j323 (1 : Int32) _ hM10 
                    · skip
                      clear h30
                      refine hs (f := dm_ild 298 15) rfl rfl ?_
                      refine g_if_eq (n := 301) (tt := 308) rfl (fun h33 => ?_) (fun h33 => ?_)
                      · skip
                        clear h33
                        refine hs (f := dm_ild 310 6) rfl rfl ?_
                        refine g_if_eq (n := 313) (tt := 322) rfl (fun h34 => ?_) (fun h34 => ?_)
                        · skip
                          clear h34
                          refine hs (f := dm_push 323 (.int 0)) rfl rfl ?_
                          exact j323 (0 : Int32) _ hM10 
                        · skip
                          clear h34
                          refine hs (f := dm_ild 315 7) rfl rfl ?_
                          refine g_if_ne (n := 318) (tt := 322) rfl (fun h35 => ?_) (fun h35 => ?_)
                          · skip
                            clear h35
                            refine hs (f := dm_push 323 (.int 0)) rfl rfl ?_
                            exact j323 (0 : Int32) _ hM10 
                          · skip
                            clear h35
                            refine hs (f := dm_push 319 (.int 1)) rfl rfl ?_
                            refine hs (f := dm_goto 323) rfl rfl ?_
                            exact j323 (1 : Int32) _ hM10 
                      · skip
                        clear h33
                        refine hs (f := dm_ild 303 12) rfl rfl ?_
                        refine hs (f := dm_ild 305 14) rfl rfl ?_
                        refine g_ic_eq (n := 308) (tt := 318) rfl (fun h36 => ?_) (fun h36 => ?_)
                        · skip
                          clear h36
                          refine hs (f := dm_push 319 (.int 1)) rfl rfl ?_
                          refine hs (f := dm_goto 323) rfl rfl ?_
                          exact j323 (1 : Int32) _ hM10 
                        · skip
                          clear h36
                          refine hs (f := dm_ild 310 6) rfl rfl ?_
                          refine g_if_eq (n := 313) (tt := 322) rfl (fun h37 => ?_) (fun h37 => ?_)
                          · skip
                            clear h37
                            refine hs (f := dm_push 323 (.int 0)) rfl rfl ?_
                            exact j323 (0 : Int32) _ hM10 
                          · skip
                            clear h37
                            refine hs (f := dm_ild 315 7) rfl rfl ?_
                            refine g_if_ne (n := 318) (tt := 322) rfl (fun h38 => ?_) (fun h38 => ?_)
                            · skip
                              clear h38
                              refine hs (f := dm_push 323 (.int 0)) rfl rfl ?_
                              exact j323 (0 : Int32) _ hM10 
                            · skip
                              clear h38
                              refine hs (f := dm_push 319 (.int 1)) rfl rfl ?_
                              refine hs (f := dm_goto 323) rfl rfl ?_
                              exact j323 (1 : Int32) _ hM10 
                  · skip
                    clear h29
                    refine hs (f := dm_ild 288 14) rfl rfl ?_
                    refine g_if_gt (n := 291) (tt := 318) rfl (fun h39 => ?_) (fun h39 => ?_)
                    · skip
                      clear h39
                      refine hs (f := dm_push 319 (.int 1)) rfl rfl ?_
                      refine hs (f := dm_goto 323) rfl rfl ?_
                      exact j323 (1 : Int32) _ hM10 
                    · skip
                      clear h39
                      refine hs (f := dm_ild 293 13) rfl rfl ?_
                      refine g_if_eq (n := 296) (tt := 308) rfl (fun h40 => ?_) (fun h40 => ?_)
                      · skip
                        clear h40
                        refine hs (f := dm_ild 310 6) rfl rfl ?_
                        refine g_if_eq (n := 313) (tt := 322) rfl (fun h41 => ?_) (fun h41 => ?_)
                        · skip
                          clear h41
                          refine hs (f := dm_push 323 (.int 0)) rfl rfl ?_
                          exact j323 (0 : Int32) _ hM10 
                        · skip
                          clear h41
                          refine hs (f := dm_ild 315 7) rfl rfl ?_
                          refine g_if_ne (n := 318) (tt := 322) rfl (fun h42 => ?_) (fun h42 => ?_)
                          · skip
                            clear h42
                            refine hs (f := dm_push 323 (.int 0)) rfl rfl ?_
                            exact j323 (0 : Int32) _ hM10 
                          · skip
                            clear h42
                            refine hs (f := dm_push 319 (.int 1)) rfl rfl ?_
                            refine hs (f := dm_goto 323) rfl rfl ?_
                            exact j323 (1 : Int32) _ hM10 
                      · skip
                        clear h40
                        refine hs (f := dm_ild 298 15) rfl rfl ?_
                        refine g_if_eq (n := 301) (tt := 308) rfl (fun h43 => ?_) (fun h43 => ?_)
                        · skip
                          clear h43
                          refine hs (f := dm_ild 310 6) rfl rfl ?_
                          refine g_if_eq (n := 313) (tt := 322) rfl (fun h44 => ?_) (fun h44 => ?_)
                          · skip
                            clear h44
                            refine hs (f := dm_push 323 (.int 0)) rfl rfl ?_
                            exact j323 (0 : Int32) _ hM10 
                          · skip
                            clear h44
                            refine hs (f := dm_ild 315 7) rfl rfl ?_
                            refine g_if_ne (n := 318) (tt := 322) rfl (fun h45 => ?_) (fun h45 => ?_)
                            · skip
                              clear h45
                              refine hs (f := dm_push 323 (.int 0)) rfl rfl ?_
                              exact j323 (0 : Int32) _ hM10 
                            · skip
                              clear h45
                              refine hs (f := dm_push 319 (.int 1)) rfl rfl ?_
                              refine hs (f := dm_goto 323) rfl rfl ?_
                              exact j323 (1 : Int32) _ hM10 
                        · skip
                          clear h43
                          refine hs (f := dm_ild 303 12) rfl rfl ?_
                          refine hs (f := dm_ild 305 14) rfl rfl ?_
                          refine g_ic_eq (n := 308) (tt := 318) rfl (fun h46 => ?_) (fun h46 => ?_)
                          · skip
                            clear h46
                            refine hs (f := dm_push 319 (.int 1)) rfl rfl ?_
                            refine hs (f := dm_goto 323) rfl rfl ?_
                            exact j323 (1 : Int32) _ hM10 
                          · skip
                            clear h46
                            refine hs (f := dm_ild 310 6) rfl rfl ?_
                            refine g_if_eq (n := 313) (tt := 322) rfl (fun h47 => ?_) (fun h47 => ?_)
                            · skip
                              clear h47
                              refine hs (f := dm_push 323 (.int 0)) rfl rfl ?_
                              exact j323 (0 : Int32) _ hM10 
                            · skip
                              clear h47
                              refine hs (f := dm_ild 315 7) rfl rfl ?_
                              refine g_if_ne (n := 318) (tt := 322) rfl (fun h48 => ?_) (fun h48 => ?_)
                              · skip
                                clear h48
                                refine hs (f := dm_push 323 (.int 0)) rfl rfl ?_
                                exact j323 (0 : Int32) _ hM10 
                              · skip
                                clear h48
                                refine hs (f := dm_push 319 (.int 1)) rfl rfl ?_
                                refine hs (f := dm_goto 323) rfl rfl ?_
                                exact j323 (1 : Int32) _ hM10 
                · skip
                  have h11 : ¬ x5.toInt = (-1) := h11
                  refine hs (f := dm_push 280 (.int 0)) rfl rfl ?_
                  exact hr (f := dm_ret .int) rfl rfl (⟨_, n5, t5, x5, (0 : Int32), b5, g5, rfl, by omega, by omega, (fun z => absurd z (by omega)), hM10⟩)
              have j203 : ∀ (l ln : Int32) (n4 t4 x4 y4 : Int32) (b4 : Nat → Int64) (g4 : Nat → Int32) (M : dm_Mem), Rm X (sA (sB (sF (sF (sF (sF q 29 n4) 65 t4) 66 x4) 67 y4) 92 b4) 93 g4) M → ((q.1 65).toInt ≤ t4.toInt ∧ t4.toInt ≤ (q.1 36).toInt) → ((q.1 29).toInt ≤ n4.toInt ∧ n4.toInt - (q.1 29).toInt ≤ t4.toInt - (q.1 65).toInt - 3) → (x4.toInt = -1 → (q.1 66).toInt = -1 ∧ (2 ≤ j → wP b4 n4.toInt (f.toInt + hf9.toInt)) ∧ 1 ≤ n4.toInt) → (j = 1 → ¬ b9.toInt = 0 ∨ ¬ x4.toInt = -1) → hG (3 + j) cd_201 203 [(13, .int ln), (12, .int l), (10, .long hf9), (9, .int b9), (8, .int a9), (7, .int nn), (6, .int tl), (5, .int (q.1 65)), (0, .ref 68), (1, .int dp), (2, .long f), (4, .int c)] [] M (fun r M' => ∃ (v n t x y : Int32) (b : Nat → Int64) (g : Nat → Int32), r = some (.int v) ∧ ((q.1 65).toInt ≤ t.toInt ∧ t.toInt ≤ (q.1 36).toInt) ∧ ((q.1 29).toInt ≤ n.toInt ∧ n.toInt - (q.1 29).toInt ≤ t.toInt - (q.1 65).toInt) ∧ (x.toInt = -1 → (q.1 66).toInt = -1 ∧ 1 ≤ j ∧ wP b n.toInt (f.toInt + 2 ^ (j - 1)) ∧ 1 ≤ n.toInt) ∧ Rm X (sA (sB (sF (sF (sF (sF q 29 n) 65 t) 66 x) 67 y) 92 b) 93 g) M') := by
                intro l ln n4 t4 x4 y4 b4 g4 M hM c1 c2 c3 c4
                refine hs (f := dm_push 204 (.int 0)) rfl rfl ?_
                refine hs (f := dm_ist 206 14) (lv' := [(14, .int 0), (13, .int ln), (12, .int l), (10, .long hf9), (9, .int b9), (8, .int a9), (7, .int nn), (6, .int tl), (5, .int (q.1 65)), (0, .ref 68), (1, .int dp), (2, .long f), (4, .int c)]) rfl rfl ?_
                refine hs (f := dm_push 207 (.int 1)) rfl rfl ?_
                refine hs (f := dm_ist 209 15) (lv' := [(15, .int 1), (14, .int 0), (13, .int ln), (12, .int l), (10, .long hf9), (9, .int b9), (8, .int a9), (7, .int nn), (6, .int tl), (5, .int (q.1 65)), (0, .ref 68), (1, .int dp), (2, .long f), (4, .int c)]) rfl rfl ?_
                refine hs (f := dm_ild 211 8) rfl rfl ?_
                refine g_if_ne (n := 214) (tt := 241) rfl (fun h49 => ?_) (fun h49 => ?_)
                · skip
                  have h49 : ¬ a9.toInt = 0 := h49
                  refine hs (f := dm_ald 242 0) rfl rfl ?_
                  refine r_geti x4 rfl hM rfl rfl ?_
                  refine hs (f := dm_push 246 (.int (-1))) rfl rfl ?_
                  refine g_ic_ne (n := 249) (tt := 266) rfl (fun h50 => ?_) (fun h50 => ?_)
                  · skip
                    have h50 : ¬ x4.toInt = (-1) := h50
                    exact j266 l ln (0 : Int32) (1 : Int32) n4 t4 x4 y4 b4 g4 _ hM (by omega) (by omega) (fun z => absurd z (by omega))
                  · skip
                    have h50 : x4.toInt = (-1) := h50
                    refine hs (f := dm_ald 250 0) rfl rfl ?_
                    refine hs (f := dm_ald 251 0) rfl rfl ?_
                    refine hs (f := dm_lld 252 2) rfl rfl ?_
                    refine hs (f := dm_lld 254 10) rfl rfl ?_
                    have e51 : (f + hf9).toInt = f.toInt + hf9.toInt := by have w := j_add (x := f) (y := hf9) (by omega) (by omega); omega
                    refine hs (f := dm_ll 255 (fun x y => x + y)) (st' := [.long (f + hf9), .ref 68, .ref 68]) rfl rfl ?_
                    refine hs (f := dm_ild 257 4) rfl rfl ?_
                    refine hs (f := dm_ild 259 7) rfl rfl ?_
                    refine hs (f := dm_ii 260 (fun x y => x + y)) (st' := [.int (c + nn), .long (f + hf9), .ref 68, .ref 68]) rfl rfl ?_
                    refine r_inv rfl hM rfl (as := [.ref 68, .long (f + hf9), .int (c + nn)]) rfl (Nat.le_of_ble_eq_true rfl) (hT_mono (by omega) (r_202x n4 b4 (f + hf9) (c + nn) hM rfl rfl (by omega)) (fun r1 M52 w => ?_))
                    obtain ⟨nu53, bu53, gu53, rfl, hnu53, hM52⟩ := w
                    have nbu53 : n4.toInt ≤ nu53.toInt ∧ nu53.toInt ≤ n4.toInt + 1 ∧ 1 ≤ nu53.toInt := by
                      rcases hnu53 with ⟨z, z2, _⟩ | ⟨z, _⟩
                      · rw [z]; omega
                      · omega
                    have wpu53 : ∀ P P' : Int, wP b4 n4.toInt P → P ≤ (f + hf9).toInt → (f + hf9).toInt < P' → (n4.toInt = 0 → (f + hf9).toInt = 0) → wP bu53 nu53.toInt P' := by
                      intro P P' h1 h2 h3 h4
                      rcases hnu53 with ⟨z, z2, z3⟩ | ⟨z, z2⟩
                      · rw [z, z3]; exact wP_up h1 (by omega)
                      · rw [z, z2]; exact wP_lay h1 (Int.toNat_of_nonneg (by omega)).symm h2 h3 h4
                    replace hM52 := rm_to (q' := (sA (sB (sF (sF (sF (sF q 29 n4) 65 t4) 66 x4) 67 y4) 92 bu53) 93 gu53)) hM52 (Eq.trans (congrArg (fun z => sA z 93 gu53) (show sB (sA (sB (sF (sF (sF (sF q 29 n4) 65 t4) 66 x4) 67 y4) 92 b4) 93 g4) 92 bu53 = (sA (sB (sF (sF (sF (sF q 29 n4) 65 t4) 66 x4) 67 y4) 92 bu53) 93 g4) from (congrArg (fun z => (sA z 93 g4)) (show sB (sB (sF (sF (sF (sF q 29 n4) 65 t4) 66 x4) 67 y4) 92 b4) 92 bu53 = (sB (sF (sF (sF (sF q 29 n4) 65 t4) 66 x4) 67 y4) 92 bu53) from sB_sB)))) (show sA (sA (sB (sF (sF (sF (sF q 29 n4) 65 t4) 66 x4) 67 y4) 92 bu53) 93 g4) 93 gu53 = (sA (sB (sF (sF (sF (sF q 29 n4) 65 t4) 66 x4) 67 y4) 92 bu53) 93 gu53) from (show sA (sA (sB (sF (sF (sF (sF q 29 n4) 65 t4) 66 x4) 67 y4) 92 bu53) 93 g4) 93 gu53 = (sA (sB (sF (sF (sF (sF q 29 n4) 65 t4) 66 x4) 67 y4) 92 bu53) 93 gu53) from sA_sA)))
                    refine r_puti rfl hM52 rfl (fun M54 hM54 => ?_)
                    replace hM54 := rm_to (q' := (sA (sB (sF (sF (sF (sF q 29 nu53) 65 t4) 66 x4) 67 y4) 92 bu53) 93 gu53)) hM54 (show sF (sA (sB (sF (sF (sF (sF q 29 n4) 65 t4) 66 x4) 67 y4) 92 bu53) 93 gu53) 29 nu53 = (sA (sB (sF (sF (sF (sF q 29 nu53) 65 t4) 66 x4) 67 y4) 92 bu53) 93 gu53) from (congrArg (fun z => (sA (sB z 92 bu53) 93 gu53)) (show sF (sF (sF (sF (sF q 29 n4) 65 t4) 66 x4) 67 y4) 29 nu53 = (sF (sF (sF (sF q 29 nu53) 65 t4) 66 x4) 67 y4) from Eq.trans (show sF (sF (sF (sF (sF q 29 n4) 65 t4) 66 x4) 67 y4) 29 nu53 = sF (sF (sF (sF (sF q 29 n4) 65 t4) 66 x4) 29 nu53) 67 y4 from sF_cm (by decide)) (congrArg (fun z => sF z 67 y4) (show sF (sF (sF (sF q 29 n4) 65 t4) 66 x4) 29 nu53 = (sF (sF (sF q 29 nu53) 65 t4) 66 x4) from Eq.trans (show sF (sF (sF (sF q 29 n4) 65 t4) 66 x4) 29 nu53 = sF (sF (sF (sF q 29 n4) 65 t4) 29 nu53) 66 x4 from sF_cm (by decide)) (congrArg (fun z => sF z 66 x4) (show sF (sF (sF q 29 n4) 65 t4) 29 nu53 = (sF (sF q 29 nu53) 65 t4) from Eq.trans (show sF (sF (sF q 29 n4) 65 t4) 29 nu53 = sF (sF (sF q 29 n4) 29 nu53) 65 t4 from sF_cm (by decide)) (congrArg (fun z => sF z 65 t4) (show sF (sF q 29 n4) 29 nu53 = (sF q 29 nu53) from sF_sF)))))))))
                    exact j266 l ln (0 : Int32) (1 : Int32) nu53 t4 x4 y4 bu53 gu53 _ hM54 (by omega) (by omega) (fun z => by have z4 := c4; have z6 := hh.1 (by omega); have z5 := c3 (by omega); exact ⟨z5.1, wpu53 _ _ (z5.2.1 (by omega)) (by omega) (by omega) (fun z7 => absurd z7 (by have z8 := z5.2.2; omega)), by omega⟩)
                · skip
                  have h49 : a9.toInt = 0 := h49
                  refine hs (f := dm_ald 215 0) rfl rfl ?_
                  refine hs (f := dm_ild 216 1) rfl rfl ?_
                  refine hs (f := dm_push 217 (.int 1)) rfl rfl ?_
                  have e55 : (dp + (1 : Int32)).toInt = dp.toInt + 1 := by have w := i_addc (x := dp) (y := (1 : Int32)) 1 rfl (by omega) (by omega); omega
                  refine hs (f := dm_ii 218 (fun x y => x + y)) (st' := [.int (dp + (1 : Int32)), .ref 68]) rfl rfl ?_
                  refine hs (f := dm_lld 219 2) rfl rfl ?_
                  refine hs (f := dm_lld 221 10) rfl rfl ?_
                  have e56 : (f + hf9).toInt = f.toInt + hf9.toInt := by have w := j_add (x := f) (y := hf9) (by omega) (by omega); omega
                  refine hs (f := dm_ll 222 (fun x y => x + y)) (st' := [.long (f + hf9), .int (dp + (1 : Int32)), .ref 68]) rfl rfl ?_
                  refine hs (f := dm_ild 224 4) rfl rfl ?_
                  refine hs (f := dm_ild 226 7) rfl rfl ?_
                  refine hs (f := dm_ii 227 (fun x y => x + y)) (st' := [.int (c + nn), .long (f + hf9), .int (dp + (1 : Int32)), .ref 68]) rfl rfl ?_
                  refine r_inv rfl hM rfl (as := [.ref 68, .int (dp + (1 : Int32)), .long (f + hf9), .int (c + nn)]) rfl (Nat.le_of_ble_eq_true rfl) (hT_mono (by omega) (IH (j - 1) (by omega) _ _ (dp + (1 : Int32)) (f + hf9) (c + nn) t4 x4 (q.1 36) n4 b4 hM rfl rfl rfl rfl rfl (by omega) (by omega) (by omega) (by omega) (fun z => by have z2 := hh.1 (by omega); have z3 := hf (by omega); exact ⟨by omega, by omega⟩) (fun z z2 => ⟨by rw [show (f + hf9).toInt = f.toInt + hf9.toInt by omega]; exact (c3 z).2.1 (by omega), fun z3 => absurd z3 (by have z4 := (c3 z).2.2; omega)⟩)) (fun r1 M57 w => ?_))
                  obtain ⟨vu58, nu58, tu58, xu58, yu58, bu58, gu58, rfl, tbu58, nbu58, xbu58, hM57⟩ := w
                  have xau58 : xu58.toInt = -1 → x4.toInt = -1 ∧ 2 ≤ j ∧ 1 ≤ nu58.toInt := fun z => ⟨(xbu58 z).1, by have z2 := (xbu58 z).2.1; omega, (xbu58 z).2.2.2⟩
                  replace hM57 := rm_to (q' := (sA (sB (sF (sF (sF (sF q 29 nu58) 65 tu58) 66 xu58) 67 yu58) 92 bu58) 93 gu58)) hM57 (Eq.trans (congrArg (fun z => sA z 93 gu58) (Eq.trans (congrArg (fun z => sB z 92 bu58) (Eq.trans (congrArg (fun z => sF z 67 yu58) (Eq.trans (congrArg (fun z => sF z 66 xu58) (Eq.trans (congrArg (fun z => sF z 65 tu58) (show sF (sA (sB (sF (sF (sF (sF q 29 n4) 65 t4) 66 x4) 67 y4) 92 b4) 93 g4) 29 nu58 = (sA (sB (sF (sF (sF (sF q 29 nu58) 65 t4) 66 x4) 67 y4) 92 b4) 93 g4) from (congrArg (fun z => (sA (sB z 92 b4) 93 g4)) (show sF (sF (sF (sF (sF q 29 n4) 65 t4) 66 x4) 67 y4) 29 nu58 = (sF (sF (sF (sF q 29 nu58) 65 t4) 66 x4) 67 y4) from Eq.trans (show sF (sF (sF (sF (sF q 29 n4) 65 t4) 66 x4) 67 y4) 29 nu58 = sF (sF (sF (sF (sF q 29 n4) 65 t4) 66 x4) 29 nu58) 67 y4 from sF_cm (by decide)) (congrArg (fun z => sF z 67 y4) (show sF (sF (sF (sF q 29 n4) 65 t4) 66 x4) 29 nu58 = (sF (sF (sF q 29 nu58) 65 t4) 66 x4) from Eq.trans (show sF (sF (sF (sF q 29 n4) 65 t4) 66 x4) 29 nu58 = sF (sF (sF (sF q 29 n4) 65 t4) 29 nu58) 66 x4 from sF_cm (by decide)) (congrArg (fun z => sF z 66 x4) (show sF (sF (sF q 29 n4) 65 t4) 29 nu58 = (sF (sF q 29 nu58) 65 t4) from Eq.trans (show sF (sF (sF q 29 n4) 65 t4) 29 nu58 = sF (sF (sF q 29 n4) 29 nu58) 65 t4 from sF_cm (by decide)) (congrArg (fun z => sF z 65 t4) (show sF (sF q 29 n4) 29 nu58 = (sF q 29 nu58) from sF_sF)))))))))) (show sF (sA (sB (sF (sF (sF (sF q 29 nu58) 65 t4) 66 x4) 67 y4) 92 b4) 93 g4) 65 tu58 = (sA (sB (sF (sF (sF (sF q 29 nu58) 65 tu58) 66 x4) 67 y4) 92 b4) 93 g4) from (congrArg (fun z => (sA (sB z 92 b4) 93 g4)) (show sF (sF (sF (sF (sF q 29 nu58) 65 t4) 66 x4) 67 y4) 65 tu58 = (sF (sF (sF (sF q 29 nu58) 65 tu58) 66 x4) 67 y4) from Eq.trans (show sF (sF (sF (sF (sF q 29 nu58) 65 t4) 66 x4) 67 y4) 65 tu58 = sF (sF (sF (sF (sF q 29 nu58) 65 t4) 66 x4) 65 tu58) 67 y4 from sF_cm (by decide)) (congrArg (fun z => sF z 67 y4) (show sF (sF (sF (sF q 29 nu58) 65 t4) 66 x4) 65 tu58 = (sF (sF (sF q 29 nu58) 65 tu58) 66 x4) from Eq.trans (show sF (sF (sF (sF q 29 nu58) 65 t4) 66 x4) 65 tu58 = sF (sF (sF (sF q 29 nu58) 65 t4) 65 tu58) 66 x4 from sF_cm (by decide)) (congrArg (fun z => sF z 66 x4) (show sF (sF (sF q 29 nu58) 65 t4) 65 tu58 = (sF (sF q 29 nu58) 65 tu58) from sF_sF))))))))) (show sF (sA (sB (sF (sF (sF (sF q 29 nu58) 65 tu58) 66 x4) 67 y4) 92 b4) 93 g4) 66 xu58 = (sA (sB (sF (sF (sF (sF q 29 nu58) 65 tu58) 66 xu58) 67 y4) 92 b4) 93 g4) from (congrArg (fun z => (sA (sB z 92 b4) 93 g4)) (show sF (sF (sF (sF (sF q 29 nu58) 65 tu58) 66 x4) 67 y4) 66 xu58 = (sF (sF (sF (sF q 29 nu58) 65 tu58) 66 xu58) 67 y4) from Eq.trans (show sF (sF (sF (sF (sF q 29 nu58) 65 tu58) 66 x4) 67 y4) 66 xu58 = sF (sF (sF (sF (sF q 29 nu58) 65 tu58) 66 x4) 66 xu58) 67 y4 from sF_cm (by decide)) (congrArg (fun z => sF z 67 y4) (show sF (sF (sF (sF q 29 nu58) 65 tu58) 66 x4) 66 xu58 = (sF (sF (sF q 29 nu58) 65 tu58) 66 xu58) from sF_sF))))))) (show sF (sA (sB (sF (sF (sF (sF q 29 nu58) 65 tu58) 66 xu58) 67 y4) 92 b4) 93 g4) 67 yu58 = (sA (sB (sF (sF (sF (sF q 29 nu58) 65 tu58) 66 xu58) 67 yu58) 92 b4) 93 g4) from (congrArg (fun z => (sA (sB z 92 b4) 93 g4)) (show sF (sF (sF (sF (sF q 29 nu58) 65 tu58) 66 xu58) 67 y4) 67 yu58 = (sF (sF (sF (sF q 29 nu58) 65 tu58) 66 xu58) 67 yu58) from sF_sF))))) (show sB (sA (sB (sF (sF (sF (sF q 29 nu58) 65 tu58) 66 xu58) 67 yu58) 92 b4) 93 g4) 92 bu58 = (sA (sB (sF (sF (sF (sF q 29 nu58) 65 tu58) 66 xu58) 67 yu58) 92 bu58) 93 g4) from (congrArg (fun z => (sA z 93 g4)) (show sB (sB (sF (sF (sF (sF q 29 nu58) 65 tu58) 66 xu58) 67 yu58) 92 b4) 92 bu58 = (sB (sF (sF (sF (sF q 29 nu58) 65 tu58) 66 xu58) 67 yu58) 92 bu58) from sB_sB))))) (show sA (sA (sB (sF (sF (sF (sF q 29 nu58) 65 tu58) 66 xu58) 67 yu58) 92 bu58) 93 g4) 93 gu58 = (sA (sB (sF (sF (sF (sF q 29 nu58) 65 tu58) 66 xu58) 67 yu58) 92 bu58) 93 gu58) from (show sA (sA (sB (sF (sF (sF (sF q 29 nu58) 65 tu58) 66 xu58) 67 yu58) 92 bu58) 93 g4) 93 gu58 = (sA (sB (sF (sF (sF (sF q 29 nu58) 65 tu58) 66 xu58) 67 yu58) 92 bu58) 93 gu58) from sA_sA)))
                  refine hs (f := dm_ist 232 14) (lv' := [(14, .int vu58), (15, .int 1), (13, .int ln), (12, .int l), (10, .long hf9), (9, .int b9), (8, .int a9), (7, .int nn), (6, .int tl), (5, .int (q.1 65)), (0, .ref 68), (1, .int dp), (2, .long f), (4, .int c)]) rfl rfl ?_
                  refine hs (f := dm_ald 233 0) rfl rfl ?_
                  refine r_getb yu58 rfl hM57 rfl rfl ?_
                  refine hs (f := dm_ist 238 15) (lv' := [(15, .int yu58), (14, .int vu58), (13, .int ln), (12, .int l), (10, .long hf9), (9, .int b9), (8, .int a9), (7, .int nn), (6, .int tl), (5, .int (q.1 65)), (0, .ref 68), (1, .int dp), (2, .long f), (4, .int c)]) rfl rfl ?_
                  refine hs (f := dm_goto 266) rfl rfl ?_
                  exact j266 l ln vu58 yu58 nu58 tu58 xu58 yu58 bu58 gu58 _ hM57 (by omega) (by omega) (fun z => ⟨by have z1 := xau58 z; have z5 := c3 (by omega); exact z5.1, by have z1 := xau58 z; have z2 := hh.1 (by omega); have z3 := (xbu58 z).2.2.1; rw [show (f + hf9).toInt + 2 ^ (j - 1 - 1) = f.toInt + 2 ^ (j - 1) by omega] at z3; exact z3, (xbu58 z).2.2.2⟩)
              refine hs (f := dm_push 155 (.int 0)) rfl rfl ?_
              refine hs (f := dm_ist 157 12) (lv' := [(12, .int 0), (10, .long hf9), (9, .int b9), (8, .int a9), (7, .int nn), (6, .int tl), (5, .int (q.1 65)), (0, .ref 68), (1, .int dp), (2, .long f), (4, .int c)]) rfl rfl ?_
              refine hs (f := dm_push 158 (.int 1)) rfl rfl ?_
              refine hs (f := dm_ist 160 13) (lv' := [(13, .int 1), (12, .int 0), (10, .long hf9), (9, .int b9), (8, .int a9), (7, .int nn), (6, .int tl), (5, .int (q.1 65)), (0, .ref 68), (1, .int dp), (2, .long f), (4, .int c)]) rfl rfl ?_
              refine hs (f := dm_ild 162 9) rfl rfl ?_
              refine g_if_ne (n := 165) (tt := 189) rfl (fun h59 => ?_) (fun h59 => ?_)
              · skip
                have h59 : ¬ b9.toInt = 0 := h59
                refine hs (f := dm_ald 190 0) rfl rfl ?_
                refine hs (f := dm_ald 191 0) rfl rfl ?_
                refine hs (f := dm_lld 192 2) rfl rfl ?_
                refine hs (f := dm_ild 194 4) rfl rfl ?_
                refine hs (f := dm_ild 196 7) rfl rfl ?_
                refine hs (f := dm_ii 197 (fun x y => x + y)) (st' := [.int (c + nn), .long f, .ref 68, .ref 68]) rfl rfl ?_
                refine r_inv rfl hM rfl (as := [.ref 68, .long f, .int (c + nn)]) rfl (Nat.le_of_ble_eq_true rfl) (hT_mono (by omega) (r_202x (q.1 29) (q.2.2.2 92) f (c + nn) hM rfl rfl (by omega)) (fun r1 M60 w => ?_))
                obtain ⟨nu61, bu61, gu61, rfl, hnu61, hM60⟩ := w
                have nbu61 : (q.1 29).toInt ≤ nu61.toInt ∧ nu61.toInt ≤ (q.1 29).toInt + 1 ∧ 1 ≤ nu61.toInt := by
                  rcases hnu61 with ⟨z, z2, _⟩ | ⟨z, _⟩
                  · rw [z]; omega
                  · omega
                have wpu61 : ∀ P P' : Int, wP (q.2.2.2 92) (q.1 29).toInt P → P ≤ f.toInt → f.toInt < P' → ((q.1 29).toInt = 0 → f.toInt = 0) → wP bu61 nu61.toInt P' := by
                  intro P P' h1 h2 h3 h4
                  rcases hnu61 with ⟨z, z2, z3⟩ | ⟨z, z2⟩
                  · rw [z, z3]; exact wP_up h1 (by omega)
                  · rw [z, z2]; exact wP_lay h1 (Int.toNat_of_nonneg (by omega)).symm h2 h3 h4
                replace hM60 := rm_to (q' := (sA (sB (sF (sF (sF q 65 t3) 66 x3) 67 (0 : Int32)) 92 bu61) 93 gu61)) hM60 (Eq.trans (congrArg (fun z => sA z 93 gu61) (show sB (sF (sF (sF q 65 t3) 66 x3) 67 (0 : Int32)) 92 bu61 = (sB (sF (sF (sF q 65 t3) 66 x3) 67 (0 : Int32)) 92 bu61) from (show sB (sF (sF (sF q 65 t3) 66 x3) 67 (0 : Int32)) 92 bu61 = (sB (sF (sF (sF q 65 t3) 66 x3) 67 (0 : Int32)) 92 bu61) from rfl))) (show sA (sB (sF (sF (sF q 65 t3) 66 x3) 67 (0 : Int32)) 92 bu61) 93 gu61 = (sA (sB (sF (sF (sF q 65 t3) 66 x3) 67 (0 : Int32)) 92 bu61) 93 gu61) from (show sA (sB (sF (sF (sF q 65 t3) 66 x3) 67 (0 : Int32)) 92 bu61) 93 gu61 = (sA (sB (sF (sF (sF q 65 t3) 66 x3) 67 (0 : Int32)) 92 bu61) 93 gu61) from rfl)))
                refine r_puti rfl hM60 rfl (fun M62 hM62 => ?_)
                replace hM62 := rm_to (q' := (sA (sB (sF (sF (sF (sF q 29 nu61) 65 t3) 66 x3) 67 (0 : Int32)) 92 bu61) 93 gu61)) hM62 (show sF (sA (sB (sF (sF (sF q 65 t3) 66 x3) 67 (0 : Int32)) 92 bu61) 93 gu61) 29 nu61 = (sA (sB (sF (sF (sF (sF q 29 nu61) 65 t3) 66 x3) 67 (0 : Int32)) 92 bu61) 93 gu61) from (congrArg (fun z => (sA (sB z 92 bu61) 93 gu61)) (show sF (sF (sF (sF q 65 t3) 66 x3) 67 (0 : Int32)) 29 nu61 = (sF (sF (sF (sF q 29 nu61) 65 t3) 66 x3) 67 (0 : Int32)) from Eq.trans (show sF (sF (sF (sF q 65 t3) 66 x3) 67 (0 : Int32)) 29 nu61 = sF (sF (sF (sF q 65 t3) 66 x3) 29 nu61) 67 (0 : Int32) from sF_cm (by decide)) (congrArg (fun z => sF z 67 (0 : Int32)) (show sF (sF (sF q 65 t3) 66 x3) 29 nu61 = (sF (sF (sF q 29 nu61) 65 t3) 66 x3) from Eq.trans (show sF (sF (sF q 65 t3) 66 x3) 29 nu61 = sF (sF (sF q 65 t3) 29 nu61) 66 x3 from sF_cm (by decide)) (congrArg (fun z => sF z 66 x3) (show sF (sF q 65 t3) 29 nu61 = (sF (sF q 29 nu61) 65 t3) from Eq.trans (show sF (sF q 65 t3) 29 nu61 = sF (sF q 29 nu61) 65 t3 from sF_cm (by decide)) (congrArg (fun z => sF z 65 t3) (show sF q 29 nu61 = (sF q 29 nu61) from rfl)))))))))
                exact j203 (0 : Int32) (1 : Int32) nu61 t3 x3 (0 : Int32) bu61 gu61 _ hM62 (by omega) (by omega) (fun z => ⟨by omega, fun z2 => by have z3 := hh.1 z2; exact wpu61 _ _ (hw (by omega) (by omega)).1 (Int.le_refl _) (by omega) (hw (by omega) (by omega)).2, by omega⟩) (fun z => by omega)
              · skip
                have h59 : b9.toInt = 0 := h59
                refine hs (f := dm_ald 166 0) rfl rfl ?_
                refine hs (f := dm_ild 167 1) rfl rfl ?_
                refine hs (f := dm_push 168 (.int 1)) rfl rfl ?_
                have e63 : (dp + (1 : Int32)).toInt = dp.toInt + 1 := by have w := i_addc (x := dp) (y := (1 : Int32)) 1 rfl (by omega) (by omega); omega
                refine hs (f := dm_ii 169 (fun x y => x + y)) (st' := [.int (dp + (1 : Int32)), .ref 68]) rfl rfl ?_
                refine hs (f := dm_lld 170 2) rfl rfl ?_
                refine hs (f := dm_ild 172 4) rfl rfl ?_
                refine hs (f := dm_ild 174 7) rfl rfl ?_
                refine hs (f := dm_ii 175 (fun x y => x + y)) (st' := [.int (c + nn), .long f, .int (dp + (1 : Int32)), .ref 68]) rfl rfl ?_
                refine r_inv rfl hM rfl (as := [.ref 68, .int (dp + (1 : Int32)), .long f, .int (c + nn)]) rfl (Nat.le_of_ble_eq_true rfl) (hT_mono (by omega) (IH (j - 1) (by omega) _ _ (dp + (1 : Int32)) f (c + nn) t3 x3 (q.1 36) (q.1 29) (q.2.2.2 92) hM rfl rfl rfl rfl rfl (by omega) (by omega) (by omega) (by omega) (fun z => by have z2 := hh.1 (by omega); have z3 := hf (by omega); exact ⟨by omega, by omega⟩) (fun z z2 => hw (by omega) (by omega))) (fun r1 M64 w => ?_))
                obtain ⟨vu65, nu65, tu65, xu65, yu65, bu65, gu65, rfl, tbu65, nbu65, xbu65, hM64⟩ := w
                have xau65 : xu65.toInt = -1 → x3.toInt = -1 ∧ 2 ≤ j ∧ 1 ≤ nu65.toInt := fun z => ⟨(xbu65 z).1, by have z2 := (xbu65 z).2.1; omega, (xbu65 z).2.2.2⟩
                replace hM64 := rm_to (q' := (sA (sB (sF (sF (sF (sF q 29 nu65) 65 tu65) 66 xu65) 67 yu65) 92 bu65) 93 gu65)) hM64 (Eq.trans (congrArg (fun z => sA z 93 gu65) (Eq.trans (congrArg (fun z => sB z 92 bu65) (Eq.trans (congrArg (fun z => sF z 67 yu65) (Eq.trans (congrArg (fun z => sF z 66 xu65) (Eq.trans (congrArg (fun z => sF z 65 tu65) (show sF (sF (sF (sF q 65 t3) 66 x3) 67 (0 : Int32)) 29 nu65 = (sF (sF (sF (sF q 29 nu65) 65 t3) 66 x3) 67 (0 : Int32)) from (show sF (sF (sF (sF q 65 t3) 66 x3) 67 (0 : Int32)) 29 nu65 = (sF (sF (sF (sF q 29 nu65) 65 t3) 66 x3) 67 (0 : Int32)) from Eq.trans (show sF (sF (sF (sF q 65 t3) 66 x3) 67 (0 : Int32)) 29 nu65 = sF (sF (sF (sF q 65 t3) 66 x3) 29 nu65) 67 (0 : Int32) from sF_cm (by decide)) (congrArg (fun z => sF z 67 (0 : Int32)) (show sF (sF (sF q 65 t3) 66 x3) 29 nu65 = (sF (sF (sF q 29 nu65) 65 t3) 66 x3) from Eq.trans (show sF (sF (sF q 65 t3) 66 x3) 29 nu65 = sF (sF (sF q 65 t3) 29 nu65) 66 x3 from sF_cm (by decide)) (congrArg (fun z => sF z 66 x3) (show sF (sF q 65 t3) 29 nu65 = (sF (sF q 29 nu65) 65 t3) from Eq.trans (show sF (sF q 65 t3) 29 nu65 = sF (sF q 29 nu65) 65 t3 from sF_cm (by decide)) (congrArg (fun z => sF z 65 t3) (show sF q 29 nu65 = (sF q 29 nu65) from rfl))))))))) (show sF (sF (sF (sF (sF q 29 nu65) 65 t3) 66 x3) 67 (0 : Int32)) 65 tu65 = (sF (sF (sF (sF q 29 nu65) 65 tu65) 66 x3) 67 (0 : Int32)) from (show sF (sF (sF (sF (sF q 29 nu65) 65 t3) 66 x3) 67 (0 : Int32)) 65 tu65 = (sF (sF (sF (sF q 29 nu65) 65 tu65) 66 x3) 67 (0 : Int32)) from Eq.trans (show sF (sF (sF (sF (sF q 29 nu65) 65 t3) 66 x3) 67 (0 : Int32)) 65 tu65 = sF (sF (sF (sF (sF q 29 nu65) 65 t3) 66 x3) 65 tu65) 67 (0 : Int32) from sF_cm (by decide)) (congrArg (fun z => sF z 67 (0 : Int32)) (show sF (sF (sF (sF q 29 nu65) 65 t3) 66 x3) 65 tu65 = (sF (sF (sF q 29 nu65) 65 tu65) 66 x3) from Eq.trans (show sF (sF (sF (sF q 29 nu65) 65 t3) 66 x3) 65 tu65 = sF (sF (sF (sF q 29 nu65) 65 t3) 65 tu65) 66 x3 from sF_cm (by decide)) (congrArg (fun z => sF z 66 x3) (show sF (sF (sF q 29 nu65) 65 t3) 65 tu65 = (sF (sF q 29 nu65) 65 tu65) from sF_sF)))))))) (show sF (sF (sF (sF (sF q 29 nu65) 65 tu65) 66 x3) 67 (0 : Int32)) 66 xu65 = (sF (sF (sF (sF q 29 nu65) 65 tu65) 66 xu65) 67 (0 : Int32)) from (show sF (sF (sF (sF (sF q 29 nu65) 65 tu65) 66 x3) 67 (0 : Int32)) 66 xu65 = (sF (sF (sF (sF q 29 nu65) 65 tu65) 66 xu65) 67 (0 : Int32)) from Eq.trans (show sF (sF (sF (sF (sF q 29 nu65) 65 tu65) 66 x3) 67 (0 : Int32)) 66 xu65 = sF (sF (sF (sF (sF q 29 nu65) 65 tu65) 66 x3) 66 xu65) 67 (0 : Int32) from sF_cm (by decide)) (congrArg (fun z => sF z 67 (0 : Int32)) (show sF (sF (sF (sF q 29 nu65) 65 tu65) 66 x3) 66 xu65 = (sF (sF (sF q 29 nu65) 65 tu65) 66 xu65) from sF_sF)))))) (show sF (sF (sF (sF (sF q 29 nu65) 65 tu65) 66 xu65) 67 (0 : Int32)) 67 yu65 = (sF (sF (sF (sF q 29 nu65) 65 tu65) 66 xu65) 67 yu65) from (show sF (sF (sF (sF (sF q 29 nu65) 65 tu65) 66 xu65) 67 (0 : Int32)) 67 yu65 = (sF (sF (sF (sF q 29 nu65) 65 tu65) 66 xu65) 67 yu65) from sF_sF)))) (show sB (sF (sF (sF (sF q 29 nu65) 65 tu65) 66 xu65) 67 yu65) 92 bu65 = (sB (sF (sF (sF (sF q 29 nu65) 65 tu65) 66 xu65) 67 yu65) 92 bu65) from (show sB (sF (sF (sF (sF q 29 nu65) 65 tu65) 66 xu65) 67 yu65) 92 bu65 = (sB (sF (sF (sF (sF q 29 nu65) 65 tu65) 66 xu65) 67 yu65) 92 bu65) from rfl)))) (show sA (sB (sF (sF (sF (sF q 29 nu65) 65 tu65) 66 xu65) 67 yu65) 92 bu65) 93 gu65 = (sA (sB (sF (sF (sF (sF q 29 nu65) 65 tu65) 66 xu65) 67 yu65) 92 bu65) 93 gu65) from (show sA (sB (sF (sF (sF (sF q 29 nu65) 65 tu65) 66 xu65) 67 yu65) 92 bu65) 93 gu65 = (sA (sB (sF (sF (sF (sF q 29 nu65) 65 tu65) 66 xu65) 67 yu65) 92 bu65) 93 gu65) from rfl)))
                refine hs (f := dm_ist 180 12) (lv' := [(12, .int vu65), (13, .int 1), (10, .long hf9), (9, .int b9), (8, .int a9), (7, .int nn), (6, .int tl), (5, .int (q.1 65)), (0, .ref 68), (1, .int dp), (2, .long f), (4, .int c)]) rfl rfl ?_
                refine hs (f := dm_ald 181 0) rfl rfl ?_
                refine r_getb yu65 rfl hM64 rfl rfl ?_
                refine hs (f := dm_ist 186 13) (lv' := [(13, .int yu65), (12, .int vu65), (10, .long hf9), (9, .int b9), (8, .int a9), (7, .int nn), (6, .int tl), (5, .int (q.1 65)), (0, .ref 68), (1, .int dp), (2, .long f), (4, .int c)]) rfl rfl ?_
                refine hs (f := dm_goto 203) rfl rfl ?_
                exact j203 vu65 yu65 nu65 tu65 xu65 yu65 bu65 gu65 _ hM64 (by omega) (by omega) (fun z => ⟨by omega, fun z2 => by have z3 := (xbu65 z).2.2.1; rw [← (hh.1 z2).2] at z3; exact z3, (xbu65 z).2.2.2⟩) (fun z => by omega)
            · skip
              have h7 : ¬ x3.toInt = (-1) := h7
              refine hs (f := dm_push 144 (.int 0)) rfl rfl ?_
              replace hM := rm_to (q' := (sF (sF (sF (sF q 29 (q.1 29)) 65 t3) 66 x3) 67 (0 : Int32))) hM (Eq.trans (sF_id (q := (sF (sF (sF q 65 t3) 66 x3) 67 (0 : Int32))) (k := 29) (v := (q.1 29)) rfl) (show sF (sF (sF (sF q 65 t3) 66 x3) 67 (0 : Int32)) 29 (q.1 29) = (sF (sF (sF (sF q 29 (q.1 29)) 65 t3) 66 x3) 67 (0 : Int32)) from (show sF (sF (sF (sF q 65 t3) 66 x3) 67 (0 : Int32)) 29 (q.1 29) = (sF (sF (sF (sF q 29 (q.1 29)) 65 t3) 66 x3) 67 (0 : Int32)) from Eq.trans (show sF (sF (sF (sF q 65 t3) 66 x3) 67 (0 : Int32)) 29 (q.1 29) = sF (sF (sF (sF q 65 t3) 66 x3) 29 (q.1 29)) 67 (0 : Int32) from sF_cm (by decide)) (congrArg (fun z => sF z 67 (0 : Int32)) (show sF (sF (sF q 65 t3) 66 x3) 29 (q.1 29) = (sF (sF (sF q 29 (q.1 29)) 65 t3) 66 x3) from Eq.trans (show sF (sF (sF q 65 t3) 66 x3) 29 (q.1 29) = sF (sF (sF q 65 t3) 29 (q.1 29)) 66 x3 from sF_cm (by decide)) (congrArg (fun z => sF z 66 x3) (show sF (sF q 65 t3) 29 (q.1 29) = (sF (sF q 29 (q.1 29)) 65 t3) from Eq.trans (show sF (sF q 65 t3) 29 (q.1 29) = sF (sF q 29 (q.1 29)) 65 t3 from sF_cm (by decide)) (congrArg (fun z => sF z 65 t3) (show sF q 29 (q.1 29) = (sF q 29 (q.1 29)) from rfl)))))))))
              replace hM := rm_to (q' := (sB (sF (sF (sF (sF q 29 (q.1 29)) 65 t3) 66 x3) 67 (0 : Int32)) 92 (q.2.2.2 92))) hM (Eq.trans (sB_id (q := (sF (sF (sF (sF q 29 (q.1 29)) 65 t3) 66 x3) 67 (0 : Int32))) (k := 92) (v := (q.2.2.2 92)) rfl) (show sB (sF (sF (sF (sF q 29 (q.1 29)) 65 t3) 66 x3) 67 (0 : Int32)) 92 (q.2.2.2 92) = (sB (sF (sF (sF (sF q 29 (q.1 29)) 65 t3) 66 x3) 67 (0 : Int32)) 92 (q.2.2.2 92)) from (show sB (sF (sF (sF (sF q 29 (q.1 29)) 65 t3) 66 x3) 67 (0 : Int32)) 92 (q.2.2.2 92) = (sB (sF (sF (sF (sF q 29 (q.1 29)) 65 t3) 66 x3) 67 (0 : Int32)) 92 (q.2.2.2 92)) from rfl)))
              replace hM := rm_to (q' := (sA (sB (sF (sF (sF (sF q 29 (q.1 29)) 65 t3) 66 x3) 67 (0 : Int32)) 92 (q.2.2.2 92)) 93 (q.2.2.1 93))) hM (Eq.trans (sA_id (q := (sB (sF (sF (sF (sF q 29 (q.1 29)) 65 t3) 66 x3) 67 (0 : Int32)) 92 (q.2.2.2 92))) (k := 93) (v := (q.2.2.1 93)) rfl) (show sA (sB (sF (sF (sF (sF q 29 (q.1 29)) 65 t3) 66 x3) 67 (0 : Int32)) 92 (q.2.2.2 92)) 93 (q.2.2.1 93) = (sA (sB (sF (sF (sF (sF q 29 (q.1 29)) 65 t3) 66 x3) 67 (0 : Int32)) 92 (q.2.2.2 92)) 93 (q.2.2.1 93)) from (show sA (sB (sF (sF (sF (sF q 29 (q.1 29)) 65 t3) 66 x3) 67 (0 : Int32)) 92 (q.2.2.2 92)) 93 (q.2.2.1 93) = (sA (sB (sF (sF (sF (sF q 29 (q.1 29)) 65 t3) 66 x3) 67 (0 : Int32)) 92 (q.2.2.2 92)) 93 (q.2.2.1 93)) from rfl)))
              exact hr (f := dm_ret .int) rfl rfl (⟨_, (q.1 29), t3, x3, (0 : Int32), (q.2.2.2 92), (q.2.2.1 93), rfl, by omega, by omega, (fun z => absurd z (by omega)), hM⟩)
          have j99 : ∀ (tl nn t2 x2 : Int32) (M : dm_Mem), Rm X (sF (sF (sF q 65 t2) 66 x2) 67 (0 : Int32)) M → ((q.1 65).toInt ≤ t2.toInt ∧ t2.toInt ≤ (q.1 36).toInt) → (x2.toInt = -1 → (q.1 66).toInt = -1 ∧ (q.1 65).toInt + 2 ≤ t2.toInt) → hG (3 + j) cd_201 99 [(6, .int tl), (5, .int (q.1 65)), (0, .ref 68), (1, .int dp), (2, .long f), (4, .int c)] [.int nn] M (fun r M' => ∃ (v n t x y : Int32) (b : Nat → Int64) (g : Nat → Int32), r = some (.int v) ∧ ((q.1 65).toInt ≤ t.toInt ∧ t.toInt ≤ (q.1 36).toInt) ∧ ((q.1 29).toInt ≤ n.toInt ∧ n.toInt - (q.1 29).toInt ≤ t.toInt - (q.1 65).toInt) ∧ (x.toInt = -1 → (q.1 66).toInt = -1 ∧ 1 ≤ j ∧ wP b n.toInt (f.toInt + 2 ^ (j - 1)) ∧ 1 ≤ n.toInt) ∧ Rm X (sA (sB (sF (sF (sF (sF q 29 n) 65 t) 66 x) 67 y) 92 b) 93 g) M') := by
            intro tl nn t2 x2 M hM tb2 xb2
            refine hs (f := dm_ist 101 7) (lv' := [(7, .int nn), (6, .int tl), (5, .int (q.1 65)), (0, .ref 68), (1, .int dp), (2, .long f), (4, .int c)]) rfl rfl ?_
            refine hs (f := dm_ald 102 0) rfl rfl ?_
            refine r_inv rfl hM rfl (as := [.ref 68]) rfl (Nat.le_of_ble_eq_true rfl) (hT_mono (by omega) (r_198x t2 x2 (q.1 36) hM rfl rfl rfl (by omega)) (fun r1 M66 w => ?_))
            obtain ⟨vu67, tu67, xu67, rfl, vbu67, tbu67, xbu67, vxu67, hM66⟩ := w
            replace hM66 := rm_to (q' := (sF (sF (sF q 65 tu67) 66 xu67) 67 (0 : Int32))) hM66 (Eq.trans (congrArg (fun z => sF z 66 xu67) (show sF (sF (sF (sF q 65 t2) 66 x2) 67 (0 : Int32)) 65 tu67 = (sF (sF (sF q 65 tu67) 66 x2) 67 (0 : Int32)) from (show sF (sF (sF (sF q 65 t2) 66 x2) 67 (0 : Int32)) 65 tu67 = (sF (sF (sF q 65 tu67) 66 x2) 67 (0 : Int32)) from Eq.trans (show sF (sF (sF (sF q 65 t2) 66 x2) 67 (0 : Int32)) 65 tu67 = sF (sF (sF (sF q 65 t2) 66 x2) 65 tu67) 67 (0 : Int32) from sF_cm (by decide)) (congrArg (fun z => sF z 67 (0 : Int32)) (show sF (sF (sF q 65 t2) 66 x2) 65 tu67 = (sF (sF q 65 tu67) 66 x2) from Eq.trans (show sF (sF (sF q 65 t2) 66 x2) 65 tu67 = sF (sF (sF q 65 t2) 65 tu67) 66 x2 from sF_cm (by decide)) (congrArg (fun z => sF z 66 x2) (show sF (sF q 65 t2) 65 tu67 = (sF q 65 tu67) from sF_sF))))))) (show sF (sF (sF (sF q 65 tu67) 66 x2) 67 (0 : Int32)) 66 xu67 = (sF (sF (sF q 65 tu67) 66 xu67) 67 (0 : Int32)) from (show sF (sF (sF (sF q 65 tu67) 66 x2) 67 (0 : Int32)) 66 xu67 = (sF (sF (sF q 65 tu67) 66 xu67) 67 (0 : Int32)) from Eq.trans (show sF (sF (sF (sF q 65 tu67) 66 x2) 67 (0 : Int32)) 66 xu67 = sF (sF (sF (sF q 65 tu67) 66 x2) 66 xu67) 67 (0 : Int32) from sF_cm (by decide)) (congrArg (fun z => sF z 67 (0 : Int32)) (show sF (sF (sF q 65 tu67) 66 x2) 66 xu67 = (sF (sF q 65 tu67) 66 xu67) from sF_sF)))))
            refine hs (f := dm_ist 107 8) (lv' := [(8, .int vu67), (7, .int nn), (6, .int tl), (5, .int (q.1 65)), (0, .ref 68), (1, .int dp), (2, .long f), (4, .int c)]) rfl rfl ?_
            refine hs (f := dm_ald 108 0) rfl rfl ?_
            refine r_inv rfl hM66 rfl (as := [.ref 68]) rfl (Nat.le_of_ble_eq_true rfl) (hT_mono (by omega) (r_198x tu67 xu67 (q.1 36) hM66 rfl rfl rfl (by omega)) (fun r1 M68 w => ?_))
            obtain ⟨vu69, tu69, xu69, rfl, vbu69, tbu69, xbu69, vxu69, hM68⟩ := w
            replace hM68 := rm_to (q' := (sF (sF (sF q 65 tu69) 66 xu69) 67 (0 : Int32))) hM68 (Eq.trans (congrArg (fun z => sF z 66 xu69) (show sF (sF (sF (sF q 65 tu67) 66 xu67) 67 (0 : Int32)) 65 tu69 = (sF (sF (sF q 65 tu69) 66 xu67) 67 (0 : Int32)) from (show sF (sF (sF (sF q 65 tu67) 66 xu67) 67 (0 : Int32)) 65 tu69 = (sF (sF (sF q 65 tu69) 66 xu67) 67 (0 : Int32)) from Eq.trans (show sF (sF (sF (sF q 65 tu67) 66 xu67) 67 (0 : Int32)) 65 tu69 = sF (sF (sF (sF q 65 tu67) 66 xu67) 65 tu69) 67 (0 : Int32) from sF_cm (by decide)) (congrArg (fun z => sF z 67 (0 : Int32)) (show sF (sF (sF q 65 tu67) 66 xu67) 65 tu69 = (sF (sF q 65 tu69) 66 xu67) from Eq.trans (show sF (sF (sF q 65 tu67) 66 xu67) 65 tu69 = sF (sF (sF q 65 tu67) 65 tu69) 66 xu67 from sF_cm (by decide)) (congrArg (fun z => sF z 66 xu67) (show sF (sF q 65 tu67) 65 tu69 = (sF q 65 tu69) from sF_sF))))))) (show sF (sF (sF (sF q 65 tu69) 66 xu67) 67 (0 : Int32)) 66 xu69 = (sF (sF (sF q 65 tu69) 66 xu69) 67 (0 : Int32)) from (show sF (sF (sF (sF q 65 tu69) 66 xu67) 67 (0 : Int32)) 66 xu69 = (sF (sF (sF q 65 tu69) 66 xu69) 67 (0 : Int32)) from Eq.trans (show sF (sF (sF (sF q 65 tu69) 66 xu67) 67 (0 : Int32)) 66 xu69 = sF (sF (sF (sF q 65 tu69) 66 xu67) 66 xu69) 67 (0 : Int32) from sF_cm (by decide)) (congrArg (fun z => sF z 67 (0 : Int32)) (show sF (sF (sF q 65 tu69) 66 xu67) 66 xu69 = (sF (sF q 65 tu69) 66 xu69) from sF_sF)))))
            refine hs (f := dm_ist 113 9) (lv' := [(9, .int vu69), (8, .int vu67), (7, .int nn), (6, .int tl), (5, .int (q.1 65)), (0, .ref 68), (1, .int dp), (2, .long f), (4, .int c)]) rfl rfl ?_
            refine hs (f := dm_ild 115 8) rfl rfl ?_
            refine hs (f := dm_push 116 (.int 1)) rfl rfl ?_
            refine g_ic_ne (n := 119) (tt := 135) rfl (fun h70 => ?_) (fun h70 => ?_)
            · skip
              have h70 : ¬ vu67.toInt = 1 := h70
              exact j135 tl nn vu67 vu69 tu69 xu69 _ hM68 (by omega) (by intro z; omega) (by omega)
            · skip
              have h70 : vu67.toInt = 1 := h70
              refine hs (f := dm_ild 121 9) rfl rfl ?_
              refine hs (f := dm_push 122 (.int 1)) rfl rfl ?_
              refine g_ic_ne (n := 125) (tt := 135) rfl (fun h71 => ?_) (fun h71 => ?_)
              · skip
                have h71 : ¬ vu69.toInt = 1 := h71
                exact j135 tl nn vu67 vu69 tu69 xu69 _ hM68 (by omega) (by intro z; omega) (by omega)
              · skip
                have h71 : vu69.toInt = 1 := h71
                refine hs (f := dm_ald 126 0) rfl rfl ?_
                refine hs (f := dm_ald 127 0) rfl rfl ?_
                refine r_geti tu69 rfl hM68 rfl rfl ?_
                refine hs (f := dm_push 131 (.int 1)) rfl rfl ?_
                have e72 : (tu69 - (1 : Int32)).toInt = tu69.toInt - 1 := by have w := i_subc (x := tu69) (y := (1 : Int32)) 1 rfl (by omega) (by omega); omega
                refine hs (f := dm_ii 132 (fun x y => x - y)) (st' := [.int (tu69 - (1 : Int32)), .ref 68]) rfl rfl ?_
                refine r_inv rfl hM68 rfl (as := [.ref 68, .int (tu69 - (1 : Int32))]) rfl (Nat.le_of_ble_eq_true rfl) (hT_mono (by omega) (r_197x xu69 (tu69 - (1 : Int32)) hM68 rfl) (fun r1 M73 w => ?_))
                obtain ⟨rfl, xu74, pu74, nu74, hM73⟩ := w
                have piu74 : xu69.toInt = -1 → xu74.toInt = tu69.toInt - 1 := fun z => by rw [pu74 z]; exact e72
                have niu74 : ¬ xu69.toInt = -1 → xu74.toInt = xu69.toInt := fun z => by rw [nu74 z]
                replace hM73 := rm_to (q' := (sF (sF (sF q 65 tu69) 66 xu74) 67 (0 : Int32))) hM73 (show sF (sF (sF (sF q 65 tu69) 66 xu69) 67 (0 : Int32)) 66 xu74 = (sF (sF (sF q 65 tu69) 66 xu74) 67 (0 : Int32)) from (show sF (sF (sF (sF q 65 tu69) 66 xu69) 67 (0 : Int32)) 66 xu74 = (sF (sF (sF q 65 tu69) 66 xu74) 67 (0 : Int32)) from Eq.trans (show sF (sF (sF (sF q 65 tu69) 66 xu69) 67 (0 : Int32)) 66 xu74 = sF (sF (sF (sF q 65 tu69) 66 xu69) 66 xu74) 67 (0 : Int32) from sF_cm (by decide)) (congrArg (fun z => sF z 67 (0 : Int32)) (show sF (sF (sF q 65 tu69) 66 xu69) 66 xu74 = (sF (sF q 65 tu69) 66 xu74) from sF_sF))))
                exact j135 tl nn vu67 vu69 tu69 xu74 _ hM73 (by omega) (by intro z; omega) (by omega)
          refine hs (f := dm_ald 72 0) rfl rfl ?_
          refine r_inv rfl hM4 rfl (as := [.ref 68]) rfl (Nat.le_of_ble_eq_true rfl) (hT_mono (by omega) (r_198x tu5 xu5 (q.1 36) hM4 rfl rfl rfl (by omega)) (fun r1 M75 w => ?_))
          obtain ⟨vu76, tu76, xu76, rfl, vbu76, tbu76, xbu76, vxu76, hM75⟩ := w
          replace hM75 := rm_to (q' := (sF (sF (sF q 65 tu76) 66 xu76) 67 (0 : Int32))) hM75 (Eq.trans (congrArg (fun z => sF z 66 xu76) (show sF (sF (sF (sF q 65 tu5) 66 xu5) 67 (0 : Int32)) 65 tu76 = (sF (sF (sF q 65 tu76) 66 xu5) 67 (0 : Int32)) from (show sF (sF (sF (sF q 65 tu5) 66 xu5) 67 (0 : Int32)) 65 tu76 = (sF (sF (sF q 65 tu76) 66 xu5) 67 (0 : Int32)) from Eq.trans (show sF (sF (sF (sF q 65 tu5) 66 xu5) 67 (0 : Int32)) 65 tu76 = sF (sF (sF (sF q 65 tu5) 66 xu5) 65 tu76) 67 (0 : Int32) from sF_cm (by decide)) (congrArg (fun z => sF z 67 (0 : Int32)) (show sF (sF (sF q 65 tu5) 66 xu5) 65 tu76 = (sF (sF q 65 tu76) 66 xu5) from Eq.trans (show sF (sF (sF q 65 tu5) 66 xu5) 65 tu76 = sF (sF (sF q 65 tu5) 65 tu76) 66 xu5 from sF_cm (by decide)) (congrArg (fun z => sF z 66 xu5) (show sF (sF q 65 tu5) 65 tu76 = (sF q 65 tu76) from sF_sF))))))) (show sF (sF (sF (sF q 65 tu76) 66 xu5) 67 (0 : Int32)) 66 xu76 = (sF (sF (sF q 65 tu76) 66 xu76) 67 (0 : Int32)) from (show sF (sF (sF (sF q 65 tu76) 66 xu5) 67 (0 : Int32)) 66 xu76 = (sF (sF (sF q 65 tu76) 66 xu76) 67 (0 : Int32)) from Eq.trans (show sF (sF (sF (sF q 65 tu76) 66 xu5) 67 (0 : Int32)) 66 xu76 = sF (sF (sF (sF q 65 tu76) 66 xu5) 66 xu76) 67 (0 : Int32) from sF_cm (by decide)) (congrArg (fun z => sF z 67 (0 : Int32)) (show sF (sF (sF q 65 tu76) 66 xu5) 66 xu76 = (sF (sF q 65 tu76) 66 xu76) from sF_sF)))))
          refine hs (f := dm_push 76 (.int 1)) rfl rfl ?_
          refine g_ic_ne (n := 79) (tt := 83) rfl (fun h77 => ?_) (fun h77 => ?_)
          · skip
            have h77 : ¬ vu76.toInt = 1 := h77
            refine hs (f := dm_push 84 (.int 0)) rfl rfl ?_
            refine hs (f := dm_ist 86 6) (lv' := [(6, .int 0), (5, .int (q.1 65)), (0, .ref 68), (1, .int dp), (2, .long f), (4, .int c)]) rfl rfl ?_
            refine hs (f := dm_ild 88 6) rfl rfl ?_
            refine hs (f := dm_if_eq 91 98) (pc' := 98) rfl rfl ?_
            refine hs (f := dm_push 99 (.int 0)) rfl rfl ?_
            exact j99 (0 : Int32) (0 : Int32) tu76 xu76 _ hM75 (by omega) (by intro z; omega)
          · skip
            have h77 : vu76.toInt = 1 := h77
            refine hs (f := dm_push 80 (.int 1)) rfl rfl ?_
            refine hs (f := dm_goto 84) rfl rfl ?_
            refine hs (f := dm_ist 86 6) (lv' := [(6, .int 1), (5, .int (q.1 65)), (0, .ref 68), (1, .int dp), (2, .long f), (4, .int c)]) rfl rfl ?_
            refine hs (f := dm_ild 88 6) rfl rfl ?_
            refine hs (f := dm_if_eq 91 98) (pc' := 91) rfl rfl ?_
            refine hs (f := dm_ald 92 0) rfl rfl ?_
            refine r_inv rfl hM75 rfl (as := [.ref 68]) rfl (Nat.le_of_ble_eq_true rfl) (hT_mono (by omega) (r_199x tu76 xu76 (q.1 36) hM75 rfl rfl rfl (by omega)) (fun r1 M78 w => ?_))
            obtain ⟨vu79, tu79, xu79, rfl, tbu79, xbu79, hM78⟩ := w
            replace hM78 := rm_to (q' := (sF (sF (sF q 65 tu79) 66 xu79) 67 (0 : Int32))) hM78 (Eq.trans (congrArg (fun z => sF z 66 xu79) (show sF (sF (sF (sF q 65 tu76) 66 xu76) 67 (0 : Int32)) 65 tu79 = (sF (sF (sF q 65 tu79) 66 xu76) 67 (0 : Int32)) from (show sF (sF (sF (sF q 65 tu76) 66 xu76) 67 (0 : Int32)) 65 tu79 = (sF (sF (sF q 65 tu79) 66 xu76) 67 (0 : Int32)) from Eq.trans (show sF (sF (sF (sF q 65 tu76) 66 xu76) 67 (0 : Int32)) 65 tu79 = sF (sF (sF (sF q 65 tu76) 66 xu76) 65 tu79) 67 (0 : Int32) from sF_cm (by decide)) (congrArg (fun z => sF z 67 (0 : Int32)) (show sF (sF (sF q 65 tu76) 66 xu76) 65 tu79 = (sF (sF q 65 tu79) 66 xu76) from Eq.trans (show sF (sF (sF q 65 tu76) 66 xu76) 65 tu79 = sF (sF (sF q 65 tu76) 65 tu79) 66 xu76 from sF_cm (by decide)) (congrArg (fun z => sF z 66 xu76) (show sF (sF q 65 tu76) 65 tu79 = (sF q 65 tu79) from sF_sF))))))) (show sF (sF (sF (sF q 65 tu79) 66 xu76) 67 (0 : Int32)) 66 xu79 = (sF (sF (sF q 65 tu79) 66 xu79) 67 (0 : Int32)) from (show sF (sF (sF (sF q 65 tu79) 66 xu76) 67 (0 : Int32)) 66 xu79 = (sF (sF (sF q 65 tu79) 66 xu79) 67 (0 : Int32)) from Eq.trans (show sF (sF (sF (sF q 65 tu79) 66 xu76) 67 (0 : Int32)) 66 xu79 = sF (sF (sF (sF q 65 tu79) 66 xu76) 66 xu79) 67 (0 : Int32) from sF_cm (by decide)) (congrArg (fun z => sF z 67 (0 : Int32)) (show sF (sF (sF q 65 tu79) 66 xu76) 66 xu79 = (sF (sF q 65 tu79) 66 xu79) from sF_sF)))))
            refine hs (f := dm_goto 99) rfl rfl ?_
            exact j99 (1 : Int32) vu79 tu79 xu79 _ hM78 (by omega) (by intro z; omega)
        · skip
          have h6 : vu5.toInt = 1 := h6
          refine hs (f := dm_ald 44 0) rfl rfl ?_
          refine r_inv rfl hM4 rfl (as := [.ref 68]) rfl (Nat.le_of_ble_eq_true rfl) (hT_mono (by omega) (r_199x tu5 xu5 (q.1 36) hM4 rfl rfl rfl (by omega)) (fun r1 M80 w => ?_))
          obtain ⟨vu81, tu81, xu81, rfl, tbu81, xbu81, hM80⟩ := w
          replace hM80 := rm_to (q' := (sF (sF (sF q 65 tu81) 66 xu81) 67 (0 : Int32))) hM80 (Eq.trans (congrArg (fun z => sF z 66 xu81) (show sF (sF (sF (sF q 65 tu5) 66 xu5) 67 (0 : Int32)) 65 tu81 = (sF (sF (sF q 65 tu81) 66 xu5) 67 (0 : Int32)) from (show sF (sF (sF (sF q 65 tu5) 66 xu5) 67 (0 : Int32)) 65 tu81 = (sF (sF (sF q 65 tu81) 66 xu5) 67 (0 : Int32)) from Eq.trans (show sF (sF (sF (sF q 65 tu5) 66 xu5) 67 (0 : Int32)) 65 tu81 = sF (sF (sF (sF q 65 tu5) 66 xu5) 65 tu81) 67 (0 : Int32) from sF_cm (by decide)) (congrArg (fun z => sF z 67 (0 : Int32)) (show sF (sF (sF q 65 tu5) 66 xu5) 65 tu81 = (sF (sF q 65 tu81) 66 xu5) from Eq.trans (show sF (sF (sF q 65 tu5) 66 xu5) 65 tu81 = sF (sF (sF q 65 tu5) 65 tu81) 66 xu5 from sF_cm (by decide)) (congrArg (fun z => sF z 66 xu5) (show sF (sF q 65 tu5) 65 tu81 = (sF q 65 tu81) from sF_sF))))))) (show sF (sF (sF (sF q 65 tu81) 66 xu5) 67 (0 : Int32)) 66 xu81 = (sF (sF (sF q 65 tu81) 66 xu81) 67 (0 : Int32)) from (show sF (sF (sF (sF q 65 tu81) 66 xu5) 67 (0 : Int32)) 66 xu81 = (sF (sF (sF q 65 tu81) 66 xu81) 67 (0 : Int32)) from Eq.trans (show sF (sF (sF (sF q 65 tu81) 66 xu5) 67 (0 : Int32)) 66 xu81 = sF (sF (sF (sF q 65 tu81) 66 xu5) 66 xu81) 67 (0 : Int32) from sF_cm (by decide)) (congrArg (fun z => sF z 67 (0 : Int32)) (show sF (sF (sF q 65 tu81) 66 xu5) 66 xu81 = (sF (sF q 65 tu81) 66 xu81) from sF_sF)))))
          refine hs (f := dm_ist 49 6) (lv' := [(6, .int vu81), (5, .int (q.1 65)), (0, .ref 68), (1, .int dp), (2, .long f), (4, .int c)]) rfl rfl ?_
          refine hs (f := dm_ald 50 0) rfl rfl ?_
          refine hs (f := dm_ald 51 0) rfl rfl ?_
          refine hs (f := dm_lld 52 2) rfl rfl ?_
          refine hs (f := dm_ild 54 4) rfl rfl ?_
          refine hs (f := dm_ild 56 6) rfl rfl ?_
          refine hs (f := dm_ii 57 (fun x y => x + y)) (st' := [.int (c + vu81), .long f, .ref 68, .ref 68]) rfl rfl ?_
          refine r_inv rfl hM80 rfl (as := [.ref 68, .long f, .int (c + vu81)]) rfl (Nat.le_of_ble_eq_true rfl) (hT_mono (by omega) (r_202x (q.1 29) (q.2.2.2 92) f (c + vu81) hM80 rfl rfl (by omega)) (fun r1 M82 w => ?_))
          obtain ⟨nu83, bu83, gu83, rfl, hnu83, hM82⟩ := w
          have nbu83 : (q.1 29).toInt ≤ nu83.toInt ∧ nu83.toInt ≤ (q.1 29).toInt + 1 ∧ 1 ≤ nu83.toInt := by
            rcases hnu83 with ⟨z, z2, _⟩ | ⟨z, _⟩
            · rw [z]; omega
            · omega
          have wpu83 : ∀ P P' : Int, wP (q.2.2.2 92) (q.1 29).toInt P → P ≤ f.toInt → f.toInt < P' → ((q.1 29).toInt = 0 → f.toInt = 0) → wP bu83 nu83.toInt P' := by
            intro P P' h1 h2 h3 h4
            rcases hnu83 with ⟨z, z2, z3⟩ | ⟨z, z2⟩
            · rw [z, z3]; exact wP_up h1 (by omega)
            · rw [z, z2]; exact wP_lay h1 (Int.toNat_of_nonneg (by omega)).symm h2 h3 h4
          replace hM82 := rm_to (q' := (sA (sB (sF (sF (sF q 65 tu81) 66 xu81) 67 (0 : Int32)) 92 bu83) 93 gu83)) hM82 (Eq.trans (congrArg (fun z => sA z 93 gu83) (show sB (sF (sF (sF q 65 tu81) 66 xu81) 67 (0 : Int32)) 92 bu83 = (sB (sF (sF (sF q 65 tu81) 66 xu81) 67 (0 : Int32)) 92 bu83) from (show sB (sF (sF (sF q 65 tu81) 66 xu81) 67 (0 : Int32)) 92 bu83 = (sB (sF (sF (sF q 65 tu81) 66 xu81) 67 (0 : Int32)) 92 bu83) from rfl))) (show sA (sB (sF (sF (sF q 65 tu81) 66 xu81) 67 (0 : Int32)) 92 bu83) 93 gu83 = (sA (sB (sF (sF (sF q 65 tu81) 66 xu81) 67 (0 : Int32)) 92 bu83) 93 gu83) from (show sA (sB (sF (sF (sF q 65 tu81) 66 xu81) 67 (0 : Int32)) 92 bu83) 93 gu83 = (sA (sB (sF (sF (sF q 65 tu81) 66 xu81) 67 (0 : Int32)) 92 bu83) 93 gu83) from rfl)))
          refine r_puti rfl hM82 rfl (fun M84 hM84 => ?_)
          replace hM84 := rm_to (q' := (sA (sB (sF (sF (sF (sF q 29 nu83) 65 tu81) 66 xu81) 67 (0 : Int32)) 92 bu83) 93 gu83)) hM84 (show sF (sA (sB (sF (sF (sF q 65 tu81) 66 xu81) 67 (0 : Int32)) 92 bu83) 93 gu83) 29 nu83 = (sA (sB (sF (sF (sF (sF q 29 nu83) 65 tu81) 66 xu81) 67 (0 : Int32)) 92 bu83) 93 gu83) from (congrArg (fun z => (sA (sB z 92 bu83) 93 gu83)) (show sF (sF (sF (sF q 65 tu81) 66 xu81) 67 (0 : Int32)) 29 nu83 = (sF (sF (sF (sF q 29 nu83) 65 tu81) 66 xu81) 67 (0 : Int32)) from Eq.trans (show sF (sF (sF (sF q 65 tu81) 66 xu81) 67 (0 : Int32)) 29 nu83 = sF (sF (sF (sF q 65 tu81) 66 xu81) 29 nu83) 67 (0 : Int32) from sF_cm (by decide)) (congrArg (fun z => sF z 67 (0 : Int32)) (show sF (sF (sF q 65 tu81) 66 xu81) 29 nu83 = (sF (sF (sF q 29 nu83) 65 tu81) 66 xu81) from Eq.trans (show sF (sF (sF q 65 tu81) 66 xu81) 29 nu83 = sF (sF (sF q 65 tu81) 29 nu83) 66 xu81 from sF_cm (by decide)) (congrArg (fun z => sF z 66 xu81) (show sF (sF q 65 tu81) 29 nu83 = (sF (sF q 29 nu83) 65 tu81) from Eq.trans (show sF (sF q 65 tu81) 29 nu83 = sF (sF q 29 nu83) 65 tu81 from sF_cm (by decide)) (congrArg (fun z => sF z 65 tu81) (show sF q 29 nu83 = (sF q 29 nu83) from rfl)))))))))
          refine hs (f := dm_ald 64 0) rfl rfl ?_
          refine hs (f := dm_push 65 (.int 1)) rfl rfl ?_
          refine r_putb rfl hM84 rfl isB_1 (fun M85 hM85 => ?_)
          replace hM85 := rm_to (q' := (sA (sB (sF (sF (sF (sF q 29 nu83) 65 tu81) 66 xu81) 67 (1 : Int32)) 92 bu83) 93 gu83)) hM85 (show sF (sA (sB (sF (sF (sF (sF q 29 nu83) 65 tu81) 66 xu81) 67 (0 : Int32)) 92 bu83) 93 gu83) 67 (1 : Int32) = (sA (sB (sF (sF (sF (sF q 29 nu83) 65 tu81) 66 xu81) 67 (1 : Int32)) 92 bu83) 93 gu83) from (congrArg (fun z => (sA (sB z 92 bu83) 93 gu83)) (show sF (sF (sF (sF (sF q 29 nu83) 65 tu81) 66 xu81) 67 (0 : Int32)) 67 (1 : Int32) = (sF (sF (sF (sF q 29 nu83) 65 tu81) 66 xu81) 67 (1 : Int32)) from sF_sF)))
          refine hs (f := dm_ild 70 6) rfl rfl ?_
          exact hr (f := dm_ret .int) rfl rfl (⟨_, nu83, tu81, xu81, (1 : Int32), bu83, gu83, rfl, by omega, by omega, (fun z => ⟨by omega, by omega, by have z9 := hw (by omega) (by omega); exact wpu83 _ _ z9.1 (Int.le_refl _) (by omega) z9.2, by omega⟩), hM85⟩)
      · skip
        have h3 : dp.toInt > 60 := h3
        refine hs (f := dm_ald 28 0) rfl rfl ?_
        refine hs (f := dm_ild 30 5) rfl rfl ?_
        refine r_inv rfl hM1 rfl (as := [.ref 68, .int (q.1 65)]) rfl (Nat.le_of_ble_eq_true rfl) (hT_mono (by omega) (r_197x (q.1 66) (q.1 65) hM1 rfl) (fun r1 M86 w => ?_))
        obtain ⟨rfl, xu87, pu87, nu87, hM86⟩ := w
        have piu87 : (q.1 66).toInt = -1 → xu87.toInt = (q.1 65).toInt := fun z => by rw [pu87 z]
        have niu87 : ¬ (q.1 66).toInt = -1 → xu87.toInt = (q.1 66).toInt := fun z => by rw [nu87 z]
        replace hM86 := rm_to (q' := (sF (sF q 66 xu87) 67 (0 : Int32))) hM86 (show sF (sF q 67 (0 : Int32)) 66 xu87 = (sF (sF q 66 xu87) 67 (0 : Int32)) from (show sF (sF q 67 (0 : Int32)) 66 xu87 = (sF (sF q 66 xu87) 67 (0 : Int32)) from Eq.trans (show sF (sF q 67 (0 : Int32)) 66 xu87 = sF (sF q 66 xu87) 67 (0 : Int32) from sF_cm (by decide)) (congrArg (fun z => sF z 67 (0 : Int32)) (show sF q 66 xu87 = (sF q 66 xu87) from rfl))))
        refine hs (f := dm_push 34 (.int 0)) rfl rfl ?_
        replace hM86 := rm_to (q' := (sF (sF (sF q 29 (q.1 29)) 66 xu87) 67 (0 : Int32))) hM86 (Eq.trans (sF_id (q := (sF (sF q 66 xu87) 67 (0 : Int32))) (k := 29) (v := (q.1 29)) rfl) (show sF (sF (sF q 66 xu87) 67 (0 : Int32)) 29 (q.1 29) = (sF (sF (sF q 29 (q.1 29)) 66 xu87) 67 (0 : Int32)) from (show sF (sF (sF q 66 xu87) 67 (0 : Int32)) 29 (q.1 29) = (sF (sF (sF q 29 (q.1 29)) 66 xu87) 67 (0 : Int32)) from Eq.trans (show sF (sF (sF q 66 xu87) 67 (0 : Int32)) 29 (q.1 29) = sF (sF (sF q 66 xu87) 29 (q.1 29)) 67 (0 : Int32) from sF_cm (by decide)) (congrArg (fun z => sF z 67 (0 : Int32)) (show sF (sF q 66 xu87) 29 (q.1 29) = (sF (sF q 29 (q.1 29)) 66 xu87) from Eq.trans (show sF (sF q 66 xu87) 29 (q.1 29) = sF (sF q 29 (q.1 29)) 66 xu87 from sF_cm (by decide)) (congrArg (fun z => sF z 66 xu87) (show sF q 29 (q.1 29) = (sF q 29 (q.1 29)) from rfl)))))))
        replace hM86 := rm_to (q' := (sF (sF (sF (sF q 29 (q.1 29)) 65 (q.1 65)) 66 xu87) 67 (0 : Int32))) hM86 (Eq.trans (sF_id (q := (sF (sF (sF q 29 (q.1 29)) 66 xu87) 67 (0 : Int32))) (k := 65) (v := (q.1 65)) rfl) (show sF (sF (sF (sF q 29 (q.1 29)) 66 xu87) 67 (0 : Int32)) 65 (q.1 65) = (sF (sF (sF (sF q 29 (q.1 29)) 65 (q.1 65)) 66 xu87) 67 (0 : Int32)) from (show sF (sF (sF (sF q 29 (q.1 29)) 66 xu87) 67 (0 : Int32)) 65 (q.1 65) = (sF (sF (sF (sF q 29 (q.1 29)) 65 (q.1 65)) 66 xu87) 67 (0 : Int32)) from Eq.trans (show sF (sF (sF (sF q 29 (q.1 29)) 66 xu87) 67 (0 : Int32)) 65 (q.1 65) = sF (sF (sF (sF q 29 (q.1 29)) 66 xu87) 65 (q.1 65)) 67 (0 : Int32) from sF_cm (by decide)) (congrArg (fun z => sF z 67 (0 : Int32)) (show sF (sF (sF q 29 (q.1 29)) 66 xu87) 65 (q.1 65) = (sF (sF (sF q 29 (q.1 29)) 65 (q.1 65)) 66 xu87) from Eq.trans (show sF (sF (sF q 29 (q.1 29)) 66 xu87) 65 (q.1 65) = sF (sF (sF q 29 (q.1 29)) 65 (q.1 65)) 66 xu87 from sF_cm (by decide)) (congrArg (fun z => sF z 66 xu87) (show sF (sF q 29 (q.1 29)) 65 (q.1 65) = (sF (sF q 29 (q.1 29)) 65 (q.1 65)) from rfl)))))))
        replace hM86 := rm_to (q' := (sB (sF (sF (sF (sF q 29 (q.1 29)) 65 (q.1 65)) 66 xu87) 67 (0 : Int32)) 92 (q.2.2.2 92))) hM86 (Eq.trans (sB_id (q := (sF (sF (sF (sF q 29 (q.1 29)) 65 (q.1 65)) 66 xu87) 67 (0 : Int32))) (k := 92) (v := (q.2.2.2 92)) rfl) (show sB (sF (sF (sF (sF q 29 (q.1 29)) 65 (q.1 65)) 66 xu87) 67 (0 : Int32)) 92 (q.2.2.2 92) = (sB (sF (sF (sF (sF q 29 (q.1 29)) 65 (q.1 65)) 66 xu87) 67 (0 : Int32)) 92 (q.2.2.2 92)) from (show sB (sF (sF (sF (sF q 29 (q.1 29)) 65 (q.1 65)) 66 xu87) 67 (0 : Int32)) 92 (q.2.2.2 92) = (sB (sF (sF (sF (sF q 29 (q.1 29)) 65 (q.1 65)) 66 xu87) 67 (0 : Int32)) 92 (q.2.2.2 92)) from rfl)))
        replace hM86 := rm_to (q' := (sA (sB (sF (sF (sF (sF q 29 (q.1 29)) 65 (q.1 65)) 66 xu87) 67 (0 : Int32)) 92 (q.2.2.2 92)) 93 (q.2.2.1 93))) hM86 (Eq.trans (sA_id (q := (sB (sF (sF (sF (sF q 29 (q.1 29)) 65 (q.1 65)) 66 xu87) 67 (0 : Int32)) 92 (q.2.2.2 92))) (k := 93) (v := (q.2.2.1 93)) rfl) (show sA (sB (sF (sF (sF (sF q 29 (q.1 29)) 65 (q.1 65)) 66 xu87) 67 (0 : Int32)) 92 (q.2.2.2 92)) 93 (q.2.2.1 93) = (sA (sB (sF (sF (sF (sF q 29 (q.1 29)) 65 (q.1 65)) 66 xu87) 67 (0 : Int32)) 92 (q.2.2.2 92)) 93 (q.2.2.1 93)) from (show sA (sB (sF (sF (sF (sF q 29 (q.1 29)) 65 (q.1 65)) 66 xu87) 67 (0 : Int32)) 92 (q.2.2.2 92)) 93 (q.2.2.1 93) = (sA (sB (sF (sF (sF (sF q 29 (q.1 29)) 65 (q.1 65)) 66 xu87) 67 (0 : Int32)) 92 (q.2.2.2 92)) 93 (q.2.2.1 93)) from rfl)))
        exact hr (f := dm_ret .int) rfl rfl (⟨_, (q.1 29), (q.1 65), xu87, (0 : Int32), (q.2.2.2 92), (q.2.2.1 93), rfl, by omega, by omega, (fun z => absurd z (by omega)), hM86⟩)
    · skip
      have h2 : ¬ (q.1 66).toInt = (-1) := h2
      refine hs (f := dm_push 14 (.int 0)) rfl rfl ?_
      replace hM1 := rm_to (q' := (sF (sF q 29 (q.1 29)) 67 (0 : Int32))) hM1 (Eq.trans (sF_id (q := (sF q 67 (0 : Int32))) (k := 29) (v := (q.1 29)) rfl) (show sF (sF q 67 (0 : Int32)) 29 (q.1 29) = (sF (sF q 29 (q.1 29)) 67 (0 : Int32)) from (show sF (sF q 67 (0 : Int32)) 29 (q.1 29) = (sF (sF q 29 (q.1 29)) 67 (0 : Int32)) from Eq.trans (show sF (sF q 67 (0 : Int32)) 29 (q.1 29) = sF (sF q 29 (q.1 29)) 67 (0 : Int32) from sF_cm (by decide)) (congrArg (fun z => sF z 67 (0 : Int32)) (show sF q 29 (q.1 29) = (sF q 29 (q.1 29)) from rfl)))))
      replace hM1 := rm_to (q' := (sF (sF (sF q 29 (q.1 29)) 65 (q.1 65)) 67 (0 : Int32))) hM1 (Eq.trans (sF_id (q := (sF (sF q 29 (q.1 29)) 67 (0 : Int32))) (k := 65) (v := (q.1 65)) rfl) (show sF (sF (sF q 29 (q.1 29)) 67 (0 : Int32)) 65 (q.1 65) = (sF (sF (sF q 29 (q.1 29)) 65 (q.1 65)) 67 (0 : Int32)) from (show sF (sF (sF q 29 (q.1 29)) 67 (0 : Int32)) 65 (q.1 65) = (sF (sF (sF q 29 (q.1 29)) 65 (q.1 65)) 67 (0 : Int32)) from Eq.trans (show sF (sF (sF q 29 (q.1 29)) 67 (0 : Int32)) 65 (q.1 65) = sF (sF (sF q 29 (q.1 29)) 65 (q.1 65)) 67 (0 : Int32) from sF_cm (by decide)) (congrArg (fun z => sF z 67 (0 : Int32)) (show sF (sF q 29 (q.1 29)) 65 (q.1 65) = (sF (sF q 29 (q.1 29)) 65 (q.1 65)) from rfl)))))
      replace hM1 := rm_to (q' := (sF (sF (sF (sF q 29 (q.1 29)) 65 (q.1 65)) 66 (q.1 66)) 67 (0 : Int32))) hM1 (Eq.trans (sF_id (q := (sF (sF (sF q 29 (q.1 29)) 65 (q.1 65)) 67 (0 : Int32))) (k := 66) (v := (q.1 66)) rfl) (show sF (sF (sF (sF q 29 (q.1 29)) 65 (q.1 65)) 67 (0 : Int32)) 66 (q.1 66) = (sF (sF (sF (sF q 29 (q.1 29)) 65 (q.1 65)) 66 (q.1 66)) 67 (0 : Int32)) from (show sF (sF (sF (sF q 29 (q.1 29)) 65 (q.1 65)) 67 (0 : Int32)) 66 (q.1 66) = (sF (sF (sF (sF q 29 (q.1 29)) 65 (q.1 65)) 66 (q.1 66)) 67 (0 : Int32)) from Eq.trans (show sF (sF (sF (sF q 29 (q.1 29)) 65 (q.1 65)) 67 (0 : Int32)) 66 (q.1 66) = sF (sF (sF (sF q 29 (q.1 29)) 65 (q.1 65)) 66 (q.1 66)) 67 (0 : Int32) from sF_cm (by decide)) (congrArg (fun z => sF z 67 (0 : Int32)) (show sF (sF (sF q 29 (q.1 29)) 65 (q.1 65)) 66 (q.1 66) = (sF (sF (sF q 29 (q.1 29)) 65 (q.1 65)) 66 (q.1 66)) from rfl)))))
      replace hM1 := rm_to (q' := (sB (sF (sF (sF (sF q 29 (q.1 29)) 65 (q.1 65)) 66 (q.1 66)) 67 (0 : Int32)) 92 (q.2.2.2 92))) hM1 (Eq.trans (sB_id (q := (sF (sF (sF (sF q 29 (q.1 29)) 65 (q.1 65)) 66 (q.1 66)) 67 (0 : Int32))) (k := 92) (v := (q.2.2.2 92)) rfl) (show sB (sF (sF (sF (sF q 29 (q.1 29)) 65 (q.1 65)) 66 (q.1 66)) 67 (0 : Int32)) 92 (q.2.2.2 92) = (sB (sF (sF (sF (sF q 29 (q.1 29)) 65 (q.1 65)) 66 (q.1 66)) 67 (0 : Int32)) 92 (q.2.2.2 92)) from (show sB (sF (sF (sF (sF q 29 (q.1 29)) 65 (q.1 65)) 66 (q.1 66)) 67 (0 : Int32)) 92 (q.2.2.2 92) = (sB (sF (sF (sF (sF q 29 (q.1 29)) 65 (q.1 65)) 66 (q.1 66)) 67 (0 : Int32)) 92 (q.2.2.2 92)) from rfl)))
      replace hM1 := rm_to (q' := (sA (sB (sF (sF (sF (sF q 29 (q.1 29)) 65 (q.1 65)) 66 (q.1 66)) 67 (0 : Int32)) 92 (q.2.2.2 92)) 93 (q.2.2.1 93))) hM1 (Eq.trans (sA_id (q := (sB (sF (sF (sF (sF q 29 (q.1 29)) 65 (q.1 65)) 66 (q.1 66)) 67 (0 : Int32)) 92 (q.2.2.2 92))) (k := 93) (v := (q.2.2.1 93)) rfl) (show sA (sB (sF (sF (sF (sF q 29 (q.1 29)) 65 (q.1 65)) 66 (q.1 66)) 67 (0 : Int32)) 92 (q.2.2.2 92)) 93 (q.2.2.1 93) = (sA (sB (sF (sF (sF (sF q 29 (q.1 29)) 65 (q.1 65)) 66 (q.1 66)) 67 (0 : Int32)) 92 (q.2.2.2 92)) 93 (q.2.2.1 93)) from (show sA (sB (sF (sF (sF (sF q 29 (q.1 29)) 65 (q.1 65)) 66 (q.1 66)) 67 (0 : Int32)) 92 (q.2.2.2 92)) 93 (q.2.2.1 93) = (sA (sB (sF (sF (sF (sF q 29 (q.1 29)) 65 (q.1 65)) 66 (q.1 66)) 67 (0 : Int32)) 92 (q.2.2.2 92)) 93 (q.2.2.1 93)) from rfl)))
      exact hr (f := dm_ret .int) rfl rfl (⟨_, (q.1 29), (q.1 65), (q.1 66), (0 : Int32), (q.2.2.2 92), (q.2.2.1 93), rfl, by omega, by omega, (fun z => absurd z (by omega)), hM1⟩)
