/-! witnesses -/
theorem shl_nz0 : ∀ n : Nat, n < 60 → ¬ ((1 : Int64) <<< ((Int32.ofNat n + 1).toInt64 &&& 63)) = 0 := by decide +kernel
theorem shl_nz {k : Int32} (h0 : 0 ≤ k.toInt) (h1 : k.toInt < 60) : ¬ ((1 : Int64) <<< ((k + (1 : Int32)).toInt64 &&& 63)) = 0 := by
  have e : k = Int32.ofNat k.toInt.toNat := i_of_toInt (by omega) (by omega)
  have h2 := shl_nz0 k.toInt.toNat (by omega)
  rw [← e] at h2
  exact h2
theorem h_lq {d : Nat} {t : dm_Code} {pc n : Nat} {f : Int64 → Int64 → Int64} {lv : dm_Lv} {r : List Value} {M : dm_Mem} {Q : Option Value → dm_Mem → Prop} {x y : Int64} (hf : dm_fetch t pc = some (dm_lq n f)) (hy : ¬ y = 0) (h : hG d t n lv (.long (f x y) :: r) M Q) : hG d t pc lv (.long y :: .long x :: r) M Q := by
  refine hs (pc' := n) (lv' := lv) (st' := .long (f x y) :: r) (M' := M) hf ?_ h
  unfold dm_lq
  simp only [if_neg hy]
set_option maxHeartbeats 4000000 in
theorem op_184 {X : dm_Mem} {q : rS} {M : dm_Mem} {T : Int} (hM : Rm X q M) (hR : RI T q) (hT6 : 0 ≤ T ∧ T ≤ 600) (a b w : Int32) : hT 2 184 [.ref 68, .int a, .int b, .int w] M (fun r M' => ∃ (x : Int32) (q' : rS), isB x ∧ r = some (.int x) ∧ Rm X q' M' ∧ RI (T + 1) q' ∧ q'.1 41 = q.1 41) := by
  refine hx (t := cd_184) rfl (Nat.le_of_ble_eq_true rfl) (lv := [(0, .ref 68), (1, .int a), (2, .int b), (3, .int w)]) rfl ?_
  refine hs (f := dm_ald 1 0) rfl rfl ?_
  refine hs (f := dm_push 2 (.int 0)) rfl rfl ?_
  refine r_puti rfl hM rfl (fun M1 hM1 => ?_)
  replace hM1 := rm_to (q' := (sF q 40 (0 : Int32))) hM1 (show sF q 40 (0 : Int32) = (sF q 40 (0 : Int32)) from (show sF q 40 (0 : Int32) = (sF q 40 (0 : Int32)) from rfl))
  obtain ⟨q2, eq2⟩ : ∃ z, z = (sF q 40 (0 : Int32)) := ⟨_, rfl⟩
  rw [← eq2] at hM1
  have Rq2 : RI T q2 := by rw [eq2]; exact hR
  have Kq2 : KP q q2 := by rw [eq2]; exact ⟨rfl, rfl, rfl, rfl, rfl, rfl, rfl, rfl, rfl, rfl, rfl, rfl, rfl⟩
  have fq2 : q2.1 41 = q.1 41 := Kq2.2.2.2.2.1
  have evq2 := Rq2.2.2.1
  have mxq2 := Rq2.1.2.1
  have btq2 := Rq2.2.2.2.2.2.1
  refine hs (f := dm_ald 6 0) rfl rfl ?_
  refine hs (f := dm_ild 7 1) rfl rfl ?_
  refine r_inv rfl hM1 rfl (as := [.ref 68, .int a]) rfl (Nat.le_of_ble_eq_true rfl) (hT_mono (by decide) (r_136 hM1 a) (fun r1 M4 w => ?_))
  obtain ⟨rfl, ⟨rfl, u3a, u3b⟩ | ⟨rfl, u3n⟩⟩ := w
  · skip
    refine hs (f := dm_if_eq 13 48) (pc' := 13) rfl rfl ?_
    refine hs (f := dm_ald 14 0) rfl rfl ?_
    refine hs (f := dm_ild 15 2) rfl rfl ?_
    refine r_inv rfl hM1 rfl (as := [.ref 68, .int b]) rfl (Nat.le_of_ble_eq_true rfl) (hT_mono (by decide) (r_136 hM1 b) (fun r1 M6 w => ?_))
    obtain ⟨rfl, ⟨rfl, u5a, u5b⟩ | ⟨rfl, u5n⟩⟩ := w
    · skip
      refine hs (f := dm_if_eq 21 48) (pc' := 21) rfl rfl ?_
      refine hs (f := dm_ald 22 0) rfl rfl ?_
      refine hs (f := dm_ild 23 1) rfl rfl ?_
      refine hs (f := dm_ild 24 2) rfl rfl ?_
      have sau7 := SB_at Rq2.1 (s := a.toInt) (by omega) (by omega)
      have sbu7 := SB_at Rq2.1 (s := b.toInt) (by omega) (by omega)
      refine r_inv rfl hM1 rfl (as := [.ref 68, .int a, .int b]) rfl (Nat.le_of_ble_eq_true rfl) (hT_mono (by decide) (r_173 hM1 a b (by omega) (by omega) (by omega) (by omega) (by omega) (by omega) (by omega) (by omega)) (fun r1 M8 w => ?_))
      obtain ⟨rfl, ⟨rfl, _⟩ | ⟨rfl, _⟩⟩ := w
      · skip
        refine hs (f := dm_if_ne 30 48) (pc' := 48) rfl rfl ?_
        refine hs (f := dm_push 49 (.int 0)) rfl rfl ?_
        exact h_retB rfl isB_0 (⟨_, _, isB_0, rfl, hM1, RI_up Rq2 (by omega), fq2⟩)
      · skip
        refine hs (f := dm_if_ne 30 48) (pc' := 30) rfl rfl ?_
        refine hs (f := dm_ald 31 0) rfl rfl ?_
        refine hs (f := dm_ild 32 2) rfl rfl ?_
        refine hs (f := dm_ild 33 1) rfl rfl ?_
        have sau9 := SB_at Rq2.1 (s := b.toInt) (by omega) (by omega)
        have sbu9 := SB_at Rq2.1 (s := a.toInt) (by omega) (by omega)
        refine r_inv rfl hM1 rfl (as := [.ref 68, .int b, .int a]) rfl (Nat.le_of_ble_eq_true rfl) (hT_mono (by decide) (r_173 hM1 b a (by omega) (by omega) (by omega) (by omega) (by omega) (by omega) (by omega) (by omega)) (fun r1 M10 w => ?_))
        obtain ⟨rfl, ⟨rfl, _⟩ | ⟨rfl, _⟩⟩ := w
        · skip
          refine hs (f := dm_if_ne 39 48) (pc' := 48) rfl rfl ?_
          refine hs (f := dm_push 49 (.int 0)) rfl rfl ?_
          exact h_retB rfl isB_0 (⟨_, _, isB_0, rfl, hM1, RI_up Rq2 (by omega), fq2⟩)
        · skip
          refine hs (f := dm_if_ne 39 48) (pc' := 39) rfl rfl ?_
          refine hs (f := dm_ild 40 3) rfl rfl ?_
          refine g_if_lt (n := 43) (tt := 48) rfl (fun h11 => ?_) (fun h11 => ?_)
          · skip
            have h11 : w.toInt < 0 := h11
            refine hs (f := dm_push 49 (.int 0)) rfl rfl ?_
            exact h_retB rfl isB_0 (⟨_, _, isB_0, rfl, hM1, RI_up Rq2 (by omega), fq2⟩)
          · skip
            have h11 : w.toInt ≥ 0 := h11
            refine hs (f := dm_ild 44 3) rfl rfl ?_
            refine hs (f := dm_push 45 (.int 1)) rfl rfl ?_
            refine g_ic_le (n := 48) (tt := 50) rfl (fun h12 => ?_) (fun h12 => ?_)
            · skip
              have h12 : w.toInt ≤ 1 := h12
              refine hs (f := dm_ild 51 3) rfl rfl ?_
              refine g_if_ne (n := 54) (tt := 58) rfl (fun h13 => ?_) (fun h13 => ?_)
              · skip
                have h13 : ¬ w.toInt = 0 := h13
                refine hs (f := dm_ild 59 2) rfl rfl ?_
                refine hs (f := dm_ist 61 4) (lv' := [(4, .int b), (0, .ref 68), (1, .int a), (2, .int b), (3, .int w)]) rfl rfl ?_
                refine hs (f := dm_ild 62 3) rfl rfl ?_
                refine g_if_ne (n := 65) (tt := 69) rfl (fun h14 => ?_) (fun h14 => ?_)
                · skip
                  have h14 : ¬ w.toInt = 0 := h14
                  refine hs (f := dm_ild 70 1) rfl rfl ?_
                  refine hs (f := dm_ist 72 5) (lv' := [(5, .int a), (4, .int b), (0, .ref 68), (1, .int a), (2, .int b), (3, .int w)]) rfl rfl ?_
                  refine hs (f := dm_ald 73 0) rfl rfl ?_
                  refine hs (f := dm_ild 75 4) rfl rfl ?_
                  refine hs (f := dm_ild 77 5) rfl rfl ?_
                  refine hs (f := dm_push 78 (.long 0)) rfl rfl ?_
                  refine hs (f := dm_push 79 (.int 1)) rfl rfl ?_
                  have sau15 := SB_at Rq2.1 (s := b.toInt) (by omega) (by omega)
                  have sbu15 := SB_at Rq2.1 (s := a.toInt) (by omega) (by omega)
                  refine r_inv rfl hM1 rfl (as := [.ref 68, .int b, .int a, .long 0, .int 1]) rfl (Nat.le_of_ble_eq_true rfl) (hT_mono (by decide) (r_183 hM1 b a (0 : Int64) (1 : Int32) (by omega) (by omega) (by omega) (by omega) (by omega) (by omega) (by omega) (by omega)) (fun r1 M16 w => ?_))
                  obtain ⟨rfl, u15, rfl⟩ := w
                  refine hs (f := dm_lst 84 6) (lv' := [(6, .long u15), (5, .int a), (4, .int b), (0, .ref 68), (1, .int a), (2, .int b), (3, .int w)]) rfl rfl ?_
                  refine hs (f := dm_ald 85 0) rfl rfl ?_
                  refine hs (f := dm_ild 87 4) rfl rfl ?_
                  refine hs (f := dm_ild 89 5) rfl rfl ?_
                  refine hs (f := dm_lld 91 6) rfl rfl ?_
                  refine hs (f := dm_push 92 (.int 0)) rfl rfl ?_
                  have sau17 := SB_at Rq2.1 (s := b.toInt) (by omega) (by omega)
                  have sbu17 := SB_at Rq2.1 (s := a.toInt) (by omega) (by omega)
                  refine r_inv rfl hM1 rfl (as := [.ref 68, .int b, .int a, .long u15, .int 0]) rfl (Nat.le_of_ble_eq_true rfl) (hT_mono (by decide) (r_183 hM1 b a u15 (0 : Int32) (by omega) (by omega) (by omega) (by omega) (by omega) (by omega) (by omega) (by omega)) (fun r1 M18 w => ?_))
                  obtain ⟨rfl, u17, rfl⟩ := w
                  refine hs (f := dm_lst 97 8) (lv' := [(8, .long u17), (6, .long u15), (5, .int a), (4, .int b), (0, .ref 68), (1, .int a), (2, .int b), (3, .int w)]) rfl rfl ?_
                  have j100 : ∀ (nn : Nat), ∀ (k : Int32) (M : dm_Mem), Rm X q2 M → (0 ≤ k.toInt) → (k.toInt ≤ 60) → (60 - k.toInt).toNat = nn → hG 1 cd_184 100 [(10, .int k), (8, .long u17), (6, .long u15), (5, .int a), (4, .int b), (0, .ref 68), (1, .int a), (2, .int b), (3, .int w)] [] M (fun r M' => ∃ (x : Int32) (q' : rS), isB x ∧ r = some (.int x) ∧ Rm X q' M' ∧ RI (T + 1) q' ∧ q'.1 41 = q.1 41) := by
                    intro nn
                    induction nn using Nat.strongRecOn with
                    | ind nn IH =>
                      intro k M hM k0 k1 hms
                      refine hs (f := dm_ild 102 10) rfl rfl ?_
                      refine hs (f := dm_push 104 (.int 60)) rfl rfl ?_
                      refine g_ic_ge (n := 107) (tt := 142) rfl (fun h19 => ?_) (fun h19 => ?_)
                      · skip
                        have h19 : k.toInt ≥ 60 := h19
                        refine hs (f := dm_ald 143 0) rfl rfl ?_
                        refine hs (f := dm_lld 145 6) rfl rfl ?_
                        refine hs (f := dm_ild 147 10) rfl rfl ?_
                        refine hs (f := dm_li 148 (fun x y => x >>> (y.toInt64 &&& 63))) (st' := [.long (u15 >>> (k.toInt64 &&& 63)), .ref 68]) rfl rfl ?_
                        refine r_putj rfl hM rfl (fun M20 hM20 => ?_)
                        replace hM20 := rm_to (q' := (sG q2 38 (u15 >>> (k.toInt64 &&& 63)))) hM20 (show sG q2 38 (u15 >>> (k.toInt64 &&& 63)) = (sG q2 38 (u15 >>> (k.toInt64 &&& 63))) from (show sG q2 38 (u15 >>> (k.toInt64 &&& 63)) = (sG q2 38 (u15 >>> (k.toInt64 &&& 63))) from rfl))
                        refine hs (f := dm_ald 152 0) rfl rfl ?_
                        refine hs (f := dm_push 154 (.int 60)) rfl rfl ?_
                        refine hs (f := dm_ild 156 10) rfl rfl ?_
                        have e21c : ((60 : Int32)).toInt = 60 := rfl
                        have e21 : ((60 : Int32) - k).toInt = 60 - k.toInt := by have w := i_sub (x := (60 : Int32)) (y := k) (by omega) (by omega); omega
                        refine hs (f := dm_ii 157 (fun x y => x - y)) (st' := [.int ((60 : Int32) - k), .ref 68]) rfl rfl ?_
                        refine r_puti rfl hM20 rfl (fun M22 hM22 => ?_)
                        replace hM22 := rm_to (q' := (sG (sF q2 39 ((60 : Int32) - k)) 38 (u15 >>> (k.toInt64 &&& 63)))) hM22 (show sF (sG q2 38 (u15 >>> (k.toInt64 &&& 63))) 39 ((60 : Int32) - k) = (sG (sF q2 39 ((60 : Int32) - k)) 38 (u15 >>> (k.toInt64 &&& 63))) from (congrArg (fun z => (sG z 38 (u15 >>> (k.toInt64 &&& 63)))) (show sF q2 39 ((60 : Int32) - k) = (sF q2 39 ((60 : Int32) - k)) from rfl)))
                        refine hs (f := dm_push 161 (.int 1)) rfl rfl ?_
                        exact h_retB rfl isB_1 (⟨_, _, isB_1, rfl, hM22, RI_up Rq2 (by omega), fq2⟩)
                      · skip
                        have h19 : k.toInt < 60 := h19
                        refine hs (f := dm_lld 109 6) rfl rfl ?_
                        refine hs (f := dm_push 110 (.long 1)) rfl rfl ?_
                        refine hs (f := dm_ild 112 10) rfl rfl ?_
                        refine hs (f := dm_push 113 (.int 1)) rfl rfl ?_
                        have e23 : (k + (1 : Int32)).toInt = k.toInt + 1 := by have w := i_addc (x := k) (y := (1 : Int32)) 1 rfl (by omega) (by omega); omega
                        refine hs (f := dm_ii 114 (fun x y => x + y)) (st' := [.int (k + (1 : Int32)), .long 1, .long u15]) rfl rfl ?_
                        refine hs (f := dm_li 115 (fun x y => x <<< (y.toInt64 &&& 63))) (st' := [.long ((1 : Int64) <<< ((k + (1 : Int32)).toInt64 &&& 63)), .long u15]) rfl rfl ?_
                        refine h_lq (n := 116) (f := fun x y => x - x / y * y) rfl (shl_nz k0 (by omega)) ?_
                        skip
                        refine hs (f := dm_push 117 (.long 0)) rfl rfl ?_
                        refine g_lc_ne (x := ((fun x y : Int64 => x - x / y * y) u15 ((1 : Int64) <<< ((k + (1 : Int32)).toInt64 &&& 63)))) (y := (0 : Int64)) (m := 118) (n := 121) (tt := 142) rfl rfl (fun h24 => ?_) (fun h24 => ?_)
                        · skip
                          clear h24
                          refine hs (f := dm_ald 143 0) rfl rfl ?_
                          refine hs (f := dm_lld 145 6) rfl rfl ?_
                          refine hs (f := dm_ild 147 10) rfl rfl ?_
                          refine hs (f := dm_li 148 (fun x y => x >>> (y.toInt64 &&& 63))) (st' := [.long (u15 >>> (k.toInt64 &&& 63)), .ref 68]) rfl rfl ?_
                          refine r_putj rfl hM rfl (fun M25 hM25 => ?_)
                          replace hM25 := rm_to (q' := (sG q2 38 (u15 >>> (k.toInt64 &&& 63)))) hM25 (show sG q2 38 (u15 >>> (k.toInt64 &&& 63)) = (sG q2 38 (u15 >>> (k.toInt64 &&& 63))) from (show sG q2 38 (u15 >>> (k.toInt64 &&& 63)) = (sG q2 38 (u15 >>> (k.toInt64 &&& 63))) from rfl))
                          refine hs (f := dm_ald 152 0) rfl rfl ?_
                          refine hs (f := dm_push 154 (.int 60)) rfl rfl ?_
                          refine hs (f := dm_ild 156 10) rfl rfl ?_
                          have e26c : ((60 : Int32)).toInt = 60 := rfl
                          have e26 : ((60 : Int32) - k).toInt = 60 - k.toInt := by have w := i_sub (x := (60 : Int32)) (y := k) (by omega) (by omega); omega
                          refine hs (f := dm_ii 157 (fun x y => x - y)) (st' := [.int ((60 : Int32) - k), .ref 68]) rfl rfl ?_
                          refine r_puti rfl hM25 rfl (fun M27 hM27 => ?_)
                          replace hM27 := rm_to (q' := (sG (sF q2 39 ((60 : Int32) - k)) 38 (u15 >>> (k.toInt64 &&& 63)))) hM27 (show sF (sG q2 38 (u15 >>> (k.toInt64 &&& 63))) 39 ((60 : Int32) - k) = (sG (sF q2 39 ((60 : Int32) - k)) 38 (u15 >>> (k.toInt64 &&& 63))) from (congrArg (fun z => (sG z 38 (u15 >>> (k.toInt64 &&& 63)))) (show sF q2 39 ((60 : Int32) - k) = (sF q2 39 ((60 : Int32) - k)) from rfl)))
                          refine hs (f := dm_push 161 (.int 1)) rfl rfl ?_
                          exact h_retB rfl isB_1 (⟨_, _, isB_1, rfl, hM27, RI_up Rq2 (by omega), fq2⟩)
                        · skip
                          clear h24
                          refine hs (f := dm_lld 123 6) rfl rfl ?_
                          refine hs (f := dm_push 124 (.long 1)) rfl rfl ?_
                          refine hs (f := dm_ild 126 10) rfl rfl ?_
                          refine hs (f := dm_push 127 (.int 1)) rfl rfl ?_
                          have e28 : (k + (1 : Int32)).toInt = k.toInt + 1 := by have w := i_addc (x := k) (y := (1 : Int32)) 1 rfl (by omega) (by omega); omega
                          refine hs (f := dm_ii 128 (fun x y => x + y)) (st' := [.int (k + (1 : Int32)), .long 1, .long u15]) rfl rfl ?_
                          refine hs (f := dm_li 129 (fun x y => x <<< (y.toInt64 &&& 63))) (st' := [.long ((1 : Int64) <<< ((k + (1 : Int32)).toInt64 &&& 63)), .long u15]) rfl rfl ?_
                          refine hs (f := dm_ll 130 (fun x y => x + y)) (st' := [.long (u15 + ((1 : Int64) <<< ((k + (1 : Int32)).toInt64 &&& 63)))]) rfl rfl ?_
                          refine hs (f := dm_lld 132 8) rfl rfl ?_
                          refine g_lc_gt (x := (u15 + ((1 : Int64) <<< ((k + (1 : Int32)).toInt64 &&& 63)))) (y := u17) (m := 133) (n := 136) (tt := 142) rfl rfl (fun h29 => ?_) (fun h29 => ?_)
                          · skip
                            clear h29
                            refine hs (f := dm_ald 143 0) rfl rfl ?_
                            refine hs (f := dm_lld 145 6) rfl rfl ?_
                            refine hs (f := dm_ild 147 10) rfl rfl ?_
                            refine hs (f := dm_li 148 (fun x y => x >>> (y.toInt64 &&& 63))) (st' := [.long (u15 >>> (k.toInt64 &&& 63)), .ref 68]) rfl rfl ?_
                            refine r_putj rfl hM rfl (fun M30 hM30 => ?_)
                            replace hM30 := rm_to (q' := (sG q2 38 (u15 >>> (k.toInt64 &&& 63)))) hM30 (show sG q2 38 (u15 >>> (k.toInt64 &&& 63)) = (sG q2 38 (u15 >>> (k.toInt64 &&& 63))) from (show sG q2 38 (u15 >>> (k.toInt64 &&& 63)) = (sG q2 38 (u15 >>> (k.toInt64 &&& 63))) from rfl))
                            refine hs (f := dm_ald 152 0) rfl rfl ?_
                            refine hs (f := dm_push 154 (.int 60)) rfl rfl ?_
                            refine hs (f := dm_ild 156 10) rfl rfl ?_
                            have e31c : ((60 : Int32)).toInt = 60 := rfl
                            have e31 : ((60 : Int32) - k).toInt = 60 - k.toInt := by have w := i_sub (x := (60 : Int32)) (y := k) (by omega) (by omega); omega
                            refine hs (f := dm_ii 157 (fun x y => x - y)) (st' := [.int ((60 : Int32) - k), .ref 68]) rfl rfl ?_
                            refine r_puti rfl hM30 rfl (fun M32 hM32 => ?_)
                            replace hM32 := rm_to (q' := (sG (sF q2 39 ((60 : Int32) - k)) 38 (u15 >>> (k.toInt64 &&& 63)))) hM32 (show sF (sG q2 38 (u15 >>> (k.toInt64 &&& 63))) 39 ((60 : Int32) - k) = (sG (sF q2 39 ((60 : Int32) - k)) 38 (u15 >>> (k.toInt64 &&& 63))) from (congrArg (fun z => (sG z 38 (u15 >>> (k.toInt64 &&& 63)))) (show sF q2 39 ((60 : Int32) - k) = (sF q2 39 ((60 : Int32) - k)) from rfl)))
                            refine hs (f := dm_push 161 (.int 1)) rfl rfl ?_
                            exact h_retB rfl isB_1 (⟨_, _, isB_1, rfl, hM32, RI_up Rq2 (by omega), fq2⟩)
                          · skip
                            clear h29
                            have e33 : (k + 1).toInt = k.toInt + 1 := by have w := i_addc (x := k) (y := 1) 1 rfl (by omega) (by omega); omega
                            refine hs (f := dm_iinc 139 10 1) (lv' := [(10, .int (k + 1)), (8, .long u17), (6, .long u15), (5, .int a), (4, .int b), (0, .ref 68), (1, .int a), (2, .int b), (3, .int w)]) rfl rfl ?_
                            refine hs (f := dm_goto 100) rfl rfl ?_
                            exact (IH _ (by omega)) (k + 1) _ hM (by omega) (by omega) rfl
                  refine hs (f := dm_push 98 (.int 0)) rfl rfl ?_
                  refine hs (f := dm_ist 100 10) (lv' := [(10, .int 0), (8, .long u17), (6, .long u15), (5, .int a), (4, .int b), (0, .ref 68), (1, .int a), (2, .int b), (3, .int w)]) rfl rfl ?_
                  exact (j100 _) (0 : Int32) _ hM1 (by decide) (by decide) rfl
                · skip
                  have h14 : w.toInt = 0 := h14
                  refine hs (f := dm_ild 66 2) rfl rfl ?_
                  refine hs (f := dm_goto 70) rfl rfl ?_
                  refine hs (f := dm_ist 72 5) (lv' := [(5, .int b), (4, .int b), (0, .ref 68), (1, .int a), (2, .int b), (3, .int w)]) rfl rfl ?_
                  refine hs (f := dm_ald 73 0) rfl rfl ?_
                  refine hs (f := dm_ild 75 4) rfl rfl ?_
                  refine hs (f := dm_ild 77 5) rfl rfl ?_
                  refine hs (f := dm_push 78 (.long 0)) rfl rfl ?_
                  refine hs (f := dm_push 79 (.int 1)) rfl rfl ?_
                  have sau34 := SB_at Rq2.1 (s := b.toInt) (by omega) (by omega)
                  have sbu34 := SB_at Rq2.1 (s := b.toInt) (by omega) (by omega)
                  refine r_inv rfl hM1 rfl (as := [.ref 68, .int b, .int b, .long 0, .int 1]) rfl (Nat.le_of_ble_eq_true rfl) (hT_mono (by decide) (r_183 hM1 b b (0 : Int64) (1 : Int32) (by omega) (by omega) (by omega) (by omega) (by omega) (by omega) (by omega) (by omega)) (fun r1 M35 w => ?_))
                  obtain ⟨rfl, u34, rfl⟩ := w
                  refine hs (f := dm_lst 84 6) (lv' := [(6, .long u34), (5, .int b), (4, .int b), (0, .ref 68), (1, .int a), (2, .int b), (3, .int w)]) rfl rfl ?_
                  refine hs (f := dm_ald 85 0) rfl rfl ?_
                  refine hs (f := dm_ild 87 4) rfl rfl ?_
                  refine hs (f := dm_ild 89 5) rfl rfl ?_
                  refine hs (f := dm_lld 91 6) rfl rfl ?_
                  refine hs (f := dm_push 92 (.int 0)) rfl rfl ?_
                  have sau36 := SB_at Rq2.1 (s := b.toInt) (by omega) (by omega)
                  have sbu36 := SB_at Rq2.1 (s := b.toInt) (by omega) (by omega)
                  refine r_inv rfl hM1 rfl (as := [.ref 68, .int b, .int b, .long u34, .int 0]) rfl (Nat.le_of_ble_eq_true rfl) (hT_mono (by decide) (r_183 hM1 b b u34 (0 : Int32) (by omega) (by omega) (by omega) (by omega) (by omega) (by omega) (by omega) (by omega)) (fun r1 M37 w => ?_))
                  obtain ⟨rfl, u36, rfl⟩ := w
                  refine hs (f := dm_lst 97 8) (lv' := [(8, .long u36), (6, .long u34), (5, .int b), (4, .int b), (0, .ref 68), (1, .int a), (2, .int b), (3, .int w)]) rfl rfl ?_
                  have j100 : ∀ (nn : Nat), ∀ (k : Int32) (M : dm_Mem), Rm X q2 M → (0 ≤ k.toInt) → (k.toInt ≤ 60) → (60 - k.toInt).toNat = nn → hG 1 cd_184 100 [(10, .int k), (8, .long u36), (6, .long u34), (5, .int b), (4, .int b), (0, .ref 68), (1, .int a), (2, .int b), (3, .int w)] [] M (fun r M' => ∃ (x : Int32) (q' : rS), isB x ∧ r = some (.int x) ∧ Rm X q' M' ∧ RI (T + 1) q' ∧ q'.1 41 = q.1 41) := by
                    intro nn
                    induction nn using Nat.strongRecOn with
                    | ind nn IH =>
                      intro k M hM k0 k1 hms
                      refine hs (f := dm_ild 102 10) rfl rfl ?_
                      refine hs (f := dm_push 104 (.int 60)) rfl rfl ?_
                      refine g_ic_ge (n := 107) (tt := 142) rfl (fun h38 => ?_) (fun h38 => ?_)
                      · skip
                        have h38 : k.toInt ≥ 60 := h38
                        refine hs (f := dm_ald 143 0) rfl rfl ?_
                        refine hs (f := dm_lld 145 6) rfl rfl ?_
                        refine hs (f := dm_ild 147 10) rfl rfl ?_
                        refine hs (f := dm_li 148 (fun x y => x >>> (y.toInt64 &&& 63))) (st' := [.long (u34 >>> (k.toInt64 &&& 63)), .ref 68]) rfl rfl ?_
                        refine r_putj rfl hM rfl (fun M39 hM39 => ?_)
                        replace hM39 := rm_to (q' := (sG q2 38 (u34 >>> (k.toInt64 &&& 63)))) hM39 (show sG q2 38 (u34 >>> (k.toInt64 &&& 63)) = (sG q2 38 (u34 >>> (k.toInt64 &&& 63))) from (show sG q2 38 (u34 >>> (k.toInt64 &&& 63)) = (sG q2 38 (u34 >>> (k.toInt64 &&& 63))) from rfl))
                        refine hs (f := dm_ald 152 0) rfl rfl ?_
                        refine hs (f := dm_push 154 (.int 60)) rfl rfl ?_
                        refine hs (f := dm_ild 156 10) rfl rfl ?_
                        have e40c : ((60 : Int32)).toInt = 60 := rfl
                        have e40 : ((60 : Int32) - k).toInt = 60 - k.toInt := by have w := i_sub (x := (60 : Int32)) (y := k) (by omega) (by omega); omega
                        refine hs (f := dm_ii 157 (fun x y => x - y)) (st' := [.int ((60 : Int32) - k), .ref 68]) rfl rfl ?_
                        refine r_puti rfl hM39 rfl (fun M41 hM41 => ?_)
                        replace hM41 := rm_to (q' := (sG (sF q2 39 ((60 : Int32) - k)) 38 (u34 >>> (k.toInt64 &&& 63)))) hM41 (show sF (sG q2 38 (u34 >>> (k.toInt64 &&& 63))) 39 ((60 : Int32) - k) = (sG (sF q2 39 ((60 : Int32) - k)) 38 (u34 >>> (k.toInt64 &&& 63))) from (congrArg (fun z => (sG z 38 (u34 >>> (k.toInt64 &&& 63)))) (show sF q2 39 ((60 : Int32) - k) = (sF q2 39 ((60 : Int32) - k)) from rfl)))
                        refine hs (f := dm_push 161 (.int 1)) rfl rfl ?_
                        exact h_retB rfl isB_1 (⟨_, _, isB_1, rfl, hM41, RI_up Rq2 (by omega), fq2⟩)
                      · skip
                        have h38 : k.toInt < 60 := h38
                        refine hs (f := dm_lld 109 6) rfl rfl ?_
                        refine hs (f := dm_push 110 (.long 1)) rfl rfl ?_
                        refine hs (f := dm_ild 112 10) rfl rfl ?_
                        refine hs (f := dm_push 113 (.int 1)) rfl rfl ?_
                        have e42 : (k + (1 : Int32)).toInt = k.toInt + 1 := by have w := i_addc (x := k) (y := (1 : Int32)) 1 rfl (by omega) (by omega); omega
                        refine hs (f := dm_ii 114 (fun x y => x + y)) (st' := [.int (k + (1 : Int32)), .long 1, .long u34]) rfl rfl ?_
                        refine hs (f := dm_li 115 (fun x y => x <<< (y.toInt64 &&& 63))) (st' := [.long ((1 : Int64) <<< ((k + (1 : Int32)).toInt64 &&& 63)), .long u34]) rfl rfl ?_
                        refine h_lq (n := 116) (f := fun x y => x - x / y * y) rfl (shl_nz k0 (by omega)) ?_
                        skip
                        refine hs (f := dm_push 117 (.long 0)) rfl rfl ?_
                        refine g_lc_ne (x := ((fun x y : Int64 => x - x / y * y) u34 ((1 : Int64) <<< ((k + (1 : Int32)).toInt64 &&& 63)))) (y := (0 : Int64)) (m := 118) (n := 121) (tt := 142) rfl rfl (fun h43 => ?_) (fun h43 => ?_)
                        · skip
                          clear h43
                          refine hs (f := dm_ald 143 0) rfl rfl ?_
                          refine hs (f := dm_lld 145 6) rfl rfl ?_
                          refine hs (f := dm_ild 147 10) rfl rfl ?_
                          refine hs (f := dm_li 148 (fun x y => x >>> (y.toInt64 &&& 63))) (st' := [.long (u34 >>> (k.toInt64 &&& 63)), .ref 68]) rfl rfl ?_
                          refine r_putj rfl hM rfl (fun M44 hM44 => ?_)
                          replace hM44 := rm_to (q' := (sG q2 38 (u34 >>> (k.toInt64 &&& 63)))) hM44 (show sG q2 38 (u34 >>> (k.toInt64 &&& 63)) = (sG q2 38 (u34 >>> (k.toInt64 &&& 63))) from (show sG q2 38 (u34 >>> (k.toInt64 &&& 63)) = (sG q2 38 (u34 >>> (k.toInt64 &&& 63))) from rfl))
                          refine hs (f := dm_ald 152 0) rfl rfl ?_
                          refine hs (f := dm_push 154 (.int 60)) rfl rfl ?_
                          refine hs (f := dm_ild 156 10) rfl rfl ?_
                          have e45c : ((60 : Int32)).toInt = 60 := rfl
                          have e45 : ((60 : Int32) - k).toInt = 60 - k.toInt := by have w := i_sub (x := (60 : Int32)) (y := k) (by omega) (by omega); omega
                          refine hs (f := dm_ii 157 (fun x y => x - y)) (st' := [.int ((60 : Int32) - k), .ref 68]) rfl rfl ?_
                          refine r_puti rfl hM44 rfl (fun M46 hM46 => ?_)
                          replace hM46 := rm_to (q' := (sG (sF q2 39 ((60 : Int32) - k)) 38 (u34 >>> (k.toInt64 &&& 63)))) hM46 (show sF (sG q2 38 (u34 >>> (k.toInt64 &&& 63))) 39 ((60 : Int32) - k) = (sG (sF q2 39 ((60 : Int32) - k)) 38 (u34 >>> (k.toInt64 &&& 63))) from (congrArg (fun z => (sG z 38 (u34 >>> (k.toInt64 &&& 63)))) (show sF q2 39 ((60 : Int32) - k) = (sF q2 39 ((60 : Int32) - k)) from rfl)))
                          refine hs (f := dm_push 161 (.int 1)) rfl rfl ?_
                          exact h_retB rfl isB_1 (⟨_, _, isB_1, rfl, hM46, RI_up Rq2 (by omega), fq2⟩)
                        · skip
                          clear h43
                          refine hs (f := dm_lld 123 6) rfl rfl ?_
                          refine hs (f := dm_push 124 (.long 1)) rfl rfl ?_
                          refine hs (f := dm_ild 126 10) rfl rfl ?_
                          refine hs (f := dm_push 127 (.int 1)) rfl rfl ?_
                          have e47 : (k + (1 : Int32)).toInt = k.toInt + 1 := by have w := i_addc (x := k) (y := (1 : Int32)) 1 rfl (by omega) (by omega); omega
                          refine hs (f := dm_ii 128 (fun x y => x + y)) (st' := [.int (k + (1 : Int32)), .long 1, .long u34]) rfl rfl ?_
                          refine hs (f := dm_li 129 (fun x y => x <<< (y.toInt64 &&& 63))) (st' := [.long ((1 : Int64) <<< ((k + (1 : Int32)).toInt64 &&& 63)), .long u34]) rfl rfl ?_
                          refine hs (f := dm_ll 130 (fun x y => x + y)) (st' := [.long (u34 + ((1 : Int64) <<< ((k + (1 : Int32)).toInt64 &&& 63)))]) rfl rfl ?_
                          refine hs (f := dm_lld 132 8) rfl rfl ?_
                          refine g_lc_gt (x := (u34 + ((1 : Int64) <<< ((k + (1 : Int32)).toInt64 &&& 63)))) (y := u36) (m := 133) (n := 136) (tt := 142) rfl rfl (fun h48 => ?_) (fun h48 => ?_)
                          · skip
                            clear h48
                            refine hs (f := dm_ald 143 0) rfl rfl ?_
                            refine hs (f := dm_lld 145 6) rfl rfl ?_
                            refine hs (f := dm_ild 147 10) rfl rfl ?_
                            refine hs (f := dm_li 148 (fun x y => x >>> (y.toInt64 &&& 63))) (st' := [.long (u34 >>> (k.toInt64 &&& 63)), .ref 68]) rfl rfl ?_
                            refine r_putj rfl hM rfl (fun M49 hM49 => ?_)
                            replace hM49 := rm_to (q' := (sG q2 38 (u34 >>> (k.toInt64 &&& 63)))) hM49 (show sG q2 38 (u34 >>> (k.toInt64 &&& 63)) = (sG q2 38 (u34 >>> (k.toInt64 &&& 63))) from (show sG q2 38 (u34 >>> (k.toInt64 &&& 63)) = (sG q2 38 (u34 >>> (k.toInt64 &&& 63))) from rfl))
                            refine hs (f := dm_ald 152 0) rfl rfl ?_
                            refine hs (f := dm_push 154 (.int 60)) rfl rfl ?_
                            refine hs (f := dm_ild 156 10) rfl rfl ?_
                            have e50c : ((60 : Int32)).toInt = 60 := rfl
                            have e50 : ((60 : Int32) - k).toInt = 60 - k.toInt := by have w := i_sub (x := (60 : Int32)) (y := k) (by omega) (by omega); omega
                            refine hs (f := dm_ii 157 (fun x y => x - y)) (st' := [.int ((60 : Int32) - k), .ref 68]) rfl rfl ?_
                            refine r_puti rfl hM49 rfl (fun M51 hM51 => ?_)
                            replace hM51 := rm_to (q' := (sG (sF q2 39 ((60 : Int32) - k)) 38 (u34 >>> (k.toInt64 &&& 63)))) hM51 (show sF (sG q2 38 (u34 >>> (k.toInt64 &&& 63))) 39 ((60 : Int32) - k) = (sG (sF q2 39 ((60 : Int32) - k)) 38 (u34 >>> (k.toInt64 &&& 63))) from (congrArg (fun z => (sG z 38 (u34 >>> (k.toInt64 &&& 63)))) (show sF q2 39 ((60 : Int32) - k) = (sF q2 39 ((60 : Int32) - k)) from rfl)))
                            refine hs (f := dm_push 161 (.int 1)) rfl rfl ?_
                            exact h_retB rfl isB_1 (⟨_, _, isB_1, rfl, hM51, RI_up Rq2 (by omega), fq2⟩)
                          · skip
                            clear h48
                            have e52 : (k + 1).toInt = k.toInt + 1 := by have w := i_addc (x := k) (y := 1) 1 rfl (by omega) (by omega); omega
                            refine hs (f := dm_iinc 139 10 1) (lv' := [(10, .int (k + 1)), (8, .long u36), (6, .long u34), (5, .int b), (4, .int b), (0, .ref 68), (1, .int a), (2, .int b), (3, .int w)]) rfl rfl ?_
                            refine hs (f := dm_goto 100) rfl rfl ?_
                            exact (IH _ (by omega)) (k + 1) _ hM (by omega) (by omega) rfl
                  refine hs (f := dm_push 98 (.int 0)) rfl rfl ?_
                  refine hs (f := dm_ist 100 10) (lv' := [(10, .int 0), (8, .long u36), (6, .long u34), (5, .int b), (4, .int b), (0, .ref 68), (1, .int a), (2, .int b), (3, .int w)]) rfl rfl ?_
                  exact (j100 _) (0 : Int32) _ hM1 (by decide) (by decide) rfl
              · skip
                have h13 : w.toInt = 0 := h13
                refine hs (f := dm_ild 55 1) rfl rfl ?_
                refine hs (f := dm_goto 59) rfl rfl ?_
                refine hs (f := dm_ist 61 4) (lv' := [(4, .int a), (0, .ref 68), (1, .int a), (2, .int b), (3, .int w)]) rfl rfl ?_
                refine hs (f := dm_ild 62 3) rfl rfl ?_
                refine g_if_ne (n := 65) (tt := 69) rfl (fun h53 => ?_) (fun h53 => ?_)
                · skip
                  have h53 : ¬ w.toInt = 0 := h53
                  refine hs (f := dm_ild 70 1) rfl rfl ?_
                  refine hs (f := dm_ist 72 5) (lv' := [(5, .int a), (4, .int a), (0, .ref 68), (1, .int a), (2, .int b), (3, .int w)]) rfl rfl ?_
                  refine hs (f := dm_ald 73 0) rfl rfl ?_
                  refine hs (f := dm_ild 75 4) rfl rfl ?_
                  refine hs (f := dm_ild 77 5) rfl rfl ?_
                  refine hs (f := dm_push 78 (.long 0)) rfl rfl ?_
                  refine hs (f := dm_push 79 (.int 1)) rfl rfl ?_
                  have sau54 := SB_at Rq2.1 (s := a.toInt) (by omega) (by omega)
                  have sbu54 := SB_at Rq2.1 (s := a.toInt) (by omega) (by omega)
                  refine r_inv rfl hM1 rfl (as := [.ref 68, .int a, .int a, .long 0, .int 1]) rfl (Nat.le_of_ble_eq_true rfl) (hT_mono (by decide) (r_183 hM1 a a (0 : Int64) (1 : Int32) (by omega) (by omega) (by omega) (by omega) (by omega) (by omega) (by omega) (by omega)) (fun r1 M55 w => ?_))
                  obtain ⟨rfl, u54, rfl⟩ := w
                  refine hs (f := dm_lst 84 6) (lv' := [(6, .long u54), (5, .int a), (4, .int a), (0, .ref 68), (1, .int a), (2, .int b), (3, .int w)]) rfl rfl ?_
                  refine hs (f := dm_ald 85 0) rfl rfl ?_
                  refine hs (f := dm_ild 87 4) rfl rfl ?_
                  refine hs (f := dm_ild 89 5) rfl rfl ?_
                  refine hs (f := dm_lld 91 6) rfl rfl ?_
                  refine hs (f := dm_push 92 (.int 0)) rfl rfl ?_
                  have sau56 := SB_at Rq2.1 (s := a.toInt) (by omega) (by omega)
                  have sbu56 := SB_at Rq2.1 (s := a.toInt) (by omega) (by omega)
                  refine r_inv rfl hM1 rfl (as := [.ref 68, .int a, .int a, .long u54, .int 0]) rfl (Nat.le_of_ble_eq_true rfl) (hT_mono (by decide) (r_183 hM1 a a u54 (0 : Int32) (by omega) (by omega) (by omega) (by omega) (by omega) (by omega) (by omega) (by omega)) (fun r1 M57 w => ?_))
                  obtain ⟨rfl, u56, rfl⟩ := w
                  refine hs (f := dm_lst 97 8) (lv' := [(8, .long u56), (6, .long u54), (5, .int a), (4, .int a), (0, .ref 68), (1, .int a), (2, .int b), (3, .int w)]) rfl rfl ?_
                  have j100 : ∀ (nn : Nat), ∀ (k : Int32) (M : dm_Mem), Rm X q2 M → (0 ≤ k.toInt) → (k.toInt ≤ 60) → (60 - k.toInt).toNat = nn → hG 1 cd_184 100 [(10, .int k), (8, .long u56), (6, .long u54), (5, .int a), (4, .int a), (0, .ref 68), (1, .int a), (2, .int b), (3, .int w)] [] M (fun r M' => ∃ (x : Int32) (q' : rS), isB x ∧ r = some (.int x) ∧ Rm X q' M' ∧ RI (T + 1) q' ∧ q'.1 41 = q.1 41) := by
                    intro nn
                    induction nn using Nat.strongRecOn with
                    | ind nn IH =>
                      intro k M hM k0 k1 hms
                      refine hs (f := dm_ild 102 10) rfl rfl ?_
                      refine hs (f := dm_push 104 (.int 60)) rfl rfl ?_
                      refine g_ic_ge (n := 107) (tt := 142) rfl (fun h58 => ?_) (fun h58 => ?_)
                      · skip
                        have h58 : k.toInt ≥ 60 := h58
                        refine hs (f := dm_ald 143 0) rfl rfl ?_
                        refine hs (f := dm_lld 145 6) rfl rfl ?_
                        refine hs (f := dm_ild 147 10) rfl rfl ?_
                        refine hs (f := dm_li 148 (fun x y => x >>> (y.toInt64 &&& 63))) (st' := [.long (u54 >>> (k.toInt64 &&& 63)), .ref 68]) rfl rfl ?_
                        refine r_putj rfl hM rfl (fun M59 hM59 => ?_)
                        replace hM59 := rm_to (q' := (sG q2 38 (u54 >>> (k.toInt64 &&& 63)))) hM59 (show sG q2 38 (u54 >>> (k.toInt64 &&& 63)) = (sG q2 38 (u54 >>> (k.toInt64 &&& 63))) from (show sG q2 38 (u54 >>> (k.toInt64 &&& 63)) = (sG q2 38 (u54 >>> (k.toInt64 &&& 63))) from rfl))
                        refine hs (f := dm_ald 152 0) rfl rfl ?_
                        refine hs (f := dm_push 154 (.int 60)) rfl rfl ?_
                        refine hs (f := dm_ild 156 10) rfl rfl ?_
                        have e60c : ((60 : Int32)).toInt = 60 := rfl
                        have e60 : ((60 : Int32) - k).toInt = 60 - k.toInt := by have w := i_sub (x := (60 : Int32)) (y := k) (by omega) (by omega); omega
                        refine hs (f := dm_ii 157 (fun x y => x - y)) (st' := [.int ((60 : Int32) - k), .ref 68]) rfl rfl ?_
                        refine r_puti rfl hM59 rfl (fun M61 hM61 => ?_)
                        replace hM61 := rm_to (q' := (sG (sF q2 39 ((60 : Int32) - k)) 38 (u54 >>> (k.toInt64 &&& 63)))) hM61 (show sF (sG q2 38 (u54 >>> (k.toInt64 &&& 63))) 39 ((60 : Int32) - k) = (sG (sF q2 39 ((60 : Int32) - k)) 38 (u54 >>> (k.toInt64 &&& 63))) from (congrArg (fun z => (sG z 38 (u54 >>> (k.toInt64 &&& 63)))) (show sF q2 39 ((60 : Int32) - k) = (sF q2 39 ((60 : Int32) - k)) from rfl)))
                        refine hs (f := dm_push 161 (.int 1)) rfl rfl ?_
                        exact h_retB rfl isB_1 (⟨_, _, isB_1, rfl, hM61, RI_up Rq2 (by omega), fq2⟩)
                      · skip
                        have h58 : k.toInt < 60 := h58
                        refine hs (f := dm_lld 109 6) rfl rfl ?_
                        refine hs (f := dm_push 110 (.long 1)) rfl rfl ?_
                        refine hs (f := dm_ild 112 10) rfl rfl ?_
                        refine hs (f := dm_push 113 (.int 1)) rfl rfl ?_
                        have e62 : (k + (1 : Int32)).toInt = k.toInt + 1 := by have w := i_addc (x := k) (y := (1 : Int32)) 1 rfl (by omega) (by omega); omega
                        refine hs (f := dm_ii 114 (fun x y => x + y)) (st' := [.int (k + (1 : Int32)), .long 1, .long u54]) rfl rfl ?_
                        refine hs (f := dm_li 115 (fun x y => x <<< (y.toInt64 &&& 63))) (st' := [.long ((1 : Int64) <<< ((k + (1 : Int32)).toInt64 &&& 63)), .long u54]) rfl rfl ?_
                        refine h_lq (n := 116) (f := fun x y => x - x / y * y) rfl (shl_nz k0 (by omega)) ?_
                        skip
                        refine hs (f := dm_push 117 (.long 0)) rfl rfl ?_
                        refine g_lc_ne (x := ((fun x y : Int64 => x - x / y * y) u54 ((1 : Int64) <<< ((k + (1 : Int32)).toInt64 &&& 63)))) (y := (0 : Int64)) (m := 118) (n := 121) (tt := 142) rfl rfl (fun h63 => ?_) (fun h63 => ?_)
                        · skip
                          clear h63
                          refine hs (f := dm_ald 143 0) rfl rfl ?_
                          refine hs (f := dm_lld 145 6) rfl rfl ?_
                          refine hs (f := dm_ild 147 10) rfl rfl ?_
                          refine hs (f := dm_li 148 (fun x y => x >>> (y.toInt64 &&& 63))) (st' := [.long (u54 >>> (k.toInt64 &&& 63)), .ref 68]) rfl rfl ?_
                          refine r_putj rfl hM rfl (fun M64 hM64 => ?_)
                          replace hM64 := rm_to (q' := (sG q2 38 (u54 >>> (k.toInt64 &&& 63)))) hM64 (show sG q2 38 (u54 >>> (k.toInt64 &&& 63)) = (sG q2 38 (u54 >>> (k.toInt64 &&& 63))) from (show sG q2 38 (u54 >>> (k.toInt64 &&& 63)) = (sG q2 38 (u54 >>> (k.toInt64 &&& 63))) from rfl))
                          refine hs (f := dm_ald 152 0) rfl rfl ?_
                          refine hs (f := dm_push 154 (.int 60)) rfl rfl ?_
                          refine hs (f := dm_ild 156 10) rfl rfl ?_
                          have e65c : ((60 : Int32)).toInt = 60 := rfl
                          have e65 : ((60 : Int32) - k).toInt = 60 - k.toInt := by have w := i_sub (x := (60 : Int32)) (y := k) (by omega) (by omega); omega
                          refine hs (f := dm_ii 157 (fun x y => x - y)) (st' := [.int ((60 : Int32) - k), .ref 68]) rfl rfl ?_
                          refine r_puti rfl hM64 rfl (fun M66 hM66 => ?_)
                          replace hM66 := rm_to (q' := (sG (sF q2 39 ((60 : Int32) - k)) 38 (u54 >>> (k.toInt64 &&& 63)))) hM66 (show sF (sG q2 38 (u54 >>> (k.toInt64 &&& 63))) 39 ((60 : Int32) - k) = (sG (sF q2 39 ((60 : Int32) - k)) 38 (u54 >>> (k.toInt64 &&& 63))) from (congrArg (fun z => (sG z 38 (u54 >>> (k.toInt64 &&& 63)))) (show sF q2 39 ((60 : Int32) - k) = (sF q2 39 ((60 : Int32) - k)) from rfl)))
                          refine hs (f := dm_push 161 (.int 1)) rfl rfl ?_
                          exact h_retB rfl isB_1 (⟨_, _, isB_1, rfl, hM66, RI_up Rq2 (by omega), fq2⟩)
                        · skip
                          clear h63
                          refine hs (f := dm_lld 123 6) rfl rfl ?_
                          refine hs (f := dm_push 124 (.long 1)) rfl rfl ?_
                          refine hs (f := dm_ild 126 10) rfl rfl ?_
                          refine hs (f := dm_push 127 (.int 1)) rfl rfl ?_
                          have e67 : (k + (1 : Int32)).toInt = k.toInt + 1 := by have w := i_addc (x := k) (y := (1 : Int32)) 1 rfl (by omega) (by omega); omega
                          refine hs (f := dm_ii 128 (fun x y => x + y)) (st' := [.int (k + (1 : Int32)), .long 1, .long u54]) rfl rfl ?_
                          refine hs (f := dm_li 129 (fun x y => x <<< (y.toInt64 &&& 63))) (st' := [.long ((1 : Int64) <<< ((k + (1 : Int32)).toInt64 &&& 63)), .long u54]) rfl rfl ?_
                          refine hs (f := dm_ll 130 (fun x y => x + y)) (st' := [.long (u54 + ((1 : Int64) <<< ((k + (1 : Int32)).toInt64 &&& 63)))]) rfl rfl ?_
                          refine hs (f := dm_lld 132 8) rfl rfl ?_
                          refine g_lc_gt (x := (u54 + ((1 : Int64) <<< ((k + (1 : Int32)).toInt64 &&& 63)))) (y := u56) (m := 133) (n := 136) (tt := 142) rfl rfl (fun h68 => ?_) (fun h68 => ?_)
                          · skip
                            clear h68
                            refine hs (f := dm_ald 143 0) rfl rfl ?_
                            refine hs (f := dm_lld 145 6) rfl rfl ?_
                            refine hs (f := dm_ild 147 10) rfl rfl ?_
                            refine hs (f := dm_li 148 (fun x y => x >>> (y.toInt64 &&& 63))) (st' := [.long (u54 >>> (k.toInt64 &&& 63)), .ref 68]) rfl rfl ?_
                            refine r_putj rfl hM rfl (fun M69 hM69 => ?_)
                            replace hM69 := rm_to (q' := (sG q2 38 (u54 >>> (k.toInt64 &&& 63)))) hM69 (show sG q2 38 (u54 >>> (k.toInt64 &&& 63)) = (sG q2 38 (u54 >>> (k.toInt64 &&& 63))) from (show sG q2 38 (u54 >>> (k.toInt64 &&& 63)) = (sG q2 38 (u54 >>> (k.toInt64 &&& 63))) from rfl))
                            refine hs (f := dm_ald 152 0) rfl rfl ?_
                            refine hs (f := dm_push 154 (.int 60)) rfl rfl ?_
                            refine hs (f := dm_ild 156 10) rfl rfl ?_
                            have e70c : ((60 : Int32)).toInt = 60 := rfl
                            have e70 : ((60 : Int32) - k).toInt = 60 - k.toInt := by have w := i_sub (x := (60 : Int32)) (y := k) (by omega) (by omega); omega
                            refine hs (f := dm_ii 157 (fun x y => x - y)) (st' := [.int ((60 : Int32) - k), .ref 68]) rfl rfl ?_
                            refine r_puti rfl hM69 rfl (fun M71 hM71 => ?_)
                            replace hM71 := rm_to (q' := (sG (sF q2 39 ((60 : Int32) - k)) 38 (u54 >>> (k.toInt64 &&& 63)))) hM71 (show sF (sG q2 38 (u54 >>> (k.toInt64 &&& 63))) 39 ((60 : Int32) - k) = (sG (sF q2 39 ((60 : Int32) - k)) 38 (u54 >>> (k.toInt64 &&& 63))) from (congrArg (fun z => (sG z 38 (u54 >>> (k.toInt64 &&& 63)))) (show sF q2 39 ((60 : Int32) - k) = (sF q2 39 ((60 : Int32) - k)) from rfl)))
                            refine hs (f := dm_push 161 (.int 1)) rfl rfl ?_
                            exact h_retB rfl isB_1 (⟨_, _, isB_1, rfl, hM71, RI_up Rq2 (by omega), fq2⟩)
                          · skip
                            clear h68
                            have e72 : (k + 1).toInt = k.toInt + 1 := by have w := i_addc (x := k) (y := 1) 1 rfl (by omega) (by omega); omega
                            refine hs (f := dm_iinc 139 10 1) (lv' := [(10, .int (k + 1)), (8, .long u56), (6, .long u54), (5, .int a), (4, .int a), (0, .ref 68), (1, .int a), (2, .int b), (3, .int w)]) rfl rfl ?_
                            refine hs (f := dm_goto 100) rfl rfl ?_
                            exact (IH _ (by omega)) (k + 1) _ hM (by omega) (by omega) rfl
                  refine hs (f := dm_push 98 (.int 0)) rfl rfl ?_
                  refine hs (f := dm_ist 100 10) (lv' := [(10, .int 0), (8, .long u56), (6, .long u54), (5, .int a), (4, .int a), (0, .ref 68), (1, .int a), (2, .int b), (3, .int w)]) rfl rfl ?_
                  exact (j100 _) (0 : Int32) _ hM1 (by decide) (by decide) rfl
                · skip
                  have h53 : w.toInt = 0 := h53
                  refine hs (f := dm_ild 66 2) rfl rfl ?_
                  refine hs (f := dm_goto 70) rfl rfl ?_
                  refine hs (f := dm_ist 72 5) (lv' := [(5, .int b), (4, .int a), (0, .ref 68), (1, .int a), (2, .int b), (3, .int w)]) rfl rfl ?_
                  refine hs (f := dm_ald 73 0) rfl rfl ?_
                  refine hs (f := dm_ild 75 4) rfl rfl ?_
                  refine hs (f := dm_ild 77 5) rfl rfl ?_
                  refine hs (f := dm_push 78 (.long 0)) rfl rfl ?_
                  refine hs (f := dm_push 79 (.int 1)) rfl rfl ?_
                  have sau73 := SB_at Rq2.1 (s := a.toInt) (by omega) (by omega)
                  have sbu73 := SB_at Rq2.1 (s := b.toInt) (by omega) (by omega)
                  refine r_inv rfl hM1 rfl (as := [.ref 68, .int a, .int b, .long 0, .int 1]) rfl (Nat.le_of_ble_eq_true rfl) (hT_mono (by decide) (r_183 hM1 a b (0 : Int64) (1 : Int32) (by omega) (by omega) (by omega) (by omega) (by omega) (by omega) (by omega) (by omega)) (fun r1 M74 w => ?_))
                  obtain ⟨rfl, u73, rfl⟩ := w
                  refine hs (f := dm_lst 84 6) (lv' := [(6, .long u73), (5, .int b), (4, .int a), (0, .ref 68), (1, .int a), (2, .int b), (3, .int w)]) rfl rfl ?_
                  refine hs (f := dm_ald 85 0) rfl rfl ?_
                  refine hs (f := dm_ild 87 4) rfl rfl ?_
                  refine hs (f := dm_ild 89 5) rfl rfl ?_
                  refine hs (f := dm_lld 91 6) rfl rfl ?_
                  refine hs (f := dm_push 92 (.int 0)) rfl rfl ?_
                  have sau75 := SB_at Rq2.1 (s := a.toInt) (by omega) (by omega)
                  have sbu75 := SB_at Rq2.1 (s := b.toInt) (by omega) (by omega)
                  refine r_inv rfl hM1 rfl (as := [.ref 68, .int a, .int b, .long u73, .int 0]) rfl (Nat.le_of_ble_eq_true rfl) (hT_mono (by decide) (r_183 hM1 a b u73 (0 : Int32) (by omega) (by omega) (by omega) (by omega) (by omega) (by omega) (by omega) (by omega)) (fun r1 M76 w => ?_))
                  obtain ⟨rfl, u75, rfl⟩ := w
                  refine hs (f := dm_lst 97 8) (lv' := [(8, .long u75), (6, .long u73), (5, .int b), (4, .int a), (0, .ref 68), (1, .int a), (2, .int b), (3, .int w)]) rfl rfl ?_
                  have j100 : ∀ (nn : Nat), ∀ (k : Int32) (M : dm_Mem), Rm X q2 M → (0 ≤ k.toInt) → (k.toInt ≤ 60) → (60 - k.toInt).toNat = nn → hG 1 cd_184 100 [(10, .int k), (8, .long u75), (6, .long u73), (5, .int b), (4, .int a), (0, .ref 68), (1, .int a), (2, .int b), (3, .int w)] [] M (fun r M' => ∃ (x : Int32) (q' : rS), isB x ∧ r = some (.int x) ∧ Rm X q' M' ∧ RI (T + 1) q' ∧ q'.1 41 = q.1 41) := by
                    intro nn
                    induction nn using Nat.strongRecOn with
                    | ind nn IH =>
                      intro k M hM k0 k1 hms
                      refine hs (f := dm_ild 102 10) rfl rfl ?_
                      refine hs (f := dm_push 104 (.int 60)) rfl rfl ?_
                      refine g_ic_ge (n := 107) (tt := 142) rfl (fun h77 => ?_) (fun h77 => ?_)
                      · skip
                        have h77 : k.toInt ≥ 60 := h77
                        refine hs (f := dm_ald 143 0) rfl rfl ?_
                        refine hs (f := dm_lld 145 6) rfl rfl ?_
                        refine hs (f := dm_ild 147 10) rfl rfl ?_
                        refine hs (f := dm_li 148 (fun x y => x >>> (y.toInt64 &&& 63))) (st' := [.long (u73 >>> (k.toInt64 &&& 63)), .ref 68]) rfl rfl ?_
                        refine r_putj rfl hM rfl (fun M78 hM78 => ?_)
                        replace hM78 := rm_to (q' := (sG q2 38 (u73 >>> (k.toInt64 &&& 63)))) hM78 (show sG q2 38 (u73 >>> (k.toInt64 &&& 63)) = (sG q2 38 (u73 >>> (k.toInt64 &&& 63))) from (show sG q2 38 (u73 >>> (k.toInt64 &&& 63)) = (sG q2 38 (u73 >>> (k.toInt64 &&& 63))) from rfl))
                        refine hs (f := dm_ald 152 0) rfl rfl ?_
                        refine hs (f := dm_push 154 (.int 60)) rfl rfl ?_
                        refine hs (f := dm_ild 156 10) rfl rfl ?_
                        have e79c : ((60 : Int32)).toInt = 60 := rfl
                        have e79 : ((60 : Int32) - k).toInt = 60 - k.toInt := by have w := i_sub (x := (60 : Int32)) (y := k) (by omega) (by omega); omega
                        refine hs (f := dm_ii 157 (fun x y => x - y)) (st' := [.int ((60 : Int32) - k), .ref 68]) rfl rfl ?_
                        refine r_puti rfl hM78 rfl (fun M80 hM80 => ?_)
                        replace hM80 := rm_to (q' := (sG (sF q2 39 ((60 : Int32) - k)) 38 (u73 >>> (k.toInt64 &&& 63)))) hM80 (show sF (sG q2 38 (u73 >>> (k.toInt64 &&& 63))) 39 ((60 : Int32) - k) = (sG (sF q2 39 ((60 : Int32) - k)) 38 (u73 >>> (k.toInt64 &&& 63))) from (congrArg (fun z => (sG z 38 (u73 >>> (k.toInt64 &&& 63)))) (show sF q2 39 ((60 : Int32) - k) = (sF q2 39 ((60 : Int32) - k)) from rfl)))
                        refine hs (f := dm_push 161 (.int 1)) rfl rfl ?_
                        exact h_retB rfl isB_1 (⟨_, _, isB_1, rfl, hM80, RI_up Rq2 (by omega), fq2⟩)
                      · skip
                        have h77 : k.toInt < 60 := h77
                        refine hs (f := dm_lld 109 6) rfl rfl ?_
                        refine hs (f := dm_push 110 (.long 1)) rfl rfl ?_
                        refine hs (f := dm_ild 112 10) rfl rfl ?_
                        refine hs (f := dm_push 113 (.int 1)) rfl rfl ?_
                        have e81 : (k + (1 : Int32)).toInt = k.toInt + 1 := by have w := i_addc (x := k) (y := (1 : Int32)) 1 rfl (by omega) (by omega); omega
                        refine hs (f := dm_ii 114 (fun x y => x + y)) (st' := [.int (k + (1 : Int32)), .long 1, .long u73]) rfl rfl ?_
                        refine hs (f := dm_li 115 (fun x y => x <<< (y.toInt64 &&& 63))) (st' := [.long ((1 : Int64) <<< ((k + (1 : Int32)).toInt64 &&& 63)), .long u73]) rfl rfl ?_
                        refine h_lq (n := 116) (f := fun x y => x - x / y * y) rfl (shl_nz k0 (by omega)) ?_
                        skip
                        refine hs (f := dm_push 117 (.long 0)) rfl rfl ?_
                        refine g_lc_ne (x := ((fun x y : Int64 => x - x / y * y) u73 ((1 : Int64) <<< ((k + (1 : Int32)).toInt64 &&& 63)))) (y := (0 : Int64)) (m := 118) (n := 121) (tt := 142) rfl rfl (fun h82 => ?_) (fun h82 => ?_)
                        · skip
                          clear h82
                          refine hs (f := dm_ald 143 0) rfl rfl ?_
                          refine hs (f := dm_lld 145 6) rfl rfl ?_
                          refine hs (f := dm_ild 147 10) rfl rfl ?_
                          refine hs (f := dm_li 148 (fun x y => x >>> (y.toInt64 &&& 63))) (st' := [.long (u73 >>> (k.toInt64 &&& 63)), .ref 68]) rfl rfl ?_
                          refine r_putj rfl hM rfl (fun M83 hM83 => ?_)
                          replace hM83 := rm_to (q' := (sG q2 38 (u73 >>> (k.toInt64 &&& 63)))) hM83 (show sG q2 38 (u73 >>> (k.toInt64 &&& 63)) = (sG q2 38 (u73 >>> (k.toInt64 &&& 63))) from (show sG q2 38 (u73 >>> (k.toInt64 &&& 63)) = (sG q2 38 (u73 >>> (k.toInt64 &&& 63))) from rfl))
                          refine hs (f := dm_ald 152 0) rfl rfl ?_
                          refine hs (f := dm_push 154 (.int 60)) rfl rfl ?_
                          refine hs (f := dm_ild 156 10) rfl rfl ?_
                          have e84c : ((60 : Int32)).toInt = 60 := rfl
                          have e84 : ((60 : Int32) - k).toInt = 60 - k.toInt := by have w := i_sub (x := (60 : Int32)) (y := k) (by omega) (by omega); omega
                          refine hs (f := dm_ii 157 (fun x y => x - y)) (st' := [.int ((60 : Int32) - k), .ref 68]) rfl rfl ?_
                          refine r_puti rfl hM83 rfl (fun M85 hM85 => ?_)
                          replace hM85 := rm_to (q' := (sG (sF q2 39 ((60 : Int32) - k)) 38 (u73 >>> (k.toInt64 &&& 63)))) hM85 (show sF (sG q2 38 (u73 >>> (k.toInt64 &&& 63))) 39 ((60 : Int32) - k) = (sG (sF q2 39 ((60 : Int32) - k)) 38 (u73 >>> (k.toInt64 &&& 63))) from (congrArg (fun z => (sG z 38 (u73 >>> (k.toInt64 &&& 63)))) (show sF q2 39 ((60 : Int32) - k) = (sF q2 39 ((60 : Int32) - k)) from rfl)))
                          refine hs (f := dm_push 161 (.int 1)) rfl rfl ?_
                          exact h_retB rfl isB_1 (⟨_, _, isB_1, rfl, hM85, RI_up Rq2 (by omega), fq2⟩)
                        · skip
                          clear h82
                          refine hs (f := dm_lld 123 6) rfl rfl ?_
                          refine hs (f := dm_push 124 (.long 1)) rfl rfl ?_
                          refine hs (f := dm_ild 126 10) rfl rfl ?_
                          refine hs (f := dm_push 127 (.int 1)) rfl rfl ?_
                          have e86 : (k + (1 : Int32)).toInt = k.toInt + 1 := by have w := i_addc (x := k) (y := (1 : Int32)) 1 rfl (by omega) (by omega); omega
                          refine hs (f := dm_ii 128 (fun x y => x + y)) (st' := [.int (k + (1 : Int32)), .long 1, .long u73]) rfl rfl ?_
                          refine hs (f := dm_li 129 (fun x y => x <<< (y.toInt64 &&& 63))) (st' := [.long ((1 : Int64) <<< ((k + (1 : Int32)).toInt64 &&& 63)), .long u73]) rfl rfl ?_
                          refine hs (f := dm_ll 130 (fun x y => x + y)) (st' := [.long (u73 + ((1 : Int64) <<< ((k + (1 : Int32)).toInt64 &&& 63)))]) rfl rfl ?_
                          refine hs (f := dm_lld 132 8) rfl rfl ?_
                          refine g_lc_gt (x := (u73 + ((1 : Int64) <<< ((k + (1 : Int32)).toInt64 &&& 63)))) (y := u75) (m := 133) (n := 136) (tt := 142) rfl rfl (fun h87 => ?_) (fun h87 => ?_)
                          · skip
                            clear h87
                            refine hs (f := dm_ald 143 0) rfl rfl ?_
                            refine hs (f := dm_lld 145 6) rfl rfl ?_
                            refine hs (f := dm_ild 147 10) rfl rfl ?_
                            refine hs (f := dm_li 148 (fun x y => x >>> (y.toInt64 &&& 63))) (st' := [.long (u73 >>> (k.toInt64 &&& 63)), .ref 68]) rfl rfl ?_
                            refine r_putj rfl hM rfl (fun M88 hM88 => ?_)
                            replace hM88 := rm_to (q' := (sG q2 38 (u73 >>> (k.toInt64 &&& 63)))) hM88 (show sG q2 38 (u73 >>> (k.toInt64 &&& 63)) = (sG q2 38 (u73 >>> (k.toInt64 &&& 63))) from (show sG q2 38 (u73 >>> (k.toInt64 &&& 63)) = (sG q2 38 (u73 >>> (k.toInt64 &&& 63))) from rfl))
                            refine hs (f := dm_ald 152 0) rfl rfl ?_
                            refine hs (f := dm_push 154 (.int 60)) rfl rfl ?_
                            refine hs (f := dm_ild 156 10) rfl rfl ?_
                            have e89c : ((60 : Int32)).toInt = 60 := rfl
                            have e89 : ((60 : Int32) - k).toInt = 60 - k.toInt := by have w := i_sub (x := (60 : Int32)) (y := k) (by omega) (by omega); omega
                            refine hs (f := dm_ii 157 (fun x y => x - y)) (st' := [.int ((60 : Int32) - k), .ref 68]) rfl rfl ?_
                            refine r_puti rfl hM88 rfl (fun M90 hM90 => ?_)
                            replace hM90 := rm_to (q' := (sG (sF q2 39 ((60 : Int32) - k)) 38 (u73 >>> (k.toInt64 &&& 63)))) hM90 (show sF (sG q2 38 (u73 >>> (k.toInt64 &&& 63))) 39 ((60 : Int32) - k) = (sG (sF q2 39 ((60 : Int32) - k)) 38 (u73 >>> (k.toInt64 &&& 63))) from (congrArg (fun z => (sG z 38 (u73 >>> (k.toInt64 &&& 63)))) (show sF q2 39 ((60 : Int32) - k) = (sF q2 39 ((60 : Int32) - k)) from rfl)))
                            refine hs (f := dm_push 161 (.int 1)) rfl rfl ?_
                            exact h_retB rfl isB_1 (⟨_, _, isB_1, rfl, hM90, RI_up Rq2 (by omega), fq2⟩)
                          · skip
                            clear h87
                            have e91 : (k + 1).toInt = k.toInt + 1 := by have w := i_addc (x := k) (y := 1) 1 rfl (by omega) (by omega); omega
                            refine hs (f := dm_iinc 139 10 1) (lv' := [(10, .int (k + 1)), (8, .long u75), (6, .long u73), (5, .int b), (4, .int a), (0, .ref 68), (1, .int a), (2, .int b), (3, .int w)]) rfl rfl ?_
                            refine hs (f := dm_goto 100) rfl rfl ?_
                            exact (IH _ (by omega)) (k + 1) _ hM (by omega) (by omega) rfl
                  refine hs (f := dm_push 98 (.int 0)) rfl rfl ?_
                  refine hs (f := dm_ist 100 10) (lv' := [(10, .int 0), (8, .long u75), (6, .long u73), (5, .int b), (4, .int a), (0, .ref 68), (1, .int a), (2, .int b), (3, .int w)]) rfl rfl ?_
                  exact (j100 _) (0 : Int32) _ hM1 (by decide) (by decide) rfl
            · skip
              have h12 : w.toInt > 1 := h12
              refine hs (f := dm_push 49 (.int 0)) rfl rfl ?_
              exact h_retB rfl isB_0 (⟨_, _, isB_0, rfl, hM1, RI_up Rq2 (by omega), fq2⟩)
    · skip
      refine hs (f := dm_if_eq 21 48) (pc' := 48) rfl rfl ?_
      refine hs (f := dm_push 49 (.int 0)) rfl rfl ?_
      exact h_retB rfl isB_0 (⟨_, _, isB_0, rfl, hM1, RI_up Rq2 (by omega), fq2⟩)
  · skip
    refine hs (f := dm_if_eq 13 48) (pc' := 48) rfl rfl ?_
    refine hs (f := dm_push 49 (.int 0)) rfl rfl ?_
    exact h_retB rfl isB_0 (⟨_, _, isB_0, rfl, hM1, RI_up Rq2 (by omega), fq2⟩)
