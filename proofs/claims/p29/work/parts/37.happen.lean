theorem r_159 {X : dm_Mem} {q : rS} (hS : wS (q.2.2.2 92) (q.1 29).toInt) (hn : (q.1 29).toInt ≤ 24000) (ho : 0 ≤ (q.1 34).toInt ∧ (q.1 34).toInt ≤ 24000) (hab : ∀ i : Int, 0 ≤ i → i < (q.1 34).toInt → rB (q.2.2.2 96) i < rB (q.2.2.2 97) i) (j : Nat) : ∀ (f s : Int64) (c60 c61 : Int64) (M : dm_Mem), Rm X (sG (sG q 60 c60) 61 c61) M → s.toInt = 2 ^ j → 0 ≤ f.toInt → f.toInt + s.toInt ≤ 1152921504606846976 → ¬ Part (q.2.2.2 96) (q.2.2.2 97) (q.1 34).toInt f.toInt s.toInt = 0 → hT (2 + 1 + j) 159 [.ref 68, .long f, .long s] M (fun r M' => ∃ (v : Int32) (d60 d61 : Int64), r = some (.int v) ∧ f.toInt ≤ d60.toInt ∧ 0 < d61.toInt ∧ d60.toInt + d61.toInt ≤ f.toInt + s.toInt ∧ Rm X (sG (sG q 60 d60) 61 d61) M') := by
  induction j using Nat.strongRecOn with
  | ind j IH =>
    intro f s c60 c61 M hM hs0 hf hfs hP
    rw [show 2 + 1 + j = (2 + j) + 1 by omega]
    have hp := p2_pos j
    refine hx (t := cd_159) rfl (Nat.le_of_ble_eq_true rfl) (lv := [(0, .ref 68), (1, .long f), (3, .long s)]) rfl ?_
    refine hs (f := dm_ald 1 0) rfl rfl ?_
    refine hs (f := dm_lld 2 1) rfl rfl ?_
    refine hs (f := dm_lld 3 3) rfl rfl ?_
    refine r_inv rfl hM rfl (as := [.ref 68, .long f, .long s]) rfl (Nat.le_of_ble_eq_true rfl) (hT_mono (by omega) (show hT 1 152 [.ref 68, .long f, .long s] _ (fun r M' => r = some (.int (Int32.ofNat (Part (q.2.2.2 96) (q.2.2.2 97) (q.1 34).toInt f.toInt s.toInt))) ∧ M' = _) from r_152 hM f s ho (by omega) (by omega) (by omega)) (fun r1 M1 w => ?_))
    obtain ⟨rfl, rfl⟩ := w
    have lP2 := Part_le (a := (q.2.2.2 96)) (b := (q.2.2.2 97)) (n := (q.1 34).toInt) (f := f.toInt) (s := s.toInt)
    generalize hP2 : Part (q.2.2.2 96) (q.2.2.2 97) (q.1 34).toInt f.toInt s.toInt = P2 at lP2 ⊢
    have eP2 : (Int32.ofNat P2).toInt = P2 := i_ofNat (by omega)
    refine hs (f := dm_push 7 (.int 1)) rfl rfl ?_
    refine g_ic_ne (n := 10) (tt := 22) rfl (fun h3 => ?_) (fun h3 => ?_)
    · skip
      have h3 : ¬ (Int32.ofNat P2).toInt = 1 := h3
      cases j with
      | zero =>
        exfalso
        have z := Part_one (a := (q.2.2.2 96)) (b := (q.2.2.2 97)) (n := (q.1 34).toInt) (f := f.toInt)
        rw [show (1 : Int) = s.toInt by omega, hP2] at z
        rw [hP2] at hP
        omega
      | succ j =>
        have hp1 := p2_pos j
        have hp2 := p2_succ j
        refine hs (f := dm_ald 23 0) rfl rfl ?_
        refine hs (f := dm_lld 24 1) rfl rfl ?_
        refine hs (f := dm_lld 25 3) rfl rfl ?_
        refine r_inv rfl hM rfl (as := [.ref 68, .long f, .long s]) rfl (Nat.le_of_ble_eq_true rfl) (hT_mono (by omega) (show hT 2 145 [.ref 68, .long f, .long s] _ (fun r M' => M' = _ ∧ ((r = some (.int 1) ∧ flat (q.2.2.2 92) (q.1 29).toInt f.toInt s.toInt) ∨ (r = some (.int 0) ∧ ¬ flat (q.2.2.2 92) (q.1 29).toInt f.toInt s.toInt))) from r_145 hM f s hS (show (q.1 29).toInt ≤ 24000 by omega) (by omega) (by omega) (by omega)) (fun r1 M4 w => ?_))
        obtain ⟨rfl, ⟨rfl, u5⟩ | ⟨rfl, u5⟩⟩ := w
        · skip
          refine hs (f := dm_if_eq 31 37) (pc' := 31) rfl rfl ?_
          refine hs (f := dm_push 34 (.int 1001)) rfl rfl ?_
          refine hs (f := dm_goto 38) rfl rfl ?_
          refine hs (f := dm_ist 40 5) (lv' := [(5, .int 1001), (0, .ref 68), (1, .long f), (3, .long s)]) rfl rfl ?_
          refine hs (f := dm_lld 41 3) rfl rfl ?_
          refine hs (f := dm_push 44 (.long 2)) rfl rfl ?_
          have e6 : (s / (2 : Int64)).toInt = s.toInt / 2 := by have w := j_half (x := s) (by omega); omega
          refine hs (f := dm_lq 45 (fun x y => x / y)) (st' := [.long (s / (2 : Int64))]) rfl rfl ?_
          refine hs (f := dm_lst 47 6) (lv' := [(6, .long (s / (2 : Int64))), (5, .int 1001), (0, .ref 68), (1, .long f), (3, .long s)]) rfl rfl ?_
          generalize g7 : s / (2 : Int64) = half at e6 ⊢
          refine hs (f := dm_ald 48 0) rfl rfl ?_
          refine hs (f := dm_lld 49 1) rfl rfl ?_
          refine hs (f := dm_lld 51 6) rfl rfl ?_
          refine r_inv rfl hM rfl (as := [.ref 68, .long f, .long half]) rfl (Nat.le_of_ble_eq_true rfl) (hT_mono (by omega) (show hT 1 152 [.ref 68, .long f, .long half] _ (fun r M' => r = some (.int (Int32.ofNat (Part (q.2.2.2 96) (q.2.2.2 97) (q.1 34).toInt f.toInt half.toInt))) ∧ M' = _) from r_152 hM f half ho (by omega) (by omega) (by omega)) (fun r1 M8 w => ?_))
          obtain ⟨rfl, rfl⟩ := w
          have lP9 := Part_le (a := (q.2.2.2 96)) (b := (q.2.2.2 97)) (n := (q.1 34).toInt) (f := f.toInt) (s := half.toInt)
          generalize hP9 : Part (q.2.2.2 96) (q.2.2.2 97) (q.1 34).toInt f.toInt half.toInt = P9 at lP9 ⊢
          have eP9 : (Int32.ofNat P9).toInt = P9 := i_ofNat (by omega)
          refine g_if_ne (n := 57) (tt := 71) rfl (fun h10 => ?_) (fun h10 => ?_)
          · skip
            have h10 : ¬ (Int32.ofNat P9).toInt = 0 := h10
            refine hs (f := dm_ald 72 0) rfl rfl ?_
            refine hs (f := dm_lld 73 1) rfl rfl ?_
            refine hs (f := dm_lld 75 6) rfl rfl ?_
            refine r_inv rfl hM rfl (as := [.ref 68, .long f, .long half]) rfl (Nat.le_of_ble_eq_true rfl) (hT_mono (by omega) (IH j (by omega) f half c60 c61 _ hM (by omega) (by omega) (by omega) (by rw [hP9]; omega)) (fun r1 M11 w => ?_))
            obtain ⟨u12, d60u12, d61u12, rfl, k1u12, k2u12, k3u12, hM11⟩ := w
            refine hs (f := dm_ist 80 8) (lv' := [(8, .int u12), (6, .long half), (5, .int 1001), (0, .ref 68), (1, .long f), (3, .long s)]) rfl rfl ?_
            refine hs (f := dm_ald 81 0) rfl rfl ?_
            refine hs (f := dm_lld 82 1) rfl rfl ?_
            refine hs (f := dm_lld 84 6) rfl rfl ?_
            have e13 : (f + half).toInt = f.toInt + s.toInt / 2 := by have w := j_add (x := f) (y := half) (by omega) (by omega); omega
            refine hs (f := dm_ll 85 (fun x y => x + y)) (st' := [.long (f + half), .ref 68]) rfl rfl ?_
            refine hs (f := dm_lld 87 6) rfl rfl ?_
            refine r_inv rfl hM11 rfl (as := [.ref 68, .long (f + half), .long half]) rfl (Nat.le_of_ble_eq_true rfl) (hT_mono (by omega) (show hT 1 152 [.ref 68, .long (f + half), .long half] _ (fun r M' => r = some (.int (Int32.ofNat (Part (q.2.2.2 96) (q.2.2.2 97) (q.1 34).toInt (f + half).toInt half.toInt))) ∧ M' = _) from r_152 hM11 (f + half) half ho (by omega) (by omega) (by omega)) (fun r1 M14 w => ?_))
            obtain ⟨rfl, rfl⟩ := w
            have lP15 := Part_le (a := (q.2.2.2 96)) (b := (q.2.2.2 97)) (n := (q.1 34).toInt) (f := (f + half).toInt) (s := half.toInt)
            generalize hP15 : Part (q.2.2.2 96) (q.2.2.2 97) (q.1 34).toInt (f + half).toInt half.toInt = P15 at lP15 ⊢
            have eP15 : (Int32.ofNat P15).toInt = P15 := i_ofNat (by omega)
            refine g_if_ne (n := 93) (tt := 99) rfl (fun h16 => ?_) (fun h16 => ?_)
            · skip
              have h16 : ¬ (Int32.ofNat P15).toInt = 0 := h16
              refine hs (f := dm_ald 100 0) rfl rfl ?_
              refine r_getj d60u12 rfl hM11 rfl rfl ?_
              refine hs (f := dm_lst 105 9) (lv' := [(9, .long d60u12), (8, .int u12), (6, .long half), (5, .int 1001), (0, .ref 68), (1, .long f), (3, .long s)]) rfl rfl ?_
              refine hs (f := dm_ald 106 0) rfl rfl ?_
              refine r_getj d61u12 rfl hM11 rfl rfl ?_
              refine hs (f := dm_lst 111 11) (lv' := [(11, .long d61u12), (9, .long d60u12), (8, .int u12), (6, .long half), (5, .int 1001), (0, .ref 68), (1, .long f), (3, .long s)]) rfl rfl ?_
              refine hs (f := dm_ald 112 0) rfl rfl ?_
              refine hs (f := dm_lld 113 1) rfl rfl ?_
              refine hs (f := dm_lld 115 6) rfl rfl ?_
              have e17 : (f + half).toInt = f.toInt + s.toInt / 2 := by have w := j_add (x := f) (y := half) (by omega) (by omega); omega
              refine hs (f := dm_ll 116 (fun x y => x + y)) (st' := [.long (f + half), .ref 68]) rfl rfl ?_
              refine hs (f := dm_lld 118 6) rfl rfl ?_
              refine r_inv rfl hM11 rfl (as := [.ref 68, .long (f + half), .long half]) rfl (Nat.le_of_ble_eq_true rfl) (hT_mono (by omega) (IH j (by omega) (f + half) half d60u12 d61u12 _ hM11 (by omega) (by omega) (by omega) (by rw [hP15]; omega)) (fun r1 M18 w => ?_))
              obtain ⟨u19, d60u19, d61u19, rfl, k1u19, k2u19, k3u19, hM18⟩ := w
              refine hs (f := dm_ist 123 13) (lv' := [(13, .int u19), (11, .long d61u12), (9, .long d60u12), (8, .int u12), (6, .long half), (5, .int 1001), (0, .ref 68), (1, .long f), (3, .long s)]) rfl rfl ?_
              refine hs (f := dm_ild 125 8) rfl rfl ?_
              refine hs (f := dm_ild 127 13) rfl rfl ?_
              refine g_ic_lt (n := 130) (tt := 136) rfl (fun h20 => ?_) (fun h20 => ?_)
              · skip
                have h20 : u12.toInt < u19.toInt := h20
                refine hs (f := dm_ald 137 0) rfl rfl ?_
                refine hs (f := dm_lld 139 9) rfl rfl ?_
                refine r_putj rfl hM18 rfl (fun M21 hM21 => ?_)
                replace hM21 := rm_to (q' := (sG (sG q 60 d60u12) 61 d61u19)) hM21 (show sG (sG (sG q 60 d60u19) 61 d61u19) 60 d60u12 = (sG (sG q 60 d60u12) 61 d61u19) from (show sG (sG (sG q 60 d60u19) 61 d61u19) 60 d60u12 = (sG (sG q 60 d60u12) 61 d61u19) from Eq.trans (show sG (sG (sG q 60 d60u19) 61 d61u19) 60 d60u12 = sG (sG (sG q 60 d60u19) 60 d60u12) 61 d61u19 from sG_cm (by decide)) (congrArg (fun z => sG z 61 d61u19) (show sG (sG q 60 d60u19) 60 d60u12 = (sG q 60 d60u12) from sG_sG))))
                refine hs (f := dm_ald 143 0) rfl rfl ?_
                refine hs (f := dm_lld 145 11) rfl rfl ?_
                refine r_putj rfl hM21 rfl (fun M22 hM22 => ?_)
                replace hM22 := rm_to (q' := (sG (sG q 60 d60u12) 61 d61u12)) hM22 (show sG (sG (sG q 60 d60u12) 61 d61u19) 61 d61u12 = (sG (sG q 60 d60u12) 61 d61u12) from (show sG (sG (sG q 60 d60u12) 61 d61u19) 61 d61u12 = (sG (sG q 60 d60u12) 61 d61u12) from sG_sG))
                refine hs (f := dm_ild 150 5) rfl rfl ?_
                refine hs (f := dm_ild 152 8) rfl rfl ?_
                refine hs (f := dm_ii 153 (fun x y => x + y)) (st' := [.int ((1001 : Int32) + u12)]) rfl rfl ?_
                exact hr (f := dm_ret .int) rfl rfl (⟨_, d60u12, d61u12, rfl, by omega, by omega, by omega, hM22⟩)
              · skip
                have h20 : u12.toInt ≥ u19.toInt := h20
                refine hs (f := dm_ild 132 5) rfl rfl ?_
                refine hs (f := dm_ild 134 13) rfl rfl ?_
                refine hs (f := dm_ii 135 (fun x y => x + y)) (st' := [.int ((1001 : Int32) + u19)]) rfl rfl ?_
                exact hr (f := dm_ret .int) rfl rfl (⟨_, d60u19, d61u19, rfl, by omega, by omega, by omega, hM18⟩)
            · skip
              have h16 : (Int32.ofNat P15).toInt = 0 := h16
              refine hs (f := dm_ild 95 5) rfl rfl ?_
              refine hs (f := dm_ild 97 8) rfl rfl ?_
              refine hs (f := dm_ii 98 (fun x y => x + y)) (st' := [.int ((1001 : Int32) + u12)]) rfl rfl ?_
              exact hr (f := dm_ret .int) rfl rfl (⟨_, d60u12, d61u12, rfl, by omega, by omega, by omega, hM11⟩)
          · skip
            have h10 : (Int32.ofNat P9).toInt = 0 := h10
            refine hs (f := dm_ild 59 5) rfl rfl ?_
            refine hs (f := dm_ald 60 0) rfl rfl ?_
            refine hs (f := dm_lld 61 1) rfl rfl ?_
            refine hs (f := dm_lld 63 6) rfl rfl ?_
            have e23 : (f + half).toInt = f.toInt + s.toInt / 2 := by have w := j_add (x := f) (y := half) (by omega) (by omega); omega
            refine hs (f := dm_ll 64 (fun x y => x + y)) (st' := [.long (f + half), .ref 68, .int 1001]) rfl rfl ?_
            refine hs (f := dm_lld 66 6) rfl rfl ?_
            refine r_inv rfl hM rfl (as := [.ref 68, .long (f + half), .long half]) rfl (Nat.le_of_ble_eq_true rfl) (hT_mono (by omega) (IH j (by omega) (f + half) half c60 c61 _ hM (by omega) (by omega) (by omega) (by have z := Part_half (a := (q.2.2.2 96)) (b := (q.2.2.2 97)) (n := (q.1 34).toInt) (f := f.toInt) (s := half.toInt) (by omega) hab (by rw [show half.toInt + half.toInt = s.toInt by omega]; exact hP) (by rw [hP9]; omega); rw [show (f + half).toInt = f.toInt + half.toInt by omega]; exact z)) (fun r1 M24 w => ?_))
            obtain ⟨u25, d60u25, d61u25, rfl, k1u25, k2u25, k3u25, hM24⟩ := w
            refine hs (f := dm_ii 70 (fun x y => x + y)) (st' := [.int ((1001 : Int32) + u25)]) rfl rfl ?_
            exact hr (f := dm_ret .int) rfl rfl (⟨_, d60u25, d61u25, rfl, by omega, by omega, by omega, hM24⟩)
        · skip
          refine hs (f := dm_if_eq 31 37) (pc' := 37) rfl rfl ?_
          refine hs (f := dm_push 38 (.int 1)) rfl rfl ?_
          refine hs (f := dm_ist 40 5) (lv' := [(5, .int 1), (0, .ref 68), (1, .long f), (3, .long s)]) rfl rfl ?_
          refine hs (f := dm_lld 41 3) rfl rfl ?_
          refine hs (f := dm_push 44 (.long 2)) rfl rfl ?_
          have e26 : (s / (2 : Int64)).toInt = s.toInt / 2 := by have w := j_half (x := s) (by omega); omega
          refine hs (f := dm_lq 45 (fun x y => x / y)) (st' := [.long (s / (2 : Int64))]) rfl rfl ?_
          refine hs (f := dm_lst 47 6) (lv' := [(6, .long (s / (2 : Int64))), (5, .int 1), (0, .ref 68), (1, .long f), (3, .long s)]) rfl rfl ?_
          generalize g27 : s / (2 : Int64) = half at e26 ⊢
          refine hs (f := dm_ald 48 0) rfl rfl ?_
          refine hs (f := dm_lld 49 1) rfl rfl ?_
          refine hs (f := dm_lld 51 6) rfl rfl ?_
          refine r_inv rfl hM rfl (as := [.ref 68, .long f, .long half]) rfl (Nat.le_of_ble_eq_true rfl) (hT_mono (by omega) (show hT 1 152 [.ref 68, .long f, .long half] _ (fun r M' => r = some (.int (Int32.ofNat (Part (q.2.2.2 96) (q.2.2.2 97) (q.1 34).toInt f.toInt half.toInt))) ∧ M' = _) from r_152 hM f half ho (by omega) (by omega) (by omega)) (fun r1 M28 w => ?_))
          obtain ⟨rfl, rfl⟩ := w
          have lP29 := Part_le (a := (q.2.2.2 96)) (b := (q.2.2.2 97)) (n := (q.1 34).toInt) (f := f.toInt) (s := half.toInt)
          generalize hP29 : Part (q.2.2.2 96) (q.2.2.2 97) (q.1 34).toInt f.toInt half.toInt = P29 at lP29 ⊢
          have eP29 : (Int32.ofNat P29).toInt = P29 := i_ofNat (by omega)
          refine g_if_ne (n := 57) (tt := 71) rfl (fun h30 => ?_) (fun h30 => ?_)
          · skip
            have h30 : ¬ (Int32.ofNat P29).toInt = 0 := h30
            refine hs (f := dm_ald 72 0) rfl rfl ?_
            refine hs (f := dm_lld 73 1) rfl rfl ?_
            refine hs (f := dm_lld 75 6) rfl rfl ?_
            refine r_inv rfl hM rfl (as := [.ref 68, .long f, .long half]) rfl (Nat.le_of_ble_eq_true rfl) (hT_mono (by omega) (IH j (by omega) f half c60 c61 _ hM (by omega) (by omega) (by omega) (by rw [hP29]; omega)) (fun r1 M31 w => ?_))
            obtain ⟨u32, d60u32, d61u32, rfl, k1u32, k2u32, k3u32, hM31⟩ := w
            refine hs (f := dm_ist 80 8) (lv' := [(8, .int u32), (6, .long half), (5, .int 1), (0, .ref 68), (1, .long f), (3, .long s)]) rfl rfl ?_
            refine hs (f := dm_ald 81 0) rfl rfl ?_
            refine hs (f := dm_lld 82 1) rfl rfl ?_
            refine hs (f := dm_lld 84 6) rfl rfl ?_
            have e33 : (f + half).toInt = f.toInt + s.toInt / 2 := by have w := j_add (x := f) (y := half) (by omega) (by omega); omega
            refine hs (f := dm_ll 85 (fun x y => x + y)) (st' := [.long (f + half), .ref 68]) rfl rfl ?_
            refine hs (f := dm_lld 87 6) rfl rfl ?_
            refine r_inv rfl hM31 rfl (as := [.ref 68, .long (f + half), .long half]) rfl (Nat.le_of_ble_eq_true rfl) (hT_mono (by omega) (show hT 1 152 [.ref 68, .long (f + half), .long half] _ (fun r M' => r = some (.int (Int32.ofNat (Part (q.2.2.2 96) (q.2.2.2 97) (q.1 34).toInt (f + half).toInt half.toInt))) ∧ M' = _) from r_152 hM31 (f + half) half ho (by omega) (by omega) (by omega)) (fun r1 M34 w => ?_))
            obtain ⟨rfl, rfl⟩ := w
            have lP35 := Part_le (a := (q.2.2.2 96)) (b := (q.2.2.2 97)) (n := (q.1 34).toInt) (f := (f + half).toInt) (s := half.toInt)
            generalize hP35 : Part (q.2.2.2 96) (q.2.2.2 97) (q.1 34).toInt (f + half).toInt half.toInt = P35 at lP35 ⊢
            have eP35 : (Int32.ofNat P35).toInt = P35 := i_ofNat (by omega)
            refine g_if_ne (n := 93) (tt := 99) rfl (fun h36 => ?_) (fun h36 => ?_)
            · skip
              have h36 : ¬ (Int32.ofNat P35).toInt = 0 := h36
              refine hs (f := dm_ald 100 0) rfl rfl ?_
              refine r_getj d60u32 rfl hM31 rfl rfl ?_
              refine hs (f := dm_lst 105 9) (lv' := [(9, .long d60u32), (8, .int u32), (6, .long half), (5, .int 1), (0, .ref 68), (1, .long f), (3, .long s)]) rfl rfl ?_
              refine hs (f := dm_ald 106 0) rfl rfl ?_
              refine r_getj d61u32 rfl hM31 rfl rfl ?_
              refine hs (f := dm_lst 111 11) (lv' := [(11, .long d61u32), (9, .long d60u32), (8, .int u32), (6, .long half), (5, .int 1), (0, .ref 68), (1, .long f), (3, .long s)]) rfl rfl ?_
              refine hs (f := dm_ald 112 0) rfl rfl ?_
              refine hs (f := dm_lld 113 1) rfl rfl ?_
              refine hs (f := dm_lld 115 6) rfl rfl ?_
              have e37 : (f + half).toInt = f.toInt + s.toInt / 2 := by have w := j_add (x := f) (y := half) (by omega) (by omega); omega
              refine hs (f := dm_ll 116 (fun x y => x + y)) (st' := [.long (f + half), .ref 68]) rfl rfl ?_
              refine hs (f := dm_lld 118 6) rfl rfl ?_
              refine r_inv rfl hM31 rfl (as := [.ref 68, .long (f + half), .long half]) rfl (Nat.le_of_ble_eq_true rfl) (hT_mono (by omega) (IH j (by omega) (f + half) half d60u32 d61u32 _ hM31 (by omega) (by omega) (by omega) (by rw [hP35]; omega)) (fun r1 M38 w => ?_))
              obtain ⟨u39, d60u39, d61u39, rfl, k1u39, k2u39, k3u39, hM38⟩ := w
              refine hs (f := dm_ist 123 13) (lv' := [(13, .int u39), (11, .long d61u32), (9, .long d60u32), (8, .int u32), (6, .long half), (5, .int 1), (0, .ref 68), (1, .long f), (3, .long s)]) rfl rfl ?_
              refine hs (f := dm_ild 125 8) rfl rfl ?_
              refine hs (f := dm_ild 127 13) rfl rfl ?_
              refine g_ic_lt (n := 130) (tt := 136) rfl (fun h40 => ?_) (fun h40 => ?_)
              · skip
                have h40 : u32.toInt < u39.toInt := h40
                refine hs (f := dm_ald 137 0) rfl rfl ?_
                refine hs (f := dm_lld 139 9) rfl rfl ?_
                refine r_putj rfl hM38 rfl (fun M41 hM41 => ?_)
                replace hM41 := rm_to (q' := (sG (sG q 60 d60u32) 61 d61u39)) hM41 (show sG (sG (sG q 60 d60u39) 61 d61u39) 60 d60u32 = (sG (sG q 60 d60u32) 61 d61u39) from (show sG (sG (sG q 60 d60u39) 61 d61u39) 60 d60u32 = (sG (sG q 60 d60u32) 61 d61u39) from Eq.trans (show sG (sG (sG q 60 d60u39) 61 d61u39) 60 d60u32 = sG (sG (sG q 60 d60u39) 60 d60u32) 61 d61u39 from sG_cm (by decide)) (congrArg (fun z => sG z 61 d61u39) (show sG (sG q 60 d60u39) 60 d60u32 = (sG q 60 d60u32) from sG_sG))))
                refine hs (f := dm_ald 143 0) rfl rfl ?_
                refine hs (f := dm_lld 145 11) rfl rfl ?_
                refine r_putj rfl hM41 rfl (fun M42 hM42 => ?_)
                replace hM42 := rm_to (q' := (sG (sG q 60 d60u32) 61 d61u32)) hM42 (show sG (sG (sG q 60 d60u32) 61 d61u39) 61 d61u32 = (sG (sG q 60 d60u32) 61 d61u32) from (show sG (sG (sG q 60 d60u32) 61 d61u39) 61 d61u32 = (sG (sG q 60 d60u32) 61 d61u32) from sG_sG))
                refine hs (f := dm_ild 150 5) rfl rfl ?_
                refine hs (f := dm_ild 152 8) rfl rfl ?_
                refine hs (f := dm_ii 153 (fun x y => x + y)) (st' := [.int ((1 : Int32) + u32)]) rfl rfl ?_
                exact hr (f := dm_ret .int) rfl rfl (⟨_, d60u32, d61u32, rfl, by omega, by omega, by omega, hM42⟩)
              · skip
                have h40 : u32.toInt ≥ u39.toInt := h40
                refine hs (f := dm_ild 132 5) rfl rfl ?_
                refine hs (f := dm_ild 134 13) rfl rfl ?_
                refine hs (f := dm_ii 135 (fun x y => x + y)) (st' := [.int ((1 : Int32) + u39)]) rfl rfl ?_
                exact hr (f := dm_ret .int) rfl rfl (⟨_, d60u39, d61u39, rfl, by omega, by omega, by omega, hM38⟩)
            · skip
              have h36 : (Int32.ofNat P35).toInt = 0 := h36
              refine hs (f := dm_ild 95 5) rfl rfl ?_
              refine hs (f := dm_ild 97 8) rfl rfl ?_
              refine hs (f := dm_ii 98 (fun x y => x + y)) (st' := [.int ((1 : Int32) + u32)]) rfl rfl ?_
              exact hr (f := dm_ret .int) rfl rfl (⟨_, d60u32, d61u32, rfl, by omega, by omega, by omega, hM31⟩)
          · skip
            have h30 : (Int32.ofNat P29).toInt = 0 := h30
            refine hs (f := dm_ild 59 5) rfl rfl ?_
            refine hs (f := dm_ald 60 0) rfl rfl ?_
            refine hs (f := dm_lld 61 1) rfl rfl ?_
            refine hs (f := dm_lld 63 6) rfl rfl ?_
            have e43 : (f + half).toInt = f.toInt + s.toInt / 2 := by have w := j_add (x := f) (y := half) (by omega) (by omega); omega
            refine hs (f := dm_ll 64 (fun x y => x + y)) (st' := [.long (f + half), .ref 68, .int 1]) rfl rfl ?_
            refine hs (f := dm_lld 66 6) rfl rfl ?_
            refine r_inv rfl hM rfl (as := [.ref 68, .long (f + half), .long half]) rfl (Nat.le_of_ble_eq_true rfl) (hT_mono (by omega) (IH j (by omega) (f + half) half c60 c61 _ hM (by omega) (by omega) (by omega) (by have z := Part_half (a := (q.2.2.2 96)) (b := (q.2.2.2 97)) (n := (q.1 34).toInt) (f := f.toInt) (s := half.toInt) (by omega) hab (by rw [show half.toInt + half.toInt = s.toInt by omega]; exact hP) (by rw [hP29]; omega); rw [show (f + half).toInt = f.toInt + half.toInt by omega]; exact z)) (fun r1 M44 w => ?_))
            obtain ⟨u45, d60u45, d61u45, rfl, k1u45, k2u45, k3u45, hM44⟩ := w
            refine hs (f := dm_ii 70 (fun x y => x + y)) (st' := [.int ((1 : Int32) + u45)]) rfl rfl ?_
            exact hr (f := dm_ret .int) rfl rfl (⟨_, d60u45, d61u45, rfl, by omega, by omega, by omega, hM44⟩)
    · skip
      have h3 : (Int32.ofNat P2).toInt = 1 := h3
      refine hs (f := dm_ald 11 0) rfl rfl ?_
      refine hs (f := dm_lld 12 1) rfl rfl ?_
      refine r_putj rfl hM rfl (fun M46 hM46 => ?_)
      replace hM46 := rm_to (q' := (sG (sG q 60 f) 61 c61)) hM46 (show sG (sG (sG q 60 c60) 61 c61) 60 f = (sG (sG q 60 f) 61 c61) from (show sG (sG (sG q 60 c60) 61 c61) 60 f = (sG (sG q 60 f) 61 c61) from Eq.trans (show sG (sG (sG q 60 c60) 61 c61) 60 f = sG (sG (sG q 60 c60) 60 f) 61 c61 from sG_cm (by decide)) (congrArg (fun z => sG z 61 c61) (show sG (sG q 60 c60) 60 f = (sG q 60 f) from sG_sG))))
      refine hs (f := dm_ald 16 0) rfl rfl ?_
      refine hs (f := dm_lld 17 3) rfl rfl ?_
      refine r_putj rfl hM46 rfl (fun M47 hM47 => ?_)
      replace hM47 := rm_to (q' := (sG (sG q 60 f) 61 s)) hM47 (show sG (sG (sG q 60 f) 61 c61) 61 s = (sG (sG q 60 f) 61 s) from (show sG (sG (sG q 60 f) 61 c61) 61 s = (sG (sG q 60 f) 61 s) from sG_sG))
      refine hs (f := dm_push 21 (.int 0)) rfl rfl ?_
      exact hr (f := dm_ret .int) rfl rfl (⟨_, f, s, rfl, by omega, by omega, by omega, hM47⟩)
theorem isB_ne {x : Int32} (h : isB x) (h2 : ¬ x.toInt = 0) : x.toInt = 1 := by
  rcases h with rfl | rfl
  · exact absurd rfl h2
  · rfl
theorem rS_ext {q q' : rS} (h1 : ∀ i, q.1 i = q'.1 i) (h2 : ∀ i, q.2.1 i = q'.2.1 i) (h3 : ∀ i, q.2.2.1 i = q'.2.2.1 i) (h4 : ∀ i, q.2.2.2 i = q'.2.2.2 i) : q = q' := Prod.ext (funext h1) (Prod.ext (funext h2) (Prod.ext (funext h3) (funext h4)))
set_option maxHeartbeats 4000000 in
theorem r_160 {X : dm_Mem} {q : rS} {M : dm_Mem} (hM : Rm X q M) (hS : wS (q.2.2.2 92) (q.1 29).toInt) (hH : HN (q.2.2.2 92) (q.1 29).toInt 60 0 ≤ 42000) (ho : 0 ≤ (q.1 34).toInt ∧ (q.1 34).toInt ≤ 24000) (hab : ∀ i : Int, 0 ≤ i → i < (q.1 34).toInt → rB (q.2.2.2 96) i < rB (q.2.2.2 97) i) (hP0 : ¬ Part (q.2.2.2 96) (q.2.2.2 97) (q.1 34).toInt 0 1152921504606846976 = 0) : hT 65 160 [.ref 68] M (fun r M' => r = none ∧ ∃ (n' : Int32) (c92 c94 c114 : Nat → Int64) (c93 c95 c115 : Nat → Int32) (d60 d61 : Int64), wS c92 n'.toInt ∧ n'.toInt ≤ 21100 ∧ HN c92 n'.toInt 60 0 ≤ HN (q.2.2.2 92) (q.1 29).toInt 60 0 + 240 ∧ Rm X (sA (sA (sA (sB (sB (sB (sG (sG (sF q 29 n') 60 d60) 61 d61) 92 c92) 94 c94) 114 c114) 93 c93) 95 c95) 115 c115) M') := by
  have hn0 := HN_len hS
  have hn1 := hS.1
  have j7 : ∀ (nn : Nat), ∀ (k : Int32) (b114 : Nat → Int64) (b115 : Nat → Int32) (M : dm_Mem), Rm X (sA (sB q 114 b114) 115 b115) M → (0 ≤ k.toInt) → (k.toInt ≤ (q.1 29).toInt) → ((q.1 29).toInt - k.toInt).toNat = nn → hG 64 cd_160 7 [(2, .int k), (1, .int (q.1 29)), (0, .ref 68)] [] M (fun r M' => r = none ∧ ∃ (n' : Int32) (c92 c94 c114 : Nat → Int64) (c93 c95 c115 : Nat → Int32) (d60 d61 : Int64), wS c92 n'.toInt ∧ n'.toInt ≤ 21100 ∧ HN c92 n'.toInt 60 0 ≤ HN (q.2.2.2 92) (q.1 29).toInt 60 0 + 240 ∧ Rm X (sA (sA (sA (sB (sB (sB (sG (sG (sF q 29 n') 60 d60) 61 d61) 92 c92) 94 c94) 114 c114) 93 c93) 95 c95) 115 c115) M') := by
    intro nn
    induction nn using Nat.strongRecOn with
    | ind nn IH =>
      intro k b114 b115 M hM k0 k1 hms
      refine hs (f := dm_ild 8 2) rfl rfl ?_
      refine hs (f := dm_ild 9 1) rfl rfl ?_
      refine g_ic_ge (n := 12) (tt := 42) rfl (fun h1 => ?_) (fun h1 => ?_)
      · skip
        have h1 : k.toInt ≥ (q.1 29).toInt := h1
        replace hM := rm_to (q' := (sA (sB (sF q 29 (q.1 29)) 114 b114) 115 b115)) hM (Eq.trans (sF_id (q := (sA (sB q 114 b114) 115 b115)) (k := 29) (v := (q.1 29)) rfl) (show sF (sA (sB q 114 b114) 115 b115) 29 (q.1 29) = (sA (sB (sF q 29 (q.1 29)) 114 b114) 115 b115) from (congrArg (fun z => (sA (sB z 114 b114) 115 b115)) (show sF q 29 (q.1 29) = (sF q 29 (q.1 29)) from rfl))))
        replace hM := rm_to (q' := (sA (sB (sB (sF q 29 (q.1 29)) 92 (q.2.2.2 92)) 114 b114) 115 b115)) hM (Eq.trans (sB_id (q := (sA (sB (sF q 29 (q.1 29)) 114 b114) 115 b115)) (k := 92) (v := (q.2.2.2 92)) rfl) (show sB (sA (sB (sF q 29 (q.1 29)) 114 b114) 115 b115) 92 (q.2.2.2 92) = (sA (sB (sB (sF q 29 (q.1 29)) 92 (q.2.2.2 92)) 114 b114) 115 b115) from (congrArg (fun z => (sA z 115 b115)) (show sB (sB (sF q 29 (q.1 29)) 114 b114) 92 (q.2.2.2 92) = (sB (sB (sF q 29 (q.1 29)) 92 (q.2.2.2 92)) 114 b114) from Eq.trans (show sB (sB (sF q 29 (q.1 29)) 114 b114) 92 (q.2.2.2 92) = sB (sB (sF q 29 (q.1 29)) 92 (q.2.2.2 92)) 114 b114 from sB_cm (by decide)) (congrArg (fun z => sB z 114 b114) (show sB (sF q 29 (q.1 29)) 92 (q.2.2.2 92) = (sB (sF q 29 (q.1 29)) 92 (q.2.2.2 92)) from rfl))))))
        replace hM := rm_to (q' := (sA (sB (sB (sB (sF q 29 (q.1 29)) 92 (q.2.2.2 92)) 94 (q.2.2.2 94)) 114 b114) 115 b115)) hM (Eq.trans (sB_id (q := (sA (sB (sB (sF q 29 (q.1 29)) 92 (q.2.2.2 92)) 114 b114) 115 b115)) (k := 94) (v := (q.2.2.2 94)) rfl) (show sB (sA (sB (sB (sF q 29 (q.1 29)) 92 (q.2.2.2 92)) 114 b114) 115 b115) 94 (q.2.2.2 94) = (sA (sB (sB (sB (sF q 29 (q.1 29)) 92 (q.2.2.2 92)) 94 (q.2.2.2 94)) 114 b114) 115 b115) from (congrArg (fun z => (sA z 115 b115)) (show sB (sB (sB (sF q 29 (q.1 29)) 92 (q.2.2.2 92)) 114 b114) 94 (q.2.2.2 94) = (sB (sB (sB (sF q 29 (q.1 29)) 92 (q.2.2.2 92)) 94 (q.2.2.2 94)) 114 b114) from Eq.trans (show sB (sB (sB (sF q 29 (q.1 29)) 92 (q.2.2.2 92)) 114 b114) 94 (q.2.2.2 94) = sB (sB (sB (sF q 29 (q.1 29)) 92 (q.2.2.2 92)) 94 (q.2.2.2 94)) 114 b114 from sB_cm (by decide)) (congrArg (fun z => sB z 114 b114) (show sB (sB (sF q 29 (q.1 29)) 92 (q.2.2.2 92)) 94 (q.2.2.2 94) = (sB (sB (sF q 29 (q.1 29)) 92 (q.2.2.2 92)) 94 (q.2.2.2 94)) from rfl))))))
        replace hM := rm_to (q' := (sA (sA (sB (sB (sB (sF q 29 (q.1 29)) 92 (q.2.2.2 92)) 94 (q.2.2.2 94)) 114 b114) 93 (q.2.2.1 93)) 115 b115)) hM (Eq.trans (sA_id (q := (sA (sB (sB (sB (sF q 29 (q.1 29)) 92 (q.2.2.2 92)) 94 (q.2.2.2 94)) 114 b114) 115 b115)) (k := 93) (v := (q.2.2.1 93)) rfl) (show sA (sA (sB (sB (sB (sF q 29 (q.1 29)) 92 (q.2.2.2 92)) 94 (q.2.2.2 94)) 114 b114) 115 b115) 93 (q.2.2.1 93) = (sA (sA (sB (sB (sB (sF q 29 (q.1 29)) 92 (q.2.2.2 92)) 94 (q.2.2.2 94)) 114 b114) 93 (q.2.2.1 93)) 115 b115) from (show sA (sA (sB (sB (sB (sF q 29 (q.1 29)) 92 (q.2.2.2 92)) 94 (q.2.2.2 94)) 114 b114) 115 b115) 93 (q.2.2.1 93) = (sA (sA (sB (sB (sB (sF q 29 (q.1 29)) 92 (q.2.2.2 92)) 94 (q.2.2.2 94)) 114 b114) 93 (q.2.2.1 93)) 115 b115) from Eq.trans (show sA (sA (sB (sB (sB (sF q 29 (q.1 29)) 92 (q.2.2.2 92)) 94 (q.2.2.2 94)) 114 b114) 115 b115) 93 (q.2.2.1 93) = sA (sA (sB (sB (sB (sF q 29 (q.1 29)) 92 (q.2.2.2 92)) 94 (q.2.2.2 94)) 114 b114) 93 (q.2.2.1 93)) 115 b115 from sA_cm (by decide)) (congrArg (fun z => sA z 115 b115) (show sA (sB (sB (sB (sF q 29 (q.1 29)) 92 (q.2.2.2 92)) 94 (q.2.2.2 94)) 114 b114) 93 (q.2.2.1 93) = (sA (sB (sB (sB (sF q 29 (q.1 29)) 92 (q.2.2.2 92)) 94 (q.2.2.2 94)) 114 b114) 93 (q.2.2.1 93)) from rfl)))))
        replace hM := rm_to (q' := (sA (sA (sA (sB (sB (sB (sF q 29 (q.1 29)) 92 (q.2.2.2 92)) 94 (q.2.2.2 94)) 114 b114) 93 (q.2.2.1 93)) 95 (q.2.2.1 95)) 115 b115)) hM (Eq.trans (sA_id (q := (sA (sA (sB (sB (sB (sF q 29 (q.1 29)) 92 (q.2.2.2 92)) 94 (q.2.2.2 94)) 114 b114) 93 (q.2.2.1 93)) 115 b115)) (k := 95) (v := (q.2.2.1 95)) rfl) (show sA (sA (sA (sB (sB (sB (sF q 29 (q.1 29)) 92 (q.2.2.2 92)) 94 (q.2.2.2 94)) 114 b114) 93 (q.2.2.1 93)) 115 b115) 95 (q.2.2.1 95) = (sA (sA (sA (sB (sB (sB (sF q 29 (q.1 29)) 92 (q.2.2.2 92)) 94 (q.2.2.2 94)) 114 b114) 93 (q.2.2.1 93)) 95 (q.2.2.1 95)) 115 b115) from (show sA (sA (sA (sB (sB (sB (sF q 29 (q.1 29)) 92 (q.2.2.2 92)) 94 (q.2.2.2 94)) 114 b114) 93 (q.2.2.1 93)) 115 b115) 95 (q.2.2.1 95) = (sA (sA (sA (sB (sB (sB (sF q 29 (q.1 29)) 92 (q.2.2.2 92)) 94 (q.2.2.2 94)) 114 b114) 93 (q.2.2.1 93)) 95 (q.2.2.1 95)) 115 b115) from Eq.trans (show sA (sA (sA (sB (sB (sB (sF q 29 (q.1 29)) 92 (q.2.2.2 92)) 94 (q.2.2.2 94)) 114 b114) 93 (q.2.2.1 93)) 115 b115) 95 (q.2.2.1 95) = sA (sA (sA (sB (sB (sB (sF q 29 (q.1 29)) 92 (q.2.2.2 92)) 94 (q.2.2.2 94)) 114 b114) 93 (q.2.2.1 93)) 95 (q.2.2.1 95)) 115 b115 from sA_cm (by decide)) (congrArg (fun z => sA z 115 b115) (show sA (sA (sB (sB (sB (sF q 29 (q.1 29)) 92 (q.2.2.2 92)) 94 (q.2.2.2 94)) 114 b114) 93 (q.2.2.1 93)) 95 (q.2.2.1 95) = (sA (sA (sB (sB (sB (sF q 29 (q.1 29)) 92 (q.2.2.2 92)) 94 (q.2.2.2 94)) 114 b114) 93 (q.2.2.1 93)) 95 (q.2.2.1 95)) from rfl)))))
        refine hs (f := dm_ald 43 0) rfl rfl ?_
        refine hs (f := dm_push 44 (.long 0)) rfl rfl ?_
        refine hs (f := dm_push 47 (.long 1152921504606846976)) rfl rfl ?_
        replace hM : Rm X (sA (sA (sB (sB (sF (sA (sB q 114 b114) 115 b115) 29 (q.1 29)) 92 (q.2.2.2 92)) 94 (q.2.2.2 94)) 93 (q.2.2.1 93)) 95 (q.2.2.1 95)) _ := rm_to hM (by
          apply rS_ext
          all_goals (intro i; simp only [sF, sG, sA, sB]; repeat' split)
          all_goals first | rfl | omega)
        refine r_inv rfl hM rfl (as := [.ref 68, .long 0, .long 1152921504606846976]) rfl (Nat.le_of_ble_eq_true rfl) (hT_mono (by decide) (r_158 (q := (sA (sB q 114 b114) 115 b115)) ho 60 0 1152921504606846976 (q.1 29) (q.2.2.2 92) (q.2.2.2 94) (q.2.2.1 93) (q.2.2.1 95) _ hM hS hH rfl (by decide) (by decide) (dy_0 60) (fun _ => Or.inl ⟨rfl, rfl⟩)) (fun r1 M2 w => ?_))
        obtain ⟨rfl, n2, b92, b94, b93, b95, hS2, hl2, hM2⟩ := w
        replace hM2 : Rm X (sA (sA (sA (sB (sB (sB (sF q 29 n2) 92 b92) 94 b94) 114 b114) 93 b93) 95 b95) 115 b115) M2 := rm_to hM2 (by
          apply rS_ext
          all_goals (intro i; simp only [sF, sG, sA, sB]; repeat' split)
          all_goals first | rfl | omega)
        have hH2 : HN b92 n2.toInt 60 0 ≤ HN (q.2.2.2 92) (q.1 29).toInt 60 0 := HN_mono hl2 60 0 (dy_0 60)
        have hn2 := HN_len hS2
        have hn21 := hS2.1
        have j66 : ∀ (nn : Nat), ∀ (x k : Int32) (M : dm_Mem), Rm X (sA (sA (sA (sB (sB (sB (sF q 29 n2) 92 b92) 94 b94) 114 b114) 93 b93) 95 b95) 115 b115) M → (isB x) → (0 ≤ k.toInt) → (x.toInt = 1 → k.toInt ≤ (q.1 29).toInt) → (x.toInt = 1 → n2.toInt = (q.1 29).toInt) → ((q.1 29).toInt - k.toInt).toNat = nn → hG 64 cd_160 66 [(3, .int k), (2, .int x), (1, .int (q.1 29)), (0, .ref 68)] [] M (fun r M' => r = none ∧ ∃ (n' : Int32) (c92 c94 c114 : Nat → Int64) (c93 c95 c115 : Nat → Int32) (d60 d61 : Int64), wS c92 n'.toInt ∧ n'.toInt ≤ 21100 ∧ HN c92 n'.toInt 60 0 ≤ HN (q.2.2.2 92) (q.1 29).toInt 60 0 + 240 ∧ Rm X (sA (sA (sA (sB (sB (sB (sG (sG (sF q 29 n') 60 d60) 61 d61) 92 c92) 94 c94) 114 c114) 93 c93) 95 c95) 115 c115) M') := by
          intro nn
          induction nn using Nat.strongRecOn with
          | ind nn IH =>
            intro x k M hM bx k0 k1 hx9 hms
            refine hs (f := dm_ild 67 2) rfl rfl ?_
            refine g_if_eq (n := 70) (tt := 118) rfl (fun h3 => ?_) (fun h3 => ?_)
            · skip
              have h3 : x.toInt = 0 := h3
              refine hs (f := dm_ild 119 2) rfl rfl ?_
              refine g_if_ne (n := 122) (tt := 123) rfl (fun h4 => ?_) (fun h4 => ?_)
              · skip
                have h4 : ¬ x.toInt = 0 := h4
                refine hs (f := dm_ald 124 0) rfl rfl ?_
                refine hs (f := dm_push 125 (.long 0)) rfl rfl ?_
                refine hs (f := dm_push 128 (.long 1152921504606846976)) rfl rfl ?_
                replace hM := rm_to (q' := (sA (sA (sA (sB (sB (sB (sG (sF q 29 n2) 60 (q.2.1 60)) 92 b92) 94 b94) 114 b114) 93 b93) 95 b95) 115 b115)) hM (Eq.trans (sG_id (q := (sA (sA (sA (sB (sB (sB (sF q 29 n2) 92 b92) 94 b94) 114 b114) 93 b93) 95 b95) 115 b115)) (k := 60) (v := (q.2.1 60)) rfl) (show sG (sA (sA (sA (sB (sB (sB (sF q 29 n2) 92 b92) 94 b94) 114 b114) 93 b93) 95 b95) 115 b115) 60 (q.2.1 60) = (sA (sA (sA (sB (sB (sB (sG (sF q 29 n2) 60 (q.2.1 60)) 92 b92) 94 b94) 114 b114) 93 b93) 95 b95) 115 b115) from (congrArg (fun z => (sA (sA (sA (sB (sB (sB z 92 b92) 94 b94) 114 b114) 93 b93) 95 b95) 115 b115)) (show sG (sF q 29 n2) 60 (q.2.1 60) = (sG (sF q 29 n2) 60 (q.2.1 60)) from rfl))))
                replace hM := rm_to (q' := (sA (sA (sA (sB (sB (sB (sG (sG (sF q 29 n2) 60 (q.2.1 60)) 61 (q.2.1 61)) 92 b92) 94 b94) 114 b114) 93 b93) 95 b95) 115 b115)) hM (Eq.trans (sG_id (q := (sA (sA (sA (sB (sB (sB (sG (sF q 29 n2) 60 (q.2.1 60)) 92 b92) 94 b94) 114 b114) 93 b93) 95 b95) 115 b115)) (k := 61) (v := (q.2.1 61)) rfl) (show sG (sA (sA (sA (sB (sB (sB (sG (sF q 29 n2) 60 (q.2.1 60)) 92 b92) 94 b94) 114 b114) 93 b93) 95 b95) 115 b115) 61 (q.2.1 61) = (sA (sA (sA (sB (sB (sB (sG (sG (sF q 29 n2) 60 (q.2.1 60)) 61 (q.2.1 61)) 92 b92) 94 b94) 114 b114) 93 b93) 95 b95) 115 b115) from (congrArg (fun z => (sA (sA (sA (sB (sB (sB z 92 b92) 94 b94) 114 b114) 93 b93) 95 b95) 115 b115)) (show sG (sG (sF q 29 n2) 60 (q.2.1 60)) 61 (q.2.1 61) = (sG (sG (sF q 29 n2) 60 (q.2.1 60)) 61 (q.2.1 61)) from rfl))))
                have hab9 : ∀ i : Int, 0 ≤ i → i < (q.1 34).toInt → rB (q.2.2.2 96) i < rB (q.2.2.2 97) i := fun i i0 i1 => (hab i i0 i1)
                replace hM : Rm X (sG (sG (sA (sA (sA (sB (sB (sB (sF q 29 n2) 92 b92) 94 b94) 114 b114) 93 b93) 95 b95) 115 b115) 60 (q.2.1 60)) 61 (q.2.1 61)) _ := hM
                refine r_inv rfl hM rfl (as := [.ref 68, .long 0, .long 1152921504606846976]) rfl (Nat.le_of_ble_eq_true rfl) (hT_mono (by decide) (r_159 (q := (sA (sA (sA (sB (sB (sB (sF q 29 n2) 92 b92) 94 b94) 114 b114) 93 b93) 95 b95) 115 b115)) hS2 (show n2.toInt ≤ 24000 by omega) ho hab9 60 0 1152921504606846976 (q.2.1 60) (q.2.1 61) _ hM rfl (by decide) (by decide) hP0) (fun r1 M5 w => ?_))
                obtain ⟨v9, d60, d61, rfl, kk1, kk2, kk3, hM5⟩ := w
                replace kk1 : 0 ≤ d60.toInt := kk1
                replace kk3 : d60.toInt + d61.toInt ≤ 1152921504606846976 := kk3
                replace hM5 : Rm X (sA (sA (sA (sB (sB (sB (sG (sG (sF q 29 n2) 60 d60) 61 d61) 92 b92) 94 b94) 114 b114) 93 b93) 95 b95) 115 b115) M5 := hM5
                refine hs (f := dm_pop 132) (st' := []) rfl rfl ?_
                refine hs (f := dm_ald 133 0) rfl rfl ?_
                refine hs (f := dm_ald 134 0) rfl rfl ?_
                refine r_getj d60 rfl hM5 rfl rfl ?_
                refine hs (f := dm_ald 138 0) rfl rfl ?_
                refine r_getj d61 rfl hM5 rfl rfl ?_
                refine hs (f := dm_push 142 (.int 1)) rfl rfl ?_
                refine hs (f := dm_push 143 (.int 1)) rfl rfl ?_
                refine r_inv rfl hM5 rfl (as := [.ref 68, .long d60, .long d61, .int 1, .int 1]) rfl (Nat.le_of_ble_eq_true rfl) (hT_mono (by omega) (show hT 2 150 [.ref 68, .long d60, .long d61, .int 1, .int 1] _ (fun r M' => r = none ∧ ∃ (n' : Int32) (c92 c94 : Nat → Int64) (c93 c95 : Nat → Int32), wS c92 n'.toInt ∧ n'.toInt ≤ n2.toInt + 2 ∧ (∀ i : Int, 0 ≤ i → i < n'.toInt → rB c92 i = d60.toInt ∨ rB c92 i = d60.toInt + d61.toInt ∨ ∃ k : Int, 0 ≤ k ∧ k < n2.toInt ∧ rB c92 i = rB b92 k) ∧ Rm X (sA (sA (sB (sB (sF (sA (sA (sA (sB (sB (sB (sG (sG (sF q 29 n2) 60 d60) 61 d61) 92 b92) 94 b94) 114 b114) 93 b93) 95 b95) 115 b115) 29 n') 92 c92) 94 c94) 93 c93) 95 c95) M') from hT_mono (Nat.le_refl _) (r_150 hM5 d60 d61 (1 : Int32) (1 : Int32) hS2 (show n2.toInt ≤ 22000 by omega) (by omega) (by omega) (by omega)) (fun r M' w => by
                    obtain ⟨w1, n', c92, c94, c93, c95, w2, w3, w4, w5⟩ := w
                    refine ⟨w1, n', c92, c94, c93, c95, w2, w3, fun i i0 i1 => ?_, w5⟩
                    rcases w4 i i0 i1 with z | z | ⟨k, k0, k1, k2, _⟩
                    · exact Or.inl z
                    · exact Or.inr (Or.inl z)
                    · exact Or.inr (Or.inr ⟨k, k0, k1, k2⟩))) (fun r1 M6 w => ?_))
                obtain ⟨rfl, nu7, b92u7, b94u7, b93u7, b95u7, hSu7, hlu7, hpu7, hM6⟩ := w
                replace hM6 := rm_to (q' := (sA (sA (sA (sB (sB (sB (sG (sG (sF q 29 nu7) 60 d60) 61 d61) 92 b92u7) 94 b94u7) 114 b114) 93 b93u7) 95 b95u7) 115 b115)) hM6 (Eq.trans (congrArg (fun z => sA z 95 b95u7) (Eq.trans (congrArg (fun z => sA z 93 b93u7) (Eq.trans (congrArg (fun z => sB z 94 b94u7) (Eq.trans (congrArg (fun z => sB z 92 b92u7) (show sF (sA (sA (sA (sB (sB (sB (sG (sG (sF q 29 n2) 60 d60) 61 d61) 92 b92) 94 b94) 114 b114) 93 b93) 95 b95) 115 b115) 29 nu7 = (sA (sA (sA (sB (sB (sB (sG (sG (sF q 29 nu7) 60 d60) 61 d61) 92 b92) 94 b94) 114 b114) 93 b93) 95 b95) 115 b115) from (congrArg (fun z => (sA (sA (sA (sB (sB (sB (sG (sG z 60 d60) 61 d61) 92 b92) 94 b94) 114 b114) 93 b93) 95 b95) 115 b115)) (show sF (sF q 29 n2) 29 nu7 = (sF q 29 nu7) from sF_sF)))) (show sB (sA (sA (sA (sB (sB (sB (sG (sG (sF q 29 nu7) 60 d60) 61 d61) 92 b92) 94 b94) 114 b114) 93 b93) 95 b95) 115 b115) 92 b92u7 = (sA (sA (sA (sB (sB (sB (sG (sG (sF q 29 nu7) 60 d60) 61 d61) 92 b92u7) 94 b94) 114 b114) 93 b93) 95 b95) 115 b115) from (congrArg (fun z => (sA (sA (sA z 93 b93) 95 b95) 115 b115)) (show sB (sB (sB (sB (sG (sG (sF q 29 nu7) 60 d60) 61 d61) 92 b92) 94 b94) 114 b114) 92 b92u7 = (sB (sB (sB (sG (sG (sF q 29 nu7) 60 d60) 61 d61) 92 b92u7) 94 b94) 114 b114) from Eq.trans (show sB (sB (sB (sB (sG (sG (sF q 29 nu7) 60 d60) 61 d61) 92 b92) 94 b94) 114 b114) 92 b92u7 = sB (sB (sB (sB (sG (sG (sF q 29 nu7) 60 d60) 61 d61) 92 b92) 94 b94) 92 b92u7) 114 b114 from sB_cm (by decide)) (congrArg (fun z => sB z 114 b114) (show sB (sB (sB (sG (sG (sF q 29 nu7) 60 d60) 61 d61) 92 b92) 94 b94) 92 b92u7 = (sB (sB (sG (sG (sF q 29 nu7) 60 d60) 61 d61) 92 b92u7) 94 b94) from Eq.trans (show sB (sB (sB (sG (sG (sF q 29 nu7) 60 d60) 61 d61) 92 b92) 94 b94) 92 b92u7 = sB (sB (sB (sG (sG (sF q 29 nu7) 60 d60) 61 d61) 92 b92) 92 b92u7) 94 b94 from sB_cm (by decide)) (congrArg (fun z => sB z 94 b94) (show sB (sB (sG (sG (sF q 29 nu7) 60 d60) 61 d61) 92 b92) 92 b92u7 = (sB (sG (sG (sF q 29 nu7) 60 d60) 61 d61) 92 b92u7) from sB_sB))))))))) (show sB (sA (sA (sA (sB (sB (sB (sG (sG (sF q 29 nu7) 60 d60) 61 d61) 92 b92u7) 94 b94) 114 b114) 93 b93) 95 b95) 115 b115) 94 b94u7 = (sA (sA (sA (sB (sB (sB (sG (sG (sF q 29 nu7) 60 d60) 61 d61) 92 b92u7) 94 b94u7) 114 b114) 93 b93) 95 b95) 115 b115) from (congrArg (fun z => (sA (sA (sA z 93 b93) 95 b95) 115 b115)) (show sB (sB (sB (sB (sG (sG (sF q 29 nu7) 60 d60) 61 d61) 92 b92u7) 94 b94) 114 b114) 94 b94u7 = (sB (sB (sB (sG (sG (sF q 29 nu7) 60 d60) 61 d61) 92 b92u7) 94 b94u7) 114 b114) from Eq.trans (show sB (sB (sB (sB (sG (sG (sF q 29 nu7) 60 d60) 61 d61) 92 b92u7) 94 b94) 114 b114) 94 b94u7 = sB (sB (sB (sB (sG (sG (sF q 29 nu7) 60 d60) 61 d61) 92 b92u7) 94 b94) 94 b94u7) 114 b114 from sB_cm (by decide)) (congrArg (fun z => sB z 114 b114) (show sB (sB (sB (sG (sG (sF q 29 nu7) 60 d60) 61 d61) 92 b92u7) 94 b94) 94 b94u7 = (sB (sB (sG (sG (sF q 29 nu7) 60 d60) 61 d61) 92 b92u7) 94 b94u7) from sB_sB))))))) (show sA (sA (sA (sA (sB (sB (sB (sG (sG (sF q 29 nu7) 60 d60) 61 d61) 92 b92u7) 94 b94u7) 114 b114) 93 b93) 95 b95) 115 b115) 93 b93u7 = (sA (sA (sA (sB (sB (sB (sG (sG (sF q 29 nu7) 60 d60) 61 d61) 92 b92u7) 94 b94u7) 114 b114) 93 b93u7) 95 b95) 115 b115) from (show sA (sA (sA (sA (sB (sB (sB (sG (sG (sF q 29 nu7) 60 d60) 61 d61) 92 b92u7) 94 b94u7) 114 b114) 93 b93) 95 b95) 115 b115) 93 b93u7 = (sA (sA (sA (sB (sB (sB (sG (sG (sF q 29 nu7) 60 d60) 61 d61) 92 b92u7) 94 b94u7) 114 b114) 93 b93u7) 95 b95) 115 b115) from Eq.trans (show sA (sA (sA (sA (sB (sB (sB (sG (sG (sF q 29 nu7) 60 d60) 61 d61) 92 b92u7) 94 b94u7) 114 b114) 93 b93) 95 b95) 115 b115) 93 b93u7 = sA (sA (sA (sA (sB (sB (sB (sG (sG (sF q 29 nu7) 60 d60) 61 d61) 92 b92u7) 94 b94u7) 114 b114) 93 b93) 95 b95) 93 b93u7) 115 b115 from sA_cm (by decide)) (congrArg (fun z => sA z 115 b115) (show sA (sA (sA (sB (sB (sB (sG (sG (sF q 29 nu7) 60 d60) 61 d61) 92 b92u7) 94 b94u7) 114 b114) 93 b93) 95 b95) 93 b93u7 = (sA (sA (sB (sB (sB (sG (sG (sF q 29 nu7) 60 d60) 61 d61) 92 b92u7) 94 b94u7) 114 b114) 93 b93u7) 95 b95) from Eq.trans (show sA (sA (sA (sB (sB (sB (sG (sG (sF q 29 nu7) 60 d60) 61 d61) 92 b92u7) 94 b94u7) 114 b114) 93 b93) 95 b95) 93 b93u7 = sA (sA (sA (sB (sB (sB (sG (sG (sF q 29 nu7) 60 d60) 61 d61) 92 b92u7) 94 b94u7) 114 b114) 93 b93) 93 b93u7) 95 b95 from sA_cm (by decide)) (congrArg (fun z => sA z 95 b95) (show sA (sA (sB (sB (sB (sG (sG (sF q 29 nu7) 60 d60) 61 d61) 92 b92u7) 94 b94u7) 114 b114) 93 b93) 93 b93u7 = (sA (sB (sB (sB (sG (sG (sF q 29 nu7) 60 d60) 61 d61) 92 b92u7) 94 b94u7) 114 b114) 93 b93u7) from sA_sA)))))))) (show sA (sA (sA (sA (sB (sB (sB (sG (sG (sF q 29 nu7) 60 d60) 61 d61) 92 b92u7) 94 b94u7) 114 b114) 93 b93u7) 95 b95) 115 b115) 95 b95u7 = (sA (sA (sA (sB (sB (sB (sG (sG (sF q 29 nu7) 60 d60) 61 d61) 92 b92u7) 94 b94u7) 114 b114) 93 b93u7) 95 b95u7) 115 b115) from (show sA (sA (sA (sA (sB (sB (sB (sG (sG (sF q 29 nu7) 60 d60) 61 d61) 92 b92u7) 94 b94u7) 114 b114) 93 b93u7) 95 b95) 115 b115) 95 b95u7 = (sA (sA (sA (sB (sB (sB (sG (sG (sF q 29 nu7) 60 d60) 61 d61) 92 b92u7) 94 b94u7) 114 b114) 93 b93u7) 95 b95u7) 115 b115) from Eq.trans (show sA (sA (sA (sA (sB (sB (sB (sG (sG (sF q 29 nu7) 60 d60) 61 d61) 92 b92u7) 94 b94u7) 114 b114) 93 b93u7) 95 b95) 115 b115) 95 b95u7 = sA (sA (sA (sA (sB (sB (sB (sG (sG (sF q 29 nu7) 60 d60) 61 d61) 92 b92u7) 94 b94u7) 114 b114) 93 b93u7) 95 b95) 95 b95u7) 115 b115 from sA_cm (by decide)) (congrArg (fun z => sA z 115 b115) (show sA (sA (sA (sB (sB (sB (sG (sG (sF q 29 nu7) 60 d60) 61 d61) 92 b92u7) 94 b94u7) 114 b114) 93 b93u7) 95 b95) 95 b95u7 = (sA (sA (sB (sB (sB (sG (sG (sF q 29 nu7) 60 d60) 61 d61) 92 b92u7) 94 b94u7) 114 b114) 93 b93u7) 95 b95u7) from sA_sA)))))
                exact hr (f := dm_vret) rfl rfl (⟨rfl, nu7, b92u7, b94u7, b114, b93u7, b95u7, b115, d60, d61, hSu7, by omega, by have z := HN_two hpu7 60 0 2 ⟨by omega, by omega, by omega⟩; omega, hM6⟩)
              · skip
                have h4 : x.toInt = 0 := h4
                replace hM := rm_to (q' := (sA (sA (sA (sB (sB (sB (sG (sF q 29 n2) 60 (q.2.1 60)) 92 b92) 94 b94) 114 b114) 93 b93) 95 b95) 115 b115)) hM (Eq.trans (sG_id (q := (sA (sA (sA (sB (sB (sB (sF q 29 n2) 92 b92) 94 b94) 114 b114) 93 b93) 95 b95) 115 b115)) (k := 60) (v := (q.2.1 60)) rfl) (show sG (sA (sA (sA (sB (sB (sB (sF q 29 n2) 92 b92) 94 b94) 114 b114) 93 b93) 95 b95) 115 b115) 60 (q.2.1 60) = (sA (sA (sA (sB (sB (sB (sG (sF q 29 n2) 60 (q.2.1 60)) 92 b92) 94 b94) 114 b114) 93 b93) 95 b95) 115 b115) from (congrArg (fun z => (sA (sA (sA (sB (sB (sB z 92 b92) 94 b94) 114 b114) 93 b93) 95 b95) 115 b115)) (show sG (sF q 29 n2) 60 (q.2.1 60) = (sG (sF q 29 n2) 60 (q.2.1 60)) from rfl))))
                replace hM := rm_to (q' := (sA (sA (sA (sB (sB (sB (sG (sG (sF q 29 n2) 60 (q.2.1 60)) 61 (q.2.1 61)) 92 b92) 94 b94) 114 b114) 93 b93) 95 b95) 115 b115)) hM (Eq.trans (sG_id (q := (sA (sA (sA (sB (sB (sB (sG (sF q 29 n2) 60 (q.2.1 60)) 92 b92) 94 b94) 114 b114) 93 b93) 95 b95) 115 b115)) (k := 61) (v := (q.2.1 61)) rfl) (show sG (sA (sA (sA (sB (sB (sB (sG (sF q 29 n2) 60 (q.2.1 60)) 92 b92) 94 b94) 114 b114) 93 b93) 95 b95) 115 b115) 61 (q.2.1 61) = (sA (sA (sA (sB (sB (sB (sG (sG (sF q 29 n2) 60 (q.2.1 60)) 61 (q.2.1 61)) 92 b92) 94 b94) 114 b114) 93 b93) 95 b95) 115 b115) from (congrArg (fun z => (sA (sA (sA (sB (sB (sB z 92 b92) 94 b94) 114 b114) 93 b93) 95 b95) 115 b115)) (show sG (sG (sF q 29 n2) 60 (q.2.1 60)) 61 (q.2.1 61) = (sG (sG (sF q 29 n2) 60 (q.2.1 60)) 61 (q.2.1 61)) from rfl))))
                exact hr (f := dm_vret) rfl rfl (⟨rfl, n2, b92, b94, b114, b93, b95, b115, q.2.1 60, q.2.1 61, hS2, by omega, by omega, hM⟩)
            · skip
              have h3 : ¬ x.toInt = 0 := h3
              refine hs (f := dm_ild 71 3) rfl rfl ?_
              refine hs (f := dm_ild 72 1) rfl rfl ?_
              refine g_ic_ge (n := 75) (tt := 118) rfl (fun h8 => ?_) (fun h8 => ?_)
              · skip
                have h8 : k.toInt ≥ (q.1 29).toInt := h8
                refine hs (f := dm_ild 119 2) rfl rfl ?_
                refine g_if_ne (n := 122) (tt := 123) rfl (fun h9 => ?_) (fun h9 => ?_)
                · skip
                  have h9 : ¬ x.toInt = 0 := h9
                  refine hs (f := dm_ald 124 0) rfl rfl ?_
                  refine hs (f := dm_push 125 (.long 0)) rfl rfl ?_
                  refine hs (f := dm_push 128 (.long 1152921504606846976)) rfl rfl ?_
                  replace hM := rm_to (q' := (sA (sA (sA (sB (sB (sB (sG (sF q 29 n2) 60 (q.2.1 60)) 92 b92) 94 b94) 114 b114) 93 b93) 95 b95) 115 b115)) hM (Eq.trans (sG_id (q := (sA (sA (sA (sB (sB (sB (sF q 29 n2) 92 b92) 94 b94) 114 b114) 93 b93) 95 b95) 115 b115)) (k := 60) (v := (q.2.1 60)) rfl) (show sG (sA (sA (sA (sB (sB (sB (sF q 29 n2) 92 b92) 94 b94) 114 b114) 93 b93) 95 b95) 115 b115) 60 (q.2.1 60) = (sA (sA (sA (sB (sB (sB (sG (sF q 29 n2) 60 (q.2.1 60)) 92 b92) 94 b94) 114 b114) 93 b93) 95 b95) 115 b115) from (congrArg (fun z => (sA (sA (sA (sB (sB (sB z 92 b92) 94 b94) 114 b114) 93 b93) 95 b95) 115 b115)) (show sG (sF q 29 n2) 60 (q.2.1 60) = (sG (sF q 29 n2) 60 (q.2.1 60)) from rfl))))
                  replace hM := rm_to (q' := (sA (sA (sA (sB (sB (sB (sG (sG (sF q 29 n2) 60 (q.2.1 60)) 61 (q.2.1 61)) 92 b92) 94 b94) 114 b114) 93 b93) 95 b95) 115 b115)) hM (Eq.trans (sG_id (q := (sA (sA (sA (sB (sB (sB (sG (sF q 29 n2) 60 (q.2.1 60)) 92 b92) 94 b94) 114 b114) 93 b93) 95 b95) 115 b115)) (k := 61) (v := (q.2.1 61)) rfl) (show sG (sA (sA (sA (sB (sB (sB (sG (sF q 29 n2) 60 (q.2.1 60)) 92 b92) 94 b94) 114 b114) 93 b93) 95 b95) 115 b115) 61 (q.2.1 61) = (sA (sA (sA (sB (sB (sB (sG (sG (sF q 29 n2) 60 (q.2.1 60)) 61 (q.2.1 61)) 92 b92) 94 b94) 114 b114) 93 b93) 95 b95) 115 b115) from (congrArg (fun z => (sA (sA (sA (sB (sB (sB z 92 b92) 94 b94) 114 b114) 93 b93) 95 b95) 115 b115)) (show sG (sG (sF q 29 n2) 60 (q.2.1 60)) 61 (q.2.1 61) = (sG (sG (sF q 29 n2) 60 (q.2.1 60)) 61 (q.2.1 61)) from rfl))))
                  have hab9 : ∀ i : Int, 0 ≤ i → i < (q.1 34).toInt → rB (q.2.2.2 96) i < rB (q.2.2.2 97) i := fun i i0 i1 => (hab i i0 i1)
                  replace hM : Rm X (sG (sG (sA (sA (sA (sB (sB (sB (sF q 29 n2) 92 b92) 94 b94) 114 b114) 93 b93) 95 b95) 115 b115) 60 (q.2.1 60)) 61 (q.2.1 61)) _ := hM
                  refine r_inv rfl hM rfl (as := [.ref 68, .long 0, .long 1152921504606846976]) rfl (Nat.le_of_ble_eq_true rfl) (hT_mono (by decide) (r_159 (q := (sA (sA (sA (sB (sB (sB (sF q 29 n2) 92 b92) 94 b94) 114 b114) 93 b93) 95 b95) 115 b115)) hS2 (show n2.toInt ≤ 24000 by omega) ho hab9 60 0 1152921504606846976 (q.2.1 60) (q.2.1 61) _ hM rfl (by decide) (by decide) hP0) (fun r1 M10 w => ?_))
                  obtain ⟨v9, d60, d61, rfl, kk1, kk2, kk3, hM10⟩ := w
                  replace kk1 : 0 ≤ d60.toInt := kk1
                  replace kk3 : d60.toInt + d61.toInt ≤ 1152921504606846976 := kk3
                  replace hM10 : Rm X (sA (sA (sA (sB (sB (sB (sG (sG (sF q 29 n2) 60 d60) 61 d61) 92 b92) 94 b94) 114 b114) 93 b93) 95 b95) 115 b115) M10 := hM10
                  refine hs (f := dm_pop 132) (st' := []) rfl rfl ?_
                  refine hs (f := dm_ald 133 0) rfl rfl ?_
                  refine hs (f := dm_ald 134 0) rfl rfl ?_
                  refine r_getj d60 rfl hM10 rfl rfl ?_
                  refine hs (f := dm_ald 138 0) rfl rfl ?_
                  refine r_getj d61 rfl hM10 rfl rfl ?_
                  refine hs (f := dm_push 142 (.int 1)) rfl rfl ?_
                  refine hs (f := dm_push 143 (.int 1)) rfl rfl ?_
                  refine r_inv rfl hM10 rfl (as := [.ref 68, .long d60, .long d61, .int 1, .int 1]) rfl (Nat.le_of_ble_eq_true rfl) (hT_mono (by omega) (show hT 2 150 [.ref 68, .long d60, .long d61, .int 1, .int 1] _ (fun r M' => r = none ∧ ∃ (n' : Int32) (c92 c94 : Nat → Int64) (c93 c95 : Nat → Int32), wS c92 n'.toInt ∧ n'.toInt ≤ n2.toInt + 2 ∧ (∀ i : Int, 0 ≤ i → i < n'.toInt → rB c92 i = d60.toInt ∨ rB c92 i = d60.toInt + d61.toInt ∨ ∃ k : Int, 0 ≤ k ∧ k < n2.toInt ∧ rB c92 i = rB b92 k) ∧ Rm X (sA (sA (sB (sB (sF (sA (sA (sA (sB (sB (sB (sG (sG (sF q 29 n2) 60 d60) 61 d61) 92 b92) 94 b94) 114 b114) 93 b93) 95 b95) 115 b115) 29 n') 92 c92) 94 c94) 93 c93) 95 c95) M') from hT_mono (Nat.le_refl _) (r_150 hM10 d60 d61 (1 : Int32) (1 : Int32) hS2 (show n2.toInt ≤ 22000 by omega) (by omega) (by omega) (by omega)) (fun r M' w => by
                      obtain ⟨w1, n', c92, c94, c93, c95, w2, w3, w4, w5⟩ := w
                      refine ⟨w1, n', c92, c94, c93, c95, w2, w3, fun i i0 i1 => ?_, w5⟩
                      rcases w4 i i0 i1 with z | z | ⟨k, k0, k1, k2, _⟩
                      · exact Or.inl z
                      · exact Or.inr (Or.inl z)
                      · exact Or.inr (Or.inr ⟨k, k0, k1, k2⟩))) (fun r1 M11 w => ?_))
                  obtain ⟨rfl, nu12, b92u12, b94u12, b93u12, b95u12, hSu12, hlu12, hpu12, hM11⟩ := w
                  replace hM11 := rm_to (q' := (sA (sA (sA (sB (sB (sB (sG (sG (sF q 29 nu12) 60 d60) 61 d61) 92 b92u12) 94 b94u12) 114 b114) 93 b93u12) 95 b95u12) 115 b115)) hM11 (Eq.trans (congrArg (fun z => sA z 95 b95u12) (Eq.trans (congrArg (fun z => sA z 93 b93u12) (Eq.trans (congrArg (fun z => sB z 94 b94u12) (Eq.trans (congrArg (fun z => sB z 92 b92u12) (show sF (sA (sA (sA (sB (sB (sB (sG (sG (sF q 29 n2) 60 d60) 61 d61) 92 b92) 94 b94) 114 b114) 93 b93) 95 b95) 115 b115) 29 nu12 = (sA (sA (sA (sB (sB (sB (sG (sG (sF q 29 nu12) 60 d60) 61 d61) 92 b92) 94 b94) 114 b114) 93 b93) 95 b95) 115 b115) from (congrArg (fun z => (sA (sA (sA (sB (sB (sB (sG (sG z 60 d60) 61 d61) 92 b92) 94 b94) 114 b114) 93 b93) 95 b95) 115 b115)) (show sF (sF q 29 n2) 29 nu12 = (sF q 29 nu12) from sF_sF)))) (show sB (sA (sA (sA (sB (sB (sB (sG (sG (sF q 29 nu12) 60 d60) 61 d61) 92 b92) 94 b94) 114 b114) 93 b93) 95 b95) 115 b115) 92 b92u12 = (sA (sA (sA (sB (sB (sB (sG (sG (sF q 29 nu12) 60 d60) 61 d61) 92 b92u12) 94 b94) 114 b114) 93 b93) 95 b95) 115 b115) from (congrArg (fun z => (sA (sA (sA z 93 b93) 95 b95) 115 b115)) (show sB (sB (sB (sB (sG (sG (sF q 29 nu12) 60 d60) 61 d61) 92 b92) 94 b94) 114 b114) 92 b92u12 = (sB (sB (sB (sG (sG (sF q 29 nu12) 60 d60) 61 d61) 92 b92u12) 94 b94) 114 b114) from Eq.trans (show sB (sB (sB (sB (sG (sG (sF q 29 nu12) 60 d60) 61 d61) 92 b92) 94 b94) 114 b114) 92 b92u12 = sB (sB (sB (sB (sG (sG (sF q 29 nu12) 60 d60) 61 d61) 92 b92) 94 b94) 92 b92u12) 114 b114 from sB_cm (by decide)) (congrArg (fun z => sB z 114 b114) (show sB (sB (sB (sG (sG (sF q 29 nu12) 60 d60) 61 d61) 92 b92) 94 b94) 92 b92u12 = (sB (sB (sG (sG (sF q 29 nu12) 60 d60) 61 d61) 92 b92u12) 94 b94) from Eq.trans (show sB (sB (sB (sG (sG (sF q 29 nu12) 60 d60) 61 d61) 92 b92) 94 b94) 92 b92u12 = sB (sB (sB (sG (sG (sF q 29 nu12) 60 d60) 61 d61) 92 b92) 92 b92u12) 94 b94 from sB_cm (by decide)) (congrArg (fun z => sB z 94 b94) (show sB (sB (sG (sG (sF q 29 nu12) 60 d60) 61 d61) 92 b92) 92 b92u12 = (sB (sG (sG (sF q 29 nu12) 60 d60) 61 d61) 92 b92u12) from sB_sB))))))))) (show sB (sA (sA (sA (sB (sB (sB (sG (sG (sF q 29 nu12) 60 d60) 61 d61) 92 b92u12) 94 b94) 114 b114) 93 b93) 95 b95) 115 b115) 94 b94u12 = (sA (sA (sA (sB (sB (sB (sG (sG (sF q 29 nu12) 60 d60) 61 d61) 92 b92u12) 94 b94u12) 114 b114) 93 b93) 95 b95) 115 b115) from (congrArg (fun z => (sA (sA (sA z 93 b93) 95 b95) 115 b115)) (show sB (sB (sB (sB (sG (sG (sF q 29 nu12) 60 d60) 61 d61) 92 b92u12) 94 b94) 114 b114) 94 b94u12 = (sB (sB (sB (sG (sG (sF q 29 nu12) 60 d60) 61 d61) 92 b92u12) 94 b94u12) 114 b114) from Eq.trans (show sB (sB (sB (sB (sG (sG (sF q 29 nu12) 60 d60) 61 d61) 92 b92u12) 94 b94) 114 b114) 94 b94u12 = sB (sB (sB (sB (sG (sG (sF q 29 nu12) 60 d60) 61 d61) 92 b92u12) 94 b94) 94 b94u12) 114 b114 from sB_cm (by decide)) (congrArg (fun z => sB z 114 b114) (show sB (sB (sB (sG (sG (sF q 29 nu12) 60 d60) 61 d61) 92 b92u12) 94 b94) 94 b94u12 = (sB (sB (sG (sG (sF q 29 nu12) 60 d60) 61 d61) 92 b92u12) 94 b94u12) from sB_sB))))))) (show sA (sA (sA (sA (sB (sB (sB (sG (sG (sF q 29 nu12) 60 d60) 61 d61) 92 b92u12) 94 b94u12) 114 b114) 93 b93) 95 b95) 115 b115) 93 b93u12 = (sA (sA (sA (sB (sB (sB (sG (sG (sF q 29 nu12) 60 d60) 61 d61) 92 b92u12) 94 b94u12) 114 b114) 93 b93u12) 95 b95) 115 b115) from (show sA (sA (sA (sA (sB (sB (sB (sG (sG (sF q 29 nu12) 60 d60) 61 d61) 92 b92u12) 94 b94u12) 114 b114) 93 b93) 95 b95) 115 b115) 93 b93u12 = (sA (sA (sA (sB (sB (sB (sG (sG (sF q 29 nu12) 60 d60) 61 d61) 92 b92u12) 94 b94u12) 114 b114) 93 b93u12) 95 b95) 115 b115) from Eq.trans (show sA (sA (sA (sA (sB (sB (sB (sG (sG (sF q 29 nu12) 60 d60) 61 d61) 92 b92u12) 94 b94u12) 114 b114) 93 b93) 95 b95) 115 b115) 93 b93u12 = sA (sA (sA (sA (sB (sB (sB (sG (sG (sF q 29 nu12) 60 d60) 61 d61) 92 b92u12) 94 b94u12) 114 b114) 93 b93) 95 b95) 93 b93u12) 115 b115 from sA_cm (by decide)) (congrArg (fun z => sA z 115 b115) (show sA (sA (sA (sB (sB (sB (sG (sG (sF q 29 nu12) 60 d60) 61 d61) 92 b92u12) 94 b94u12) 114 b114) 93 b93) 95 b95) 93 b93u12 = (sA (sA (sB (sB (sB (sG (sG (sF q 29 nu12) 60 d60) 61 d61) 92 b92u12) 94 b94u12) 114 b114) 93 b93u12) 95 b95) from Eq.trans (show sA (sA (sA (sB (sB (sB (sG (sG (sF q 29 nu12) 60 d60) 61 d61) 92 b92u12) 94 b94u12) 114 b114) 93 b93) 95 b95) 93 b93u12 = sA (sA (sA (sB (sB (sB (sG (sG (sF q 29 nu12) 60 d60) 61 d61) 92 b92u12) 94 b94u12) 114 b114) 93 b93) 93 b93u12) 95 b95 from sA_cm (by decide)) (congrArg (fun z => sA z 95 b95) (show sA (sA (sB (sB (sB (sG (sG (sF q 29 nu12) 60 d60) 61 d61) 92 b92u12) 94 b94u12) 114 b114) 93 b93) 93 b93u12 = (sA (sB (sB (sB (sG (sG (sF q 29 nu12) 60 d60) 61 d61) 92 b92u12) 94 b94u12) 114 b114) 93 b93u12) from sA_sA)))))))) (show sA (sA (sA (sA (sB (sB (sB (sG (sG (sF q 29 nu12) 60 d60) 61 d61) 92 b92u12) 94 b94u12) 114 b114) 93 b93u12) 95 b95) 115 b115) 95 b95u12 = (sA (sA (sA (sB (sB (sB (sG (sG (sF q 29 nu12) 60 d60) 61 d61) 92 b92u12) 94 b94u12) 114 b114) 93 b93u12) 95 b95u12) 115 b115) from (show sA (sA (sA (sA (sB (sB (sB (sG (sG (sF q 29 nu12) 60 d60) 61 d61) 92 b92u12) 94 b94u12) 114 b114) 93 b93u12) 95 b95) 115 b115) 95 b95u12 = (sA (sA (sA (sB (sB (sB (sG (sG (sF q 29 nu12) 60 d60) 61 d61) 92 b92u12) 94 b94u12) 114 b114) 93 b93u12) 95 b95u12) 115 b115) from Eq.trans (show sA (sA (sA (sA (sB (sB (sB (sG (sG (sF q 29 nu12) 60 d60) 61 d61) 92 b92u12) 94 b94u12) 114 b114) 93 b93u12) 95 b95) 115 b115) 95 b95u12 = sA (sA (sA (sA (sB (sB (sB (sG (sG (sF q 29 nu12) 60 d60) 61 d61) 92 b92u12) 94 b94u12) 114 b114) 93 b93u12) 95 b95) 95 b95u12) 115 b115 from sA_cm (by decide)) (congrArg (fun z => sA z 115 b115) (show sA (sA (sA (sB (sB (sB (sG (sG (sF q 29 nu12) 60 d60) 61 d61) 92 b92u12) 94 b94u12) 114 b114) 93 b93u12) 95 b95) 95 b95u12 = (sA (sA (sB (sB (sB (sG (sG (sF q 29 nu12) 60 d60) 61 d61) 92 b92u12) 94 b94u12) 114 b114) 93 b93u12) 95 b95u12) from sA_sA)))))
                  exact hr (f := dm_vret) rfl rfl (⟨rfl, nu12, b92u12, b94u12, b114, b93u12, b95u12, b115, d60, d61, hSu12, by omega, by have z := HN_two hpu12 60 0 2 ⟨by omega, by omega, by omega⟩; omega, hM11⟩)
                · skip
                  have h9 : x.toInt = 0 := h9
                  replace hM := rm_to (q' := (sA (sA (sA (sB (sB (sB (sG (sF q 29 n2) 60 (q.2.1 60)) 92 b92) 94 b94) 114 b114) 93 b93) 95 b95) 115 b115)) hM (Eq.trans (sG_id (q := (sA (sA (sA (sB (sB (sB (sF q 29 n2) 92 b92) 94 b94) 114 b114) 93 b93) 95 b95) 115 b115)) (k := 60) (v := (q.2.1 60)) rfl) (show sG (sA (sA (sA (sB (sB (sB (sF q 29 n2) 92 b92) 94 b94) 114 b114) 93 b93) 95 b95) 115 b115) 60 (q.2.1 60) = (sA (sA (sA (sB (sB (sB (sG (sF q 29 n2) 60 (q.2.1 60)) 92 b92) 94 b94) 114 b114) 93 b93) 95 b95) 115 b115) from (congrArg (fun z => (sA (sA (sA (sB (sB (sB z 92 b92) 94 b94) 114 b114) 93 b93) 95 b95) 115 b115)) (show sG (sF q 29 n2) 60 (q.2.1 60) = (sG (sF q 29 n2) 60 (q.2.1 60)) from rfl))))
                  replace hM := rm_to (q' := (sA (sA (sA (sB (sB (sB (sG (sG (sF q 29 n2) 60 (q.2.1 60)) 61 (q.2.1 61)) 92 b92) 94 b94) 114 b114) 93 b93) 95 b95) 115 b115)) hM (Eq.trans (sG_id (q := (sA (sA (sA (sB (sB (sB (sG (sF q 29 n2) 60 (q.2.1 60)) 92 b92) 94 b94) 114 b114) 93 b93) 95 b95) 115 b115)) (k := 61) (v := (q.2.1 61)) rfl) (show sG (sA (sA (sA (sB (sB (sB (sG (sF q 29 n2) 60 (q.2.1 60)) 92 b92) 94 b94) 114 b114) 93 b93) 95 b95) 115 b115) 61 (q.2.1 61) = (sA (sA (sA (sB (sB (sB (sG (sG (sF q 29 n2) 60 (q.2.1 60)) 61 (q.2.1 61)) 92 b92) 94 b94) 114 b114) 93 b93) 95 b95) 115 b115) from (congrArg (fun z => (sA (sA (sA (sB (sB (sB z 92 b92) 94 b94) 114 b114) 93 b93) 95 b95) 115 b115)) (show sG (sG (sF q 29 n2) 60 (q.2.1 60)) 61 (q.2.1 61) = (sG (sG (sF q 29 n2) 60 (q.2.1 60)) 61 (q.2.1 61)) from rfl))))
                  exact hr (f := dm_vret) rfl rfl (⟨rfl, n2, b92, b94, b114, b93, b95, b115, q.2.1 60, q.2.1 61, hS2, by omega, by omega, hM⟩)
              · skip
                have h8 : k.toInt < (q.1 29).toInt := h8
                refine hs (f := dm_ald 76 0) rfl rfl ?_
                refine r_geta (c := 111) rfl hM rfl ?_
                refine hs (f := dm_ild 80 3) rfl rfl ?_
                refine r_lald (L := 24000) (i := k) (b114 k.toInt.toNat) rfl hM rfl (by omega) rfl ?_
                generalize g14 : b114 k.toInt.toNat = v13
                have x15 : v13.toInt = rB b114 k.toInt := rB_of (i := k) g14 rfl
                refine hs (f := dm_ald 82 0) rfl rfl ?_
                refine r_geta (c := 89) rfl hM rfl ?_
                refine hs (f := dm_ild 86 3) rfl rfl ?_
                refine r_lald (L := 24000) (i := k) (b92 k.toInt.toNat) rfl hM rfl (by omega) rfl ?_
                generalize g17 : b92 k.toInt.toNat = v16
                have x18 : v16.toInt = rB b92 k.toInt := rB_of (i := k) g17 rfl
                refine g_lc_ne (x := v13) (y := v16) (m := 88) (n := 91) (tt := 110) rfl rfl (fun h19 => ?_) (fun h19 => ?_)
                · skip
                  have h19 : ¬ v13.toInt = v16.toInt := h19
                  refine hs (f := dm_push 111 (.int 0)) rfl rfl ?_
                  refine hs (f := dm_ist 112 2) (lv' := [(2, .int 0), (3, .int k), (1, .int (q.1 29)), (0, .ref 68)]) rfl rfl ?_
                  have e20 : (k + 1).toInt = k.toInt + 1 := by have w := i_addc (x := k) (y := 1) 1 rfl (by omega) (by omega); omega
                  refine hs (f := dm_iinc 115 3 1) (lv' := [(3, .int (k + 1)), (2, .int 0), (1, .int (q.1 29)), (0, .ref 68)]) rfl rfl ?_
                  refine hs (f := dm_goto 66) rfl rfl ?_
                  exact (IH _ (by omega)) (0 : Int32) (k + 1) _ hM isB_0 (by omega) (by intro _; omega) (by intro z; exact absurd z (by decide)) rfl
                · skip
                  have h19 : v13.toInt = v16.toInt := h19
                  refine hs (f := dm_ald 92 0) rfl rfl ?_
                  refine r_geta (c := 112) rfl hM rfl ?_
                  refine hs (f := dm_ild 96 3) rfl rfl ?_
                  refine r_iald (L := 24000) (i := k) (b115 k.toInt.toNat) rfl hM rfl (by omega) rfl ?_
                  generalize g22 : b115 k.toInt.toNat = v21
                  have x23 : v21.toInt = rA b115 k.toInt := rA_of (i := k) g22 rfl
                  refine hs (f := dm_ald 98 0) rfl rfl ?_
                  refine r_geta (c := 90) rfl hM rfl ?_
                  refine hs (f := dm_ild 102 3) rfl rfl ?_
                  refine r_iald (L := 24000) (i := k) (b93 k.toInt.toNat) rfl hM rfl (by omega) rfl ?_
                  generalize g25 : b93 k.toInt.toNat = v24
                  have x26 : v24.toInt = rA b93 k.toInt := rA_of (i := k) g25 rfl
                  refine g_ic_ne (n := 106) (tt := 110) rfl (fun h27 => ?_) (fun h27 => ?_)
                  · skip
                    have h27 : ¬ v21.toInt = v24.toInt := h27
                    refine hs (f := dm_push 111 (.int 0)) rfl rfl ?_
                    refine hs (f := dm_ist 112 2) (lv' := [(2, .int 0), (3, .int k), (1, .int (q.1 29)), (0, .ref 68)]) rfl rfl ?_
                    have e28 : (k + 1).toInt = k.toInt + 1 := by have w := i_addc (x := k) (y := 1) 1 rfl (by omega) (by omega); omega
                    refine hs (f := dm_iinc 115 3 1) (lv' := [(3, .int (k + 1)), (2, .int 0), (1, .int (q.1 29)), (0, .ref 68)]) rfl rfl ?_
                    refine hs (f := dm_goto 66) rfl rfl ?_
                    exact (IH _ (by omega)) (0 : Int32) (k + 1) _ hM isB_0 (by omega) (by intro _; omega) (by intro z; exact absurd z (by decide)) rfl
                  · skip
                    have h27 : v21.toInt = v24.toInt := h27
                    refine hs (f := dm_push 107 (.int 1)) rfl rfl ?_
                    refine hs (f := dm_goto 111) rfl rfl ?_
                    refine hs (f := dm_ist 112 2) (lv' := [(2, .int 1), (3, .int k), (1, .int (q.1 29)), (0, .ref 68)]) rfl rfl ?_
                    have e29 : (k + 1).toInt = k.toInt + 1 := by have w := i_addc (x := k) (y := 1) 1 rfl (by omega) (by omega); omega
                    refine hs (f := dm_iinc 115 3 1) (lv' := [(3, .int (k + 1)), (2, .int 1), (1, .int (q.1 29)), (0, .ref 68)]) rfl rfl ?_
                    refine hs (f := dm_goto 66) rfl rfl ?_
                    exact (IH _ (by omega)) (1 : Int32) (k + 1) _ hM isB_1 (by omega) (by intro _; omega) (fun _ => hx9 (isB_ne bx (by omega))) rfl
        refine hs (f := dm_ald 51 0) rfl rfl ?_
        refine r_geti n2 rfl hM2 rfl rfl ?_
        refine hs (f := dm_ild 55 1) rfl rfl ?_
        refine g_ic_ne (n := 58) (tt := 62) rfl (fun h30 => ?_) (fun h30 => ?_)
        · skip
          have h30 : ¬ n2.toInt = (q.1 29).toInt := h30
          refine hs (f := dm_push 63 (.int 0)) rfl rfl ?_
          refine hs (f := dm_ist 64 2) (lv' := [(2, .int 0), (1, .int (q.1 29)), (0, .ref 68)]) rfl rfl ?_
          refine hs (f := dm_push 65 (.int 0)) rfl rfl ?_
          refine hs (f := dm_ist 66 3) (lv' := [(3, .int 0), (2, .int 0), (1, .int (q.1 29)), (0, .ref 68)]) rfl rfl ?_
          exact (j66 _) (0 : Int32) 0 _ hM2 isB_0 (by decide) (by intro _; show (0 : Int) ≤ _; omega) (by intro z; exact absurd z (by decide)) rfl
        · skip
          have h30 : n2.toInt = (q.1 29).toInt := h30
          refine hs (f := dm_push 59 (.int 1)) rfl rfl ?_
          refine hs (f := dm_goto 63) rfl rfl ?_
          refine hs (f := dm_ist 64 2) (lv' := [(2, .int 1), (1, .int (q.1 29)), (0, .ref 68)]) rfl rfl ?_
          refine hs (f := dm_push 65 (.int 0)) rfl rfl ?_
          refine hs (f := dm_ist 66 3) (lv' := [(3, .int 0), (2, .int 1), (1, .int (q.1 29)), (0, .ref 68)]) rfl rfl ?_
          exact (j66 _) (1 : Int32) 0 _ hM2 isB_1 (by decide) (by intro _; show (0 : Int) ≤ _; omega) (by intro z; omega) rfl
      · skip
        have h1 : k.toInt < (q.1 29).toInt := h1
        refine hs (f := dm_ald 13 0) rfl rfl ?_
        refine r_geta (c := 111) rfl hM rfl ?_
        refine hs (f := dm_ild 17 2) rfl rfl ?_
        refine hs (f := dm_ald 18 0) rfl rfl ?_
        refine r_geta (c := 89) rfl hM rfl ?_
        refine hs (f := dm_ild 22 2) rfl rfl ?_
        refine r_lald (L := 24000) (i := k) ((q.2.2.2 92) k.toInt.toNat) rfl hM rfl (by omega) rfl ?_
        generalize g32 : (q.2.2.2 92) k.toInt.toNat = v31
        have x33 : v31.toInt = rB (q.2.2.2 92) k.toInt := rB_of (i := k) g32 rfl
        refine r_last (L := 24000) (i := k) (x := v31) b114 rfl hM rfl (by omega) rfl (fun M34 hM34 => ?_)
        replace hM34 := rm_to (q' := (sA (sB q 114 (vp_updL b114 k.toInt.toNat v31)) 115 b115)) hM34 (show sB (sA (sB q 114 b114) 115 b115) 114 (vp_updL b114 k.toInt.toNat v31) = (sA (sB q 114 (vp_updL b114 k.toInt.toNat v31)) 115 b115) from (congrArg (fun z => (sA z 115 b115)) (show sB (sB q 114 b114) 114 (vp_updL b114 k.toInt.toNat v31) = (sB q 114 (vp_updL b114 k.toInt.toNat v31)) from sB_sB)))
        refine hs (f := dm_ald 25 0) rfl rfl ?_
        refine r_geta (c := 112) rfl hM34 rfl ?_
        refine hs (f := dm_ild 29 2) rfl rfl ?_
        refine hs (f := dm_ald 30 0) rfl rfl ?_
        refine r_geta (c := 90) rfl hM34 rfl ?_
        refine hs (f := dm_ild 34 2) rfl rfl ?_
        refine r_iald (L := 24000) (i := k) ((q.2.2.1 93) k.toInt.toNat) rfl hM34 rfl (by omega) rfl ?_
        generalize g36 : (q.2.2.1 93) k.toInt.toNat = v35
        have x37 : v35.toInt = rA (q.2.2.1 93) k.toInt := rA_of (i := k) g36 rfl
        refine r_iast (L := 24000) (i := k) (x := v35) b115 rfl hM34 rfl (by omega) rfl (fun M38 hM38 => ?_)
        replace hM38 := rm_to (q' := (sA (sB q 114 (vp_updL b114 k.toInt.toNat v31)) 115 (upd b115 k.toInt.toNat v35))) hM38 (show sA (sA (sB q 114 (vp_updL b114 k.toInt.toNat v31)) 115 b115) 115 (upd b115 k.toInt.toNat v35) = (sA (sB q 114 (vp_updL b114 k.toInt.toNat v31)) 115 (upd b115 k.toInt.toNat v35)) from (show sA (sA (sB q 114 (vp_updL b114 k.toInt.toNat v31)) 115 b115) 115 (upd b115 k.toInt.toNat v35) = (sA (sB q 114 (vp_updL b114 k.toInt.toNat v31)) 115 (upd b115 k.toInt.toNat v35)) from sA_sA))
        have e39 : (k + 1).toInt = k.toInt + 1 := by have w := i_addc (x := k) (y := 1) 1 rfl (by omega) (by omega); omega
        refine hs (f := dm_iinc 39 2 1) (lv' := [(2, .int (k + 1)), (1, .int (q.1 29)), (0, .ref 68)]) rfl rfl ?_
        refine hs (f := dm_goto 7) rfl rfl ?_
        exact (IH _ (by omega)) (k + 1) (vp_updL b114 k.toInt.toNat v31) (upd b115 k.toInt.toNat v35) _ hM38 (by omega) (by omega) rfl
  refine hx (t := cd_160) rfl (Nat.le_of_ble_eq_true rfl) (lv := [(0, .ref 68)]) rfl ?_
  refine hs (f := dm_ald 1 0) rfl rfl ?_
  refine r_geti (q.1 29) rfl hM rfl rfl ?_
  refine hs (f := dm_ist 5 1) (lv' := [(1, .int (q.1 29)), (0, .ref 68)]) rfl rfl ?_
  refine hs (f := dm_push 6 (.int 0)) rfl rfl ?_
  refine hs (f := dm_ist 7 2) (lv' := [(2, .int 0), (1, .int (q.1 29)), (0, .ref 68)]) rfl rfl ?_
  replace hM := rm_to (q' := (sB q 114 (q.2.2.2 114))) hM (Eq.trans (sB_id (q := q) (k := 114) (v := (q.2.2.2 114)) rfl) (show sB q 114 (q.2.2.2 114) = (sB q 114 (q.2.2.2 114)) from (show sB q 114 (q.2.2.2 114) = (sB q 114 (q.2.2.2 114)) from rfl)))
  replace hM := rm_to (q' := (sA (sB q 114 (q.2.2.2 114)) 115 (q.2.2.1 115))) hM (Eq.trans (sA_id (q := (sB q 114 (q.2.2.2 114))) (k := 115) (v := (q.2.2.1 115)) rfl) (show sA (sB q 114 (q.2.2.2 114)) 115 (q.2.2.1 115) = (sA (sB q 114 (q.2.2.2 114)) 115 (q.2.2.1 115)) from (show sA (sB q 114 (q.2.2.2 114)) 115 (q.2.2.1 115) = (sA (sB q 114 (q.2.2.2 114)) 115 (q.2.2.1 115)) from rfl)))
  exact (j7 _) 0 (q.2.2.2 114) (q.2.2.1 115) _ hM (by decide) (by show (0 : Int) ≤ _; omega) rfl
