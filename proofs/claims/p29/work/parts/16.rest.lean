/-! places, heights at places, witnesses, reading, images -/
def okN (n : Int32) : Prop := ¬ n < 0 ∧ ¬ 60 < n
def mN (n k : Int32) : Nat := (k.toInt - n.toInt + 61).toNat
theorem i_sub60 {n : Int32} (h : okN n) : (n - 60).toInt = n.toInt - 60 := by
  obtain ⟨h0, h1⟩ := h
  rw [Int32.lt_iff_toInt_lt] at h0 h1
  have e0 : (0 : Int32).toInt = 0 := by decide
  have e1 : (60 : Int32).toInt = 60 := by decide
  rw [Int32.toInt_sub, e1]
  exact Int.bmod_eq_of_le (by omega) (by omega)
theorem mN_lt {n k : Int32} (hn : okN n) (h : ¬ k < n - 60) : mN n (k + (-1)) < mN n k := by
  have h2 := i_sub60 hn
  obtain ⟨h0, h1⟩ := hn
  rw [Int32.lt_iff_toInt_lt] at h0 h1 h
  have e0 : (0 : Int32).toInt = 0 := by decide
  have e1 : (60 : Int32).toInt = 60 := by decide
  rw [h2] at h
  unfold mN
  rw [i_sub1 (by omega)]
  omega
theorem sp_133f {M : dm_Mem} (w : Int64) (n : Int32) : hT 1 133 [.long w, .int n] M (fun r M' => ∃ x : Int32, isB x ∧ r = some (.int x) ∧ M' = M ∧ (¬ x = 0 → okN n)) := by
  have j28 : hG 0 cd_133 28 [(0, .long w), (2, .int n)] [] M (fun r M' => ∃ x : Int32, isB x ∧ r = some (.int x) ∧ M' = M ∧ (¬ x = 0 → okN n)) :=
    hs (f := dm_push 29 (.int 0)) rfl rfl (h_retB rfl isB_0 ⟨0, isB_0, rfl, rfl, fun q => absurd rfl q⟩)
  refine hx (t := cd_133) rfl (Nat.le_of_ble_eq_true rfl) (lv := [(0, .long w), (2, .int n)]) rfl ?_
  refine hs (f := dm_ild 1 2) rfl rfl ?_
  refine h_if_lt (n := 4) (tt := 28) rfl (fun _ => j28) (fun h1 => ?_)
  refine hs (f := dm_ild 5 2) rfl rfl ?_
  refine hs (f := dm_push 7 (.int 60)) rfl rfl ?_
  refine h_ic_gt (n := 10) (tt := 28) rfl (fun _ => j28) (fun h2 => ?_)
  refine hs (f := dm_lld 11 0) rfl rfl ?_
  refine hs (f := dm_push 12 (.long 0)) rfl rfl ?_
  refine hs (f := dm_lc 13) rfl rfl ?_
  refine h_if_lt (n := 16) (tt := 28) rfl (fun _ => j28) (fun h3 => ?_)
  refine hs (f := dm_lld 17 0) rfl rfl ?_
  refine hs (f := dm_push 18 (.long 1)) rfl rfl ?_
  refine hs (f := dm_ild 19 2) rfl rfl ?_
  refine hs (f := dm_li 20 (fun x y => x <<< (y.toInt64 &&& 63))) rfl rfl ?_
  refine hs (f := dm_lc 21) rfl rfl ?_
  refine h_if_ge (n := 24) (tt := 28) rfl (fun _ => j28) (fun h4 => ?_)
  refine hs (f := dm_push 25 (.int 1)) rfl rfl ?_
  refine hs (f := dm_goto 29) rfl rfl ?_
  exact h_retB rfl isB_1 ⟨1, isB_1, rfl, rfl, fun _ => ⟨h1, h2⟩⟩
theorem sp_87 {p : iv_P} {M : dm_Mem} (hM : Iv p M) {a1 : Nat} (ha1 : iv_ty a1 = some 6) (x2 : Int32) (x3 : Int64) (x4 : Int32) (hN : okN x4) : hT 3 87 [.ref a1, .int x2, .long x3, .int x4] M (qI M) := by
  have j98_0 : ∀ (x5 : Int32) (x6 : Int32) (x7 : Int32), hG 2 cd_87 98 [(7, .int x5), (6, .int x6), (5, .int x7), (0, .ref a1), (1, .int x2), (2, .long x3), (4, .int x4)] [] M (qI M) := by
    intro x5 x6 x7
    refine hs (f := dm_ild 100 6) rfl rfl ?_
    exact hr (f := dm_ret .int) rfl rfl ⟨_, rfl, rfl⟩
  have j98_1 : ∀ (x8 : Int32) (x9 : Int32) (x10 : Int32) (x11 : Int32) (bx11 : isB x11), hG 2 cd_87 98 [(7, .int x8), (6, .int x9), (5, .int x10), (8, .int x11), (0, .ref a1), (1, .int x2), (2, .long x3), (4, .int x4)] [] M (qI M) := by
    intro x8 x9 x10 x11 bx11
    refine hs (f := dm_ild 100 6) rfl rfl ?_
    exact hr (f := dm_ret .int) rfl rfl ⟨_, rfl, rfl⟩
  have j17_2 : ∀ (nn : Nat) (x12 : Int32) (x13 : Int32) (x14 : Int32) (x15 : Int32) (bx15 : isB x15), mN x4 x12 = nn → hG 2 cd_87 17 [(7, .int x12), (6, .int x13), (5, .int x14), (8, .int x15), (0, .ref a1), (1, .int x2), (2, .long x3), (4, .int x4)] [] M (qI M) := by
    intro nn
    induction nn using Nat.strongRecOn with
    | ind nn IHn =>
      intro x12 x13 x14 x15 bx15 hn
      have j79_3 : ∀ (x16 : Int32) (bx16 : isB x16) (x17 : Int32) (x18 : Int32) (x19 : Int32) (x20 : Int32), mN x4 (x17 + (-1)) < nn → hG 2 cd_87 79 [(8, .int x16), (7, .int x17), (6, .int x18), (5, .int x19), (0, .ref a1), (1, .int x2), (2, .long x3), (4, .int x4)] [.int x20] M (qI M) := by
        intro x16 bx16 x17 x18 x19 x20 hF
        refine hs (f := dm_ist 81 5) (lv' := [(5, .int x20), (8, .int x16), (7, .int x17), (6, .int x18), (0, .ref a1), (1, .int x2), (2, .long x3), (4, .int x4)]) rfl rfl ?_
        refine hs (f := dm_ild 83 6) rfl rfl ?_
        refine hs (f := dm_ald 84 0) rfl rfl ?_
        refine hs (f := dm_ild 86 5) rfl rfl ?_
        refine v_inv rfl rfl rfl (Nat.le_of_ble_eq_true rfl) hM ha1 (w_I (by decide) (sp_75  hM ha1 x20 ) (fun x21 => ?_))
        refine hs (f := dm_ii 90 (fun x y => x + y)) (st' := [.int (x18 + x21)]) rfl rfl ?_
        refine hs (f := dm_ist 92 6) (lv' := [(6, .int (x18 + x21)), (5, .int x20), (8, .int x16), (7, .int x17), (0, .ref a1), (1, .int x2), (2, .long x3), (4, .int x4)]) rfl rfl ?_
        refine hs (f := dm_iinc 95 7 (-1)) (lv' := [(7, .int (x17 + (-1))), (6, .int (x18 + x21)), (5, .int x20), (8, .int x16), (0, .ref a1), (1, .int x2), (2, .long x3), (4, .int x4)]) rfl rfl ?_
        refine hs (f := dm_goto 17) rfl rfl ?_
        exact IHn _ hF (x17 + (-1)) (x18 + x21) x20 x16 bx16 rfl
      have j57_4 : ∀ (x22 : Int32) (x23 : Int32) (x24 : Int32) (x25 : Int32) (bx25 : isB x25) (x26 : Int32) (bx26 : isB x26), mN x4 (x22 + (-1)) < nn → hG 2 cd_87 57 [(7, .int x22), (6, .int x23), (5, .int x24), (8, .int x25), (0, .ref a1), (1, .int x2), (2, .long x3), (4, .int x4)] [.int x26] M (qI M) := by
        intro x22 x23 x24 x25 bx25 x26 bx26 hF
        refine hs (f := dm_ist 59 8) (lv' := [(8, .int x26), (7, .int x22), (6, .int x23), (5, .int x24), (0, .ref a1), (1, .int x2), (2, .long x3), (4, .int x4)]) rfl rfl ?_
        refine hs (f := dm_ild 61 8) rfl rfl ?_
        refine h_if_eq (n := 64) (tt := 73) rfl (fun h27 => ?_) (fun h27 => ?_)
        · skip
          refine hs (f := dm_ald 74 0) rfl rfl ?_
          refine hs (f := dm_ild 76 5) rfl rfl ?_
          refine v_inv rfl rfl rfl (Nat.le_of_ble_eq_true rfl) hM ha1 (w_I (by decide) (sp_79  hM ha1 x24 ) (fun x28 => ?_))
          exact j79_3 x26 bx26 x22 x23 x24 x28 hF
        · skip
          refine hs (f := dm_ald 65 0) rfl rfl ?_
          refine hs (f := dm_ild 67 5) rfl rfl ?_
          refine v_inv rfl rfl rfl (Nat.le_of_ble_eq_true rfl) hM ha1 (w_I (by decide) (sp_80  hM ha1 x24 ) (fun x29 => ?_))
          refine hs (f := dm_goto 79) rfl rfl ?_
          exact j79_3 x26 bx26 x22 x23 x24 x29 hF
      have j56_5 : ∀ (x30 : Int32) (x31 : Int32) (x32 : Int32) (x33 : Int32) (bx33 : isB x33), mN x4 (x30 + (-1)) < nn → hG 2 cd_87 56 [(7, .int x30), (6, .int x31), (5, .int x32), (8, .int x33), (0, .ref a1), (1, .int x2), (2, .long x3), (4, .int x4)] [] M (qI M) := by
        intro x30 x31 x32 x33 bx33 hF
        refine hs (f := dm_push 57 (.int 0)) rfl rfl ?_
        exact j57_4 x30 x31 x32 x33 bx33 0 isB_0 hF
      refine hs (f := dm_ild 19 7) rfl rfl ?_
      refine hs (f := dm_ild 21 4) rfl rfl ?_
      refine hs (f := dm_push 23 (.int 60)) rfl rfl ?_
      refine hs (f := dm_ii 24 (fun x y => x - y)) (st' := [.int (x4 - (60 : Int32)), .int x12]) rfl rfl ?_
      refine h_ic_lt (n := 27) (tt := 98) rfl (fun h34 => ?_) (fun h34 => ?_)
      · skip
        exact j98_1 x12 x13 x14 x15 bx15
      · skip
        have hF : mN x4 (x12 + (-1)) < nn := hn ▸ mN_lt hN h34
        refine hs (f := dm_ald 28 0) rfl rfl ?_
        refine hs (f := dm_ild 30 5) rfl rfl ?_
        refine v_inv rfl rfl rfl (Nat.le_of_ble_eq_true rfl) hM ha1 (w_B (by decide) (sp_77  hM ha1 x14 ) (fun x35 bx35 => ?_))
        refine h_if_ne (n := 36) (tt := 98) rfl (fun h36 => ?_) (fun h36 => ?_)
        · skip
          exact j98_1 x12 x13 x14 x15 bx15
        · skip
          refine hs (f := dm_ild 38 7) rfl rfl ?_
          refine h_if_lt (n := 41) (tt := 56) rfl (fun h37 => ?_) (fun h37 => ?_)
          · skip
            exact j56_5 x12 x13 x14 x15 bx15 hF
          · skip
            refine hs (f := dm_lld 42 2) rfl rfl ?_
            refine hs (f := dm_ild 44 7) rfl rfl ?_
            refine hs (f := dm_li 45 (fun x y => x >>> (y.toInt64 &&& 63))) (st' := [.long (x3 >>> (x12.toInt64 &&& 63))]) rfl rfl ?_
            refine hs (f := dm_push 46 (.long 1)) rfl rfl ?_
            refine hs (f := dm_ll 47 (fun x y => x &&& y)) (st' := [.long ((x3 >>> (x12.toInt64 &&& 63)) &&& (1 : Int64))]) rfl rfl ?_
            refine hs (f := dm_push 48 (.long 1)) rfl rfl ?_
            refine hs (f := dm_lc 49) (st' := [.int (lg_cmp ((x3 >>> (x12.toInt64 &&& 63)) &&& (1 : Int64)) 1)]) rfl rfl ?_
            refine h_if_ne (n := 52) (tt := 56) rfl (fun h38 => ?_) (fun h38 => ?_)
            · skip
              exact j56_5 x12 x13 x14 x15 bx15 hF
            · skip
              refine hs (f := dm_push 53 (.int 1)) rfl rfl ?_
              refine hs (f := dm_goto 57) rfl rfl ?_
              exact j57_4 x12 x13 x14 x15 bx15 1 isB_1 hF
  have j17_3 : ∀ (nn : Nat) (x39 : Int32) (x40 : Int32) (x41 : Int32), mN x4 x39 = nn → hG 2 cd_87 17 [(7, .int x39), (6, .int x40), (5, .int x41), (0, .ref a1), (1, .int x2), (2, .long x3), (4, .int x4)] [] M (qI M) := by
    intro nn
    induction nn using Nat.strongRecOn with
    | ind nn IHn =>
      intro x39 x40 x41 hn
      have j79_4 : ∀ (x42 : Int32) (bx42 : isB x42) (x43 : Int32) (x44 : Int32) (x45 : Int32) (x46 : Int32), mN x4 (x43 + (-1)) < nn → hG 2 cd_87 79 [(8, .int x42), (7, .int x43), (6, .int x44), (5, .int x45), (0, .ref a1), (1, .int x2), (2, .long x3), (4, .int x4)] [.int x46] M (qI M) := by
        intro x42 bx42 x43 x44 x45 x46 hF
        refine hs (f := dm_ist 81 5) (lv' := [(5, .int x46), (8, .int x42), (7, .int x43), (6, .int x44), (0, .ref a1), (1, .int x2), (2, .long x3), (4, .int x4)]) rfl rfl ?_
        refine hs (f := dm_ild 83 6) rfl rfl ?_
        refine hs (f := dm_ald 84 0) rfl rfl ?_
        refine hs (f := dm_ild 86 5) rfl rfl ?_
        refine v_inv rfl rfl rfl (Nat.le_of_ble_eq_true rfl) hM ha1 (w_I (by decide) (sp_75  hM ha1 x46 ) (fun x47 => ?_))
        refine hs (f := dm_ii 90 (fun x y => x + y)) (st' := [.int (x44 + x47)]) rfl rfl ?_
        refine hs (f := dm_ist 92 6) (lv' := [(6, .int (x44 + x47)), (5, .int x46), (8, .int x42), (7, .int x43), (0, .ref a1), (1, .int x2), (2, .long x3), (4, .int x4)]) rfl rfl ?_
        refine hs (f := dm_iinc 95 7 (-1)) (lv' := [(7, .int (x43 + (-1))), (6, .int (x44 + x47)), (5, .int x46), (8, .int x42), (0, .ref a1), (1, .int x2), (2, .long x3), (4, .int x4)]) rfl rfl ?_
        refine hs (f := dm_goto 17) rfl rfl ?_
        exact j17_2 _ (x43 + (-1)) (x44 + x47) x46 x42 bx42 rfl
      have j57_5 : ∀ (x48 : Int32) (x49 : Int32) (x50 : Int32) (x51 : Int32) (bx51 : isB x51), mN x4 (x48 + (-1)) < nn → hG 2 cd_87 57 [(7, .int x48), (6, .int x49), (5, .int x50), (0, .ref a1), (1, .int x2), (2, .long x3), (4, .int x4)] [.int x51] M (qI M) := by
        intro x48 x49 x50 x51 bx51 hF
        refine hs (f := dm_ist 59 8) (lv' := [(8, .int x51), (7, .int x48), (6, .int x49), (5, .int x50), (0, .ref a1), (1, .int x2), (2, .long x3), (4, .int x4)]) rfl rfl ?_
        refine hs (f := dm_ild 61 8) rfl rfl ?_
        refine h_if_eq (n := 64) (tt := 73) rfl (fun h52 => ?_) (fun h52 => ?_)
        · skip
          refine hs (f := dm_ald 74 0) rfl rfl ?_
          refine hs (f := dm_ild 76 5) rfl rfl ?_
          refine v_inv rfl rfl rfl (Nat.le_of_ble_eq_true rfl) hM ha1 (w_I (by decide) (sp_79  hM ha1 x50 ) (fun x53 => ?_))
          exact j79_4 x51 bx51 x48 x49 x50 x53 hF
        · skip
          refine hs (f := dm_ald 65 0) rfl rfl ?_
          refine hs (f := dm_ild 67 5) rfl rfl ?_
          refine v_inv rfl rfl rfl (Nat.le_of_ble_eq_true rfl) hM ha1 (w_I (by decide) (sp_80  hM ha1 x50 ) (fun x54 => ?_))
          refine hs (f := dm_goto 79) rfl rfl ?_
          exact j79_4 x51 bx51 x48 x49 x50 x54 hF
      have j56_6 : ∀ (x55 : Int32) (x56 : Int32) (x57 : Int32), mN x4 (x55 + (-1)) < nn → hG 2 cd_87 56 [(7, .int x55), (6, .int x56), (5, .int x57), (0, .ref a1), (1, .int x2), (2, .long x3), (4, .int x4)] [] M (qI M) := by
        intro x55 x56 x57 hF
        refine hs (f := dm_push 57 (.int 0)) rfl rfl ?_
        exact j57_5 x55 x56 x57 0 isB_0 hF
      refine hs (f := dm_ild 19 7) rfl rfl ?_
      refine hs (f := dm_ild 21 4) rfl rfl ?_
      refine hs (f := dm_push 23 (.int 60)) rfl rfl ?_
      refine hs (f := dm_ii 24 (fun x y => x - y)) (st' := [.int (x4 - (60 : Int32)), .int x39]) rfl rfl ?_
      refine h_ic_lt (n := 27) (tt := 98) rfl (fun h58 => ?_) (fun h58 => ?_)
      · skip
        exact j98_0 x39 x40 x41
      · skip
        have hF : mN x4 (x39 + (-1)) < nn := hn ▸ mN_lt hN h58
        refine hs (f := dm_ald 28 0) rfl rfl ?_
        refine hs (f := dm_ild 30 5) rfl rfl ?_
        refine v_inv rfl rfl rfl (Nat.le_of_ble_eq_true rfl) hM ha1 (w_B (by decide) (sp_77  hM ha1 x41 ) (fun x59 bx59 => ?_))
        refine h_if_ne (n := 36) (tt := 98) rfl (fun h60 => ?_) (fun h60 => ?_)
        · skip
          exact j98_0 x39 x40 x41
        · skip
          refine hs (f := dm_ild 38 7) rfl rfl ?_
          refine h_if_lt (n := 41) (tt := 56) rfl (fun h61 => ?_) (fun h61 => ?_)
          · skip
            exact j56_6 x39 x40 x41 hF
          · skip
            refine hs (f := dm_lld 42 2) rfl rfl ?_
            refine hs (f := dm_ild 44 7) rfl rfl ?_
            refine hs (f := dm_li 45 (fun x y => x >>> (y.toInt64 &&& 63))) (st' := [.long (x3 >>> (x39.toInt64 &&& 63))]) rfl rfl ?_
            refine hs (f := dm_push 46 (.long 1)) rfl rfl ?_
            refine hs (f := dm_ll 47 (fun x y => x &&& y)) (st' := [.long ((x3 >>> (x39.toInt64 &&& 63)) &&& (1 : Int64))]) rfl rfl ?_
            refine hs (f := dm_push 48 (.long 1)) rfl rfl ?_
            refine hs (f := dm_lc 49) (st' := [.int (lg_cmp ((x3 >>> (x39.toInt64 &&& 63)) &&& (1 : Int64)) 1)]) rfl rfl ?_
            refine h_if_ne (n := 52) (tt := 56) rfl (fun h62 => ?_) (fun h62 => ?_)
            · skip
              exact j56_6 x39 x40 x41 hF
            · skip
              refine hs (f := dm_push 53 (.int 1)) rfl rfl ?_
              refine hs (f := dm_goto 57) rfl rfl ?_
              exact j57_5 x39 x40 x41 1 isB_1 hF
  refine hx (t := cd_87) rfl (Nat.le_of_ble_eq_true rfl) (lv := [(0, .ref a1), (1, .int x2), (2, .long x3), (4, .int x4)]) rfl ?_
  refine hs (f := dm_ild 1 1) rfl rfl ?_
  refine hs (f := dm_ist 3 5) (lv' := [(5, .int x2), (0, .ref a1), (1, .int x2), (2, .long x3), (4, .int x4)]) rfl rfl ?_
  refine hs (f := dm_ald 4 0) rfl rfl ?_
  refine hs (f := dm_ild 6 5) rfl rfl ?_
  refine v_inv rfl rfl rfl (Nat.le_of_ble_eq_true rfl) hM ha1 (w_I (by decide) (sp_75  hM ha1 x2 ) (fun x63 => ?_))
  refine hs (f := dm_ist 11 6) (lv' := [(6, .int x63), (5, .int x2), (0, .ref a1), (1, .int x2), (2, .long x3), (4, .int x4)]) rfl rfl ?_
  refine hs (f := dm_ild 13 4) rfl rfl ?_
  refine hs (f := dm_push 14 (.int 1)) rfl rfl ?_
  refine hs (f := dm_ii 15 (fun x y => x - y)) (st' := [.int (x4 - (1 : Int32))]) rfl rfl ?_
  refine hs (f := dm_ist 17 7) (lv' := [(7, .int (x4 - (1 : Int32))), (6, .int x63), (5, .int x2), (0, .ref a1), (1, .int x2), (2, .long x3), (4, .int x4)]) rfl rfl ?_
  exact j17_3 _ (x4 - (1 : Int32)) x63 x2 rfl
theorem sp_131 {p : iv_P} {M : dm_Mem} (hM : Iv p M) {a1 : Nat} (ha1 : iv_ty a1 = some 7) (x2 : Int32) (x3 : Int32) (x4 : Int64) (x5 : Int32) (hN : okN x5) : hT 4 131 [.ref a1, .int x2, .int x3, .long x4, .int x5] M (qB M) := by
  have j50_0 : ∀ (x6 : Int32) (bx6 : isB x6), hG 3 cd_131 50 [(0, .ref a1), (1, .int x2), (2, .int x3), (3, .long x4), (5, .int x5)] [.int x6] M (qB M) := by
    intro x6 bx6
    exact h_retB rfl bx6 ⟨_, bx6, rfl, rfl⟩
  refine hx (t := cd_131) rfl (Nat.le_of_ble_eq_true rfl) (lv := [(0, .ref a1), (1, .int x2), (2, .int x3), (3, .long x4), (5, .int x5)]) rfl ?_
  refine hs (f := dm_ald 1 0) rfl rfl ?_
  refine v_geto rfl hM ha1 rfl (fun a7 ha7 => ?_)
  refine v_geto rfl hM ha7 rfl (fun a8 ha8 => ?_)
  refine hs (f := dm_ald 8 0) rfl rfl ?_
  refine v_geto rfl hM ha1 rfl (fun a9 ha9 => ?_)
  refine hs (f := dm_ild 12 1) rfl rfl ?_
  refine v_inv rfl rfl rfl (Nat.le_of_ble_eq_true rfl) hM ha9 (w_I (by decide) (sp_19  hM ha9 x2 ) (fun x10 => ?_))
  refine hs (f := dm_lld 16 3) rfl rfl ?_
  refine hs (f := dm_ild 18 5) rfl rfl ?_
  refine v_inv rfl rfl rfl (Nat.le_of_ble_eq_true rfl) hM ha8 (w_I (by decide) (sp_87  hM ha8 x10 x4 x5 hN) (fun x11 => ?_))
  refine hs (f := dm_ald 22 0) rfl rfl ?_
  refine v_geto rfl hM ha1 rfl (fun a12 ha12 => ?_)
  refine v_geto rfl hM ha12 rfl (fun a13 ha13 => ?_)
  refine hs (f := dm_ald 29 0) rfl rfl ?_
  refine v_geto rfl hM ha1 rfl (fun a14 ha14 => ?_)
  refine hs (f := dm_ild 33 2) rfl rfl ?_
  refine v_inv rfl rfl rfl (Nat.le_of_ble_eq_true rfl) hM ha14 (w_I (by decide) (sp_19  hM ha14 x3 ) (fun x15 => ?_))
  refine hs (f := dm_lld 37 3) rfl rfl ?_
  refine hs (f := dm_ild 39 5) rfl rfl ?_
  refine v_inv rfl rfl rfl (Nat.le_of_ble_eq_true rfl) hM ha13 (w_I (by decide) (sp_87  hM ha13 x15 x4 x5 hN) (fun x16 => ?_))
  refine h_ic_le (n := 45) (tt := 49) rfl (fun h17 => ?_) (fun h17 => ?_)
  · skip
    refine hs (f := dm_push 50 (.int 0)) rfl rfl ?_
    exact j50_0 0 isB_0
  · skip
    refine hs (f := dm_push 46 (.int 1)) rfl rfl ?_
    refine hs (f := dm_goto 50) rfl rfl ?_
    exact j50_0 1 isB_1
theorem sp_114 {p : iv_P} {M : dm_Mem} (hM : Iv p M) {a : Nat} (ha : iv_ty a = some 7) (x y : Int32) (u : Int64) (n : Int32) (w : Int64) (m : Int32) : hT 62 114 [.ref a, .int x, .int y, .long u, .int n, .long w, .int m] M (qI M) := by
  have j41 : hG 61 cd_114 41 [(0, .ref a), (1, .int x), (2, .int y), (3, .long u), (5, .int n), (6, .long w), (8, .int m)] [] M (qI M) :=
    hs (f := dm_push 42 (.int (-1))) rfl rfl (hr (f := dm_ret .int) rfl rfl ⟨_, rfl, rfl⟩)
  refine hx (t := cd_114) rfl (Nat.le_of_ble_eq_true rfl) (lv := [(0, .ref a), (1, .int x), (2, .int y), (3, .long u), (5, .int n), (6, .long w), (8, .int m)]) rfl ?_
  refine hs (f := dm_ald 1 0) rfl rfl ?_
  refine v_geto rfl hM ha rfl (fun b hb => ?_)
  refine hs (f := dm_ild 5 1) rfl rfl ?_
  refine v_inv rfl rfl rfl (Nat.le_of_ble_eq_true rfl) hM hb (w_B (by decide) (sp_17 hM hb x) (fun x1 b1 => ?_))
  refine h_if_eq (n := 11) (tt := 41) rfl (fun _ => j41) (fun _ => ?_)
  refine hs (f := dm_ald 12 0) rfl rfl ?_
  refine v_geto rfl hM ha rfl (fun b2 hb2 => ?_)
  refine hs (f := dm_ild 16 2) rfl rfl ?_
  refine v_inv rfl rfl rfl (Nat.le_of_ble_eq_true rfl) hM hb2 (w_B (by decide) (sp_17 hM hb2 y) (fun x2 b2 => ?_))
  refine h_if_eq (n := 22) (tt := 41) rfl (fun _ => j41) (fun _ => ?_)
  refine hs (f := dm_lld 23 3) rfl rfl ?_
  refine hs (f := dm_ild 25 5) rfl rfl ?_
  refine hc (f := dm_ins 28 133 2) (as := [.long u, .int n]) rfl rfl (hT_mono (by decide) (sp_133f u n) (fun r1 M1 q => ?_))
  obtain ⟨x3, -, rfl, rfl, hn⟩ := q
  refine h_if_eq (n := 31) (tt := 41) rfl (fun _ => j41) (fun h3 => ?_)
  have hn := hn h3
  refine hs (f := dm_lld 33 6) rfl rfl ?_
  refine hs (f := dm_ild 35 8) rfl rfl ?_
  refine hc (f := dm_ins 38 133 2) (as := [.long w, .int m]) rfl rfl (hT_mono (by decide) (sp_133f w m) (fun r1 M1 q => ?_))
  obtain ⟨x4, -, rfl, rfl, hm⟩ := q
  refine h_if_ne (n := 41) (tt := 43) rfl (fun h4 => ?_) (fun _ => j41)
  have hm := hm h4
  refine hs (f := dm_ald 44 0) rfl rfl ?_
  refine hs (f := dm_ild 45 1) rfl rfl ?_
  refine hs (f := dm_ild 46 2) rfl rfl ?_
  refine hs (f := dm_lld 47 3) rfl rfl ?_
  refine hs (f := dm_ild 49 5) rfl rfl ?_
  refine v_inv rfl rfl rfl (Nat.le_of_ble_eq_true rfl) hM ha (w_B (by decide) (sp_131 hM ha x y u n hn) (fun x5 b5 => ?_))
  refine h_if_ne (n := 55) (tt := 57) rfl (fun _ => ?_) (fun _ => ?_)
  · refine hs (f := dm_ald 58 0) rfl rfl ?_
    refine hs (f := dm_ild 59 2) rfl rfl ?_
    refine hs (f := dm_ild 60 1) rfl rfl ?_
    refine hs (f := dm_lld 62 6) rfl rfl ?_
    refine hs (f := dm_ild 64 8) rfl rfl ?_
    refine v_inv rfl rfl rfl (Nat.le_of_ble_eq_true rfl) hM ha (w_B (by decide) (sp_131 hM ha y x w m hm) (fun x6 b6 => ?_))
    refine h_if_eq (n := 70) (tt := 74) rfl (fun _ => ?_) (fun _ => ?_)
    · refine hs (f := dm_push 75 (.int 2)) rfl rfl ?_
      exact hr (f := dm_ret .int) rfl rfl ⟨_, rfl, rfl⟩
    · refine hs (f := dm_push 71 (.int 0)) rfl rfl ?_
      refine hs (f := dm_goto 75) rfl rfl ?_
      exact hr (f := dm_ret .int) rfl rfl ⟨_, rfl, rfl⟩
  · refine hs (f := dm_push 56 (.int 1)) rfl rfl ?_
    exact hr (f := dm_ret .int) rfl rfl ⟨_, rfl, rfl⟩
/-- the row of bits' size while it is read -/
def pn (p : iv_P) (z : Int32) : iv_P := (p.1, p.2.1, some z, p.2.2.2)
theorem iv_only5 : ∀ ci, ci < 8 → ∀ k, k < 11 → (iv_ft ci)[k]? = some 5 → ci = 5 ∧ k = 1 := by decide
theorem iv_only6 : ∀ ci, ci < 8 → ∀ k, k < 11 → (iv_ft ci)[k]? = some 6 → ci = 1 ∧ k = 1 := by decide
theorem iv_ci_lt {a ci : Nat} (h : iv_ty a = some ci) : ci < 8 := by
  have h1 := iv_all (P := fun _ ci => decide (ci < 8)) (by decide) h
  exact of_decide_eq_true h1
theorem iv_ft_len : ∀ ci, ci < 8 → (iv_ft ci).length ≤ 11 := by decide
theorem pn_on {p : iv_P} (hp : p.2.2.1 = none) {M : dm_Mem} (hM : Iv p M) (h0 : dm_fld M 67 5 1 = some (.int 0)) : ∃ z, Iv (pn p z) M := by
  obtain ⟨Ls, hW⟩ := hM
  obtain ⟨v, h1, z, h2, -⟩ := iv_fld hW iv_61 (k := 1) (c := 6) rfl
  refine ⟨z, Ls, fun a ci ha => ?_, hW.2.1, hW.2.2.1, hW.2.2.2.1, hW.2.2.2.2⟩
  obtain ⟨fs, e1, e2, e3⟩ := hW.1 a ci ha
  refine ⟨fs, e1, e2, fun k c hk => ?_⟩
  obtain ⟨w, e4, e5⟩ := e3 k c hk
  refine ⟨w, e4, ?_⟩
  have hci := iv_ci_lt ha
  have hk2 : k < 11 := Nat.lt_of_lt_of_le (List.getElem?_eq_some_iff.mp hk).1 (iv_ft_len ci hci)
  have hfl : dm_fld M a ci k = some w := by
    unfold dm_fld
    rw [e1]
    simp only [if_true]
    exact e4
  match c, hk, e5 with
  | 0, hk, e5 => exact e5
  | 1, hk, e5 => exact e5
  | 2, hk, e5 => exact e5
  | 3, hk, e5 => exact e5
  | 4, hk, e5 => exact e5
  | 5, hk, e5 =>
    obtain ⟨q1, q2⟩ := iv_only5 ci hci k hk2 hk
    subst q1
    subst q2
    have ea := iv_rd ha
    subst ea
    rw [h0] at hfl
    cases hfl
    exact ⟨0, rfl, fun _ _ _ => by decide⟩
  | 6, hk, e5 =>
    obtain ⟨x, q1, -⟩ := e5
    refine ⟨x, q1, fun z' q2 q3 => ?_⟩
    subst q2
    obtain ⟨q4, q5⟩ := iv_only6 ci hci k hk2 hk
    subst q4
    subst q5
    rw [h1] at hfl
    have q6 : some z = some z' := q3
    cases q6
    rw [h2, q1] at hfl
    cases hfl
    rfl
  | 7, hk, e5 => exact e5
  | n + 8, hk, e5 => exact e5
theorem pn_off {p : iv_P} (hp : p.2.2.1 = none) {z : Int32} {M : dm_Mem} (hM : Iv (pn p z) M) : Iv p M := by
  obtain ⟨Ls, hW⟩ := hM
  refine ⟨Ls, fun a ci ha => ?_, hW.2.1, hW.2.2.1, hW.2.2.2.1, hW.2.2.2.2⟩
  obtain ⟨fs, e1, e2, e3⟩ := hW.1 a ci ha
  refine ⟨fs, e1, e2, fun k c hk => ?_⟩
  obtain ⟨w, e4, e5⟩ := e3 k c hk
  refine ⟨w, e4, ?_⟩
  match c, e5 with
  | 0, e5 => exact e5
  | 1, e5 => exact e5
  | 2, e5 => exact e5
  | 3, e5 => exact e5
  | 4, e5 => exact e5
  | 5, e5 =>
    obtain ⟨x, q1, -⟩ := e5
    exact ⟨x, q1, fun z' q => by rw [hp] at q; cases q⟩
  | 6, e5 =>
    obtain ⟨x, q1, -⟩ := e5
    exact ⟨x, q1, fun z' _ q => by rw [hp] at q; cases q⟩
  | 7, e5 => exact e5
  | n + 8, e5 => exact e5
theorem sp_56 {p : iv_P} (hp : p.2.2.1 = none) {M : dm_Mem} (hM : Iv p M) {a b : Nat} (ha : iv_ty a = some 5) (hb : iv_ty b = some 6) : hT 67 56 [.ref a, .ref b] M (pI p) := by
  have ea := iv_rd ha
  subst ea
  have j49 : ∀ (M : dm_Mem) (x : Int32), Iv p M → hG 66 cd_56 49 [(2, .int x), (0, .ref 67), (1, .ref b)] [] M (pI p) := by
    intro M x hM
    refine hs (f := dm_ild 50 2) rfl rfl ?_
    exact hr (f := dm_ret .int) rfl rfl ⟨_, rfl, hM⟩
  refine hx (t := cd_56) rfl (Nat.le_of_ble_eq_true rfl) (lv := [(0, .ref 67), (1, .ref b)]) rfl ?_
  refine hs (f := dm_ald 1 0) rfl rfl ?_
  refine hs (f := dm_push 2 (.int 0)) rfl rfl ?_
  refine v_put rfl hM ha (c := 5) rfl (by decide) (Or.inl rfl) (fun _ => ⟨0, rfl, fun _ _ _ => by decide⟩) rfl (fun M1 hM1 f1 _ => ?_)
  refine hs (f := dm_ald 6 0) rfl rfl ?_
  refine hs (f := dm_push 7 (.int (-1))) rfl rfl ?_
  refine v_put rfl hM1 ha (c := 0) rfl (by decide) (Or.inl rfl) (fun _ => ⟨-1, rfl⟩) rfl (fun M2 hM2 _ f2 => ?_)
  obtain ⟨z, hZ⟩ := pn_on hp hM2 (by rw [f2 67 5 1 (by decide)]; exact f1)
  refine hs (f := dm_ald 11 1) rfl rfl ?_
  refine v_inv rfl rfl rfl (Nat.le_of_ble_eq_true rfl) hZ hb (w_I (by decide) (sp_73 hZ hb) (fun x => ?_))
  refine hs (f := dm_ist 15 2) (lv' := [(2, .int x), (0, .ref 67), (1, .ref b)]) rfl rfl ?_
  refine hs (f := dm_ald 16 0) rfl rfl ?_
  refine hs (f := dm_push 17 (.int 0)) rfl rfl ?_
  refine hc (f := dm_ins 20 62 2) (as := [.ref 67, .int 0]) rfl rfl (u_I (by decide) (rk_62 (z := z) rfl 61 M2 hZ 67 ha 0 mS_0) (fun y M3 hM3 => ?_))
  refine hs (f := dm_pop 21) rfl rfl ?_
  refine hs (f := dm_ald 22 0) rfl rfl ?_
  refine hs (f := dm_ald 23 1) rfl rfl ?_
  refine hs (f := dm_push 24 (.int 0)) rfl rfl ?_
  refine hc (f := dm_ins 27 63 3) (as := [.ref 67, .ref b, .int 0]) rfl rfl (u_V (by decide) (rk_63 (z := z) rfl 61 M3 hM3 67 ha b hb 0 mS_0) (fun M4 hM4 => ?_))
  refine hs (f := dm_ald 28 0) rfl rfl ?_
  refine v_getn rfl hM4 ha rfl (fun n1 _ _ => ?_)
  refine hs (f := dm_ald 32 0) rfl rfl ?_
  refine v_getr rfl hM4 ha rfl ?_
  refine v_inv rfl rfl rfl (Nat.le_of_ble_eq_true rfl) hM4 iv_61 (w_I (by decide) (sp_6 hM4 iv_61) (fun s => ?_))
  refine h_ic_ge (n := 41) (tt := 49) rfl (fun _ => j49 _ _ (pn_off hp hM4)) (fun _ => ?_)
  refine hs (f := dm_ald 42 0) rfl rfl ?_
  refine hs (f := dm_ald 43 0) rfl rfl ?_
  refine v_getn rfl hM4 ha rfl (fun n2 _ _ => ?_)
  exact v_inv rfl rfl rfl (Nat.le_of_ble_eq_true rfl) hM4 ha (u_V (by decide) (sp_58 hM4 ha n2) (fun M5 hM5 => j49 _ _ (pn_off hp hM5)))
/-- the image: its flag stands from here on -/
theorem sp_121 {p : iv_P} {M : dm_Mem} (hM : Iv p M) {a : Nat} (ha : iv_ty a = some 7) : hT 6 121 [.ref a] M (fun r M' => r = some (.int 1) ∧ Iv (p.1, 1, p.2.2) M') := by
  refine hx (t := cd_121) rfl (Nat.le_of_ble_eq_true rfl) (lv := [(0, .ref a)]) rfl ?_
  refine hs (f := dm_ald 1 0) rfl rfl ?_
  refine v_geto rfl hM ha rfl (fun b1 hb1 => ?_)
  refine hs (f := dm_ald 5 0) rfl rfl ?_
  refine v_geto rfl hM ha rfl (fun b2 hb2 => ?_)
  refine v_inv rfl rfl rfl (Nat.le_of_ble_eq_true rfl) hM hb1 (u_V (by decide) (sp_33 hM hb1 hb2) (fun M1 hM1 => ?_))
  refine hs (f := dm_ald 12 0) rfl rfl ?_
  refine hs (f := dm_push 13 (.int 1)) rfl rfl ?_
  refine v_put (fl' := 1) rfl hM1 ha (c := 2) rfl (by decide) (Or.inr ⟨rfl, rfl⟩) (fun _ => rfl) rfl (fun M2 hM2 _ _ => ?_)
  refine hs (f := dm_push 17 (.int 1)) rfl rfl ?_
  exact h_retB rfl isB_1 ⟨rfl, hM2⟩
theorem sp_122 {p : iv_P} (hfl : isB p.2.1) {M : dm_Mem} (hM : Iv p M) {a : Nat} (ha : iv_ty a = some 7) : hT 6 122 [.ref a] M (fun r M' => r = some (.int p.2.1) ∧ Iv p M') := by
  refine hx (t := cd_122) rfl (Nat.le_of_ble_eq_true rfl) (lv := [(0, .ref a)]) rfl ?_
  refine hs (f := dm_ald 1 0) rfl rfl ?_
  refine v_getfl rfl hM ha rfl ?_
  refine h_if_ne (n := 7) (tt := 9) rfl (fun h => ?_) (fun h => ?_)
  · have h1 : p.2.1 = 1 := by
      rcases hfl with q | q
      · exact absurd q h
      · exact q
    refine hs (f := dm_ald 10 0) rfl rfl ?_
    refine v_geto rfl hM ha rfl (fun b1 hb1 => ?_)
    refine hs (f := dm_ald 14 0) rfl rfl ?_
    refine v_geto rfl hM ha rfl (fun b2 hb2 => ?_)
    refine v_inv rfl rfl rfl (Nat.le_of_ble_eq_true rfl) hM hb1 (u_V (by decide) (sp_33 hM hb1 hb2) (fun M1 hM1 => ?_))
    refine hs (f := dm_ald 21 0) rfl rfl ?_
    refine v_geto rfl hM1 ha rfl (fun b3 hb3 => ?_)
    refine v_inv rfl rfl rfl (Nat.le_of_ble_eq_true rfl) hM1 hb3 (u_V (by decide) (sp_1 hM1 hb3) (fun M2 hM2 => ?_))
    refine hs (f := dm_push 28 (.int 1)) rfl rfl ?_
    exact h_retB rfl isB_1 ⟨by rw [h1], hM2⟩
  · have h0 : p.2.1 = 0 := Classical.byContradiction h
    refine hs (f := dm_push 8 (.int 0)) rfl rfl ?_
    exact h_retB rfl isB_0 ⟨by rw [h0], hM⟩
theorem sp_111 {p : iv_P} {M : dm_Mem} (hM : Iv p M) {a : Nat} (ha : iv_ty a = some 7) (x y w : Int32) : hT 67 111 [.ref a, .int x, .int y, .int w] M (pB p) := by
  have j112 : ∀ (M : dm_Mem) (l : Int64) (u v : Int32), Iv p M → hG 66 cd_111 112 [(6, .long l), (5, .int u), (4, .int v), (0, .ref a), (1, .int x), (2, .int y), (3, .int w)] [] M (pB p) := by
    intro M l u v hM
    refine hs (f := dm_ald 113 0) rfl rfl ?_
    refine hs (f := dm_lld 115 6) rfl rfl ?_
    refine hs (f := dm_push 116 (.long 1)) rfl rfl ?_
    refine hs (f := dm_ald 117 0) rfl rfl ?_
    refine v_geti rfl hM ha rfl (fun d _ => ?_)
    refine hs (f := dm_li 121 (fun x y => x <<< (y.toInt64 &&& 63))) rfl rfl ?_
    refine hs (f := dm_ll 122 (fun x y => x - y)) rfl rfl ?_
    refine v_putj rfl hM ha rfl (fun M2 hM2 => ?_)
    refine hs (f := dm_push 126 (.int 1)) rfl rfl ?_
    exact h_retB rfl isB_1 ⟨1, isB_1, rfl, hM2⟩
  have j78 : ∀ (n : Nat) (M : dm_Mem) (l : Int64) (u v d : Int32), Iv p M → dm_fld M a 7 10 = some (.int d) → mR d = n → hG 66 cd_111 78 [(6, .long l), (5, .int u), (4, .int v), (0, .ref a), (1, .int x), (2, .int y), (3, .int w)] [] M (pB p) := by
    intro n
    induction n using Nat.strongRecOn with
    | ind n IH =>
      intro M l u v d hM hd hn
      refine hs (f := dm_ald 79 0) rfl rfl ?_
      refine hs (f := dm_getf 82 7 10) rfl (dm_getf_ok hd) ?_
      refine hs (f := dm_push 84 (.int 60)) rfl rfl ?_
      refine h_ic_ge (n := 87) (tt := 112) rfl (fun _ => j112 M l u v hM) (fun h1 => ?_)
      refine hs (f := dm_lld 89 6) rfl rfl ?_
      refine hs (f := dm_ald 90 0) rfl rfl ?_
      refine hs (f := dm_getf 93 7 10) rfl (dm_getf_ok hd) ?_
      refine hs (f := dm_li 94 (fun x y => x >>> (y.toInt64 &&& 63))) rfl rfl ?_
      refine hs (f := dm_push 95 (.long 1)) rfl rfl ?_
      refine hs (f := dm_lc 96) rfl rfl ?_
      refine h_if_le (n := 99) (tt := 112) rfl (fun _ => j112 M l u v hM) (fun h2 => ?_)
      refine hs (f := dm_ald 100 0) rfl rfl ?_
      refine hs (f := dm_dup 101) rfl rfl ?_
      refine hs (f := dm_getf 104 7 10) rfl (dm_getf_ok hd) ?_
      refine hs (f := dm_push 105 (.int 1)) rfl rfl ?_
      refine hs (f := dm_ii 106 (fun x y => x + y)) (st' := [.int (d + 1), .ref a]) rfl rfl ?_
      refine v_put rfl hM ha (c := 0) rfl (by decide) (Or.inl rfl) (fun _ => ⟨d + 1, rfl⟩) rfl (fun M2 hM2 f2 _ => ?_)
      refine hs (f := dm_goto 78) rfl rfl ?_
      exact IH _ (hn ▸ mR_lt h1) M2 l u v (d + 1) hM2 f2 rfl
  have j19 : hG 66 cd_111 19 [(0, .ref a), (1, .int x), (2, .int y), (3, .int w)] [] M (pB p) :=
    hs (f := dm_push 20 (.int 0)) rfl rfl (h_retB rfl isB_0 ⟨0, isB_0, rfl, hM⟩)
  have j52 : ∀ (v q : Int32) (b : Nat), iv_ty b = some 2 → hG 66 cd_111 52 [(4, .int v), (0, .ref a), (1, .int x), (2, .int y), (3, .int w)] [.int q, .ref b] M (pB p) := by
    intro v q b hb
    refine v_inv rfl rfl rfl (Nat.le_of_ble_eq_true rfl) hM hb (w_I (by decide) (sp_19 hM hb q) (fun u => ?_))
    refine hs (f := dm_ist 57 5) (lv' := [(5, .int u), (4, .int v), (0, .ref a), (1, .int x), (2, .int y), (3, .int w)]) rfl rfl ?_
    refine hs (f := dm_ald 58 0) rfl rfl ?_
    refine v_geto rfl hM ha rfl (fun b1 hb1 => ?_)
    refine v_geto rfl hM hb1 rfl (fun b2 hb2 => ?_)
    refine hs (f := dm_ild 66 4) rfl rfl ?_
    refine hs (f := dm_ild 68 5) rfl rfl ?_
    refine hc (f := dm_ins 71 67 3) (as := [.ref b2, .int v, .int u]) rfl rfl (w_J (by decide) (sp_67 hM hb2 v u) (fun l => ?_))
    refine hs (f := dm_lst 73 6) (lv' := [(6, .long l), (5, .int u), (4, .int v), (0, .ref a), (1, .int x), (2, .int y), (3, .int w)]) rfl rfl ?_
    refine hs (f := dm_ald 74 0) rfl rfl ?_
    refine hs (f := dm_push 75 (.int 0)) rfl rfl ?_
    refine v_put rfl hM ha (c := 0) rfl (by decide) (Or.inl rfl) (fun _ => ⟨0, rfl⟩) rfl (fun M2 hM2 f2 _ => ?_)
    exact j78 _ M2 l u v 0 hM2 f2 rfl
  have j34 : ∀ (q : Int32) (b : Nat), iv_ty b = some 2 → hG 66 cd_111 34 [(0, .ref a), (1, .int x), (2, .int y), (3, .int w)] [.int q, .ref b] M (pB p) := by
    intro q b hb
    refine v_inv rfl rfl rfl (Nat.le_of_ble_eq_true rfl) hM hb (w_I (by decide) (sp_19 hM hb q) (fun v => ?_))
    refine hs (f := dm_ist 39 4) (lv' := [(4, .int v), (0, .ref a), (1, .int x), (2, .int y), (3, .int w)]) rfl rfl ?_
    refine hs (f := dm_ald 40 0) rfl rfl ?_
    refine v_geto rfl hM ha rfl (fun b1 hb1 => ?_)
    refine hs (f := dm_ild 44 3) rfl rfl ?_
    refine h_if_ne (n := 47) (tt := 51) rfl (fun _ => ?_) (fun _ => ?_)
    · refine hs (f := dm_ild 52 1) rfl rfl ?_
      exact j52 v x b1 hb1
    · refine hs (f := dm_ild 48 2) rfl rfl ?_
      refine hs (f := dm_goto 52) rfl rfl ?_
      exact j52 v y b1 hb1
  refine hx (t := cd_111) rfl (Nat.le_of_ble_eq_true rfl) (lv := [(0, .ref a), (1, .int x), (2, .int y), (3, .int w)]) rfl ?_
  refine hs (f := dm_ald 1 0) rfl rfl ?_
  refine hs (f := dm_ild 2 1) rfl rfl ?_
  refine hs (f := dm_ild 3 2) rfl rfl ?_
  refine v_inv rfl rfl rfl (Nat.le_of_ble_eq_true rfl) hM ha (w_I (by decide) (sp_105 hM ha x y) (fun q => ?_))
  refine hs (f := dm_push 7 (.int 3)) rfl rfl ?_
  refine h_ic_ne (n := 10) (tt := 19) rfl (fun _ => j19) (fun _ => ?_)
  refine hs (f := dm_ild 11 3) rfl rfl ?_
  refine h_if_lt (n := 14) (tt := 19) rfl (fun _ => j19) (fun _ => ?_)
  refine hs (f := dm_ild 15 3) rfl rfl ?_
  refine hs (f := dm_push 16 (.int 1)) rfl rfl ?_
  refine h_ic_le (n := 19) (tt := 21) rfl (fun _ => ?_) (fun _ => j19)
  refine hs (f := dm_ald 22 0) rfl rfl ?_
  refine v_geto rfl hM ha rfl (fun b1 hb1 => ?_)
  refine hs (f := dm_ild 26 3) rfl rfl ?_
  refine h_if_ne (n := 29) (tt := 33) rfl (fun _ => ?_) (fun _ => ?_)
  · refine hs (f := dm_ild 34 2) rfl rfl ?_
    exact j34 y b1 hb1
  · refine hs (f := dm_ild 30 1) rfl rfl ?_
    refine hs (f := dm_goto 34) rfl rfl ?_
    exact j34 x b1 hb1
theorem sp_119 {p : iv_P} (hp : p.2.2.1 = none) {M : dm_Mem} (hM : Iv p M) {a1 : Nat} (ha1 : iv_ty a1 = some 7) : hT 68 119 [.ref a1] M (pI p) := by
  have j72_0 : ∀ (M : dm_Mem) (hM : Iv p M) (x2 : Int32) (x3 : Int32) (a4 : Nat) (ha4 : iv_ty a4 = some 7) (x5 : Int32), hG 67 cd_119 72 [(2, .int x2), (1, .int x3), (0, .ref a4)] [.int x5] M (pI p) := by
    intro M hM x2 x3 a4 ha4 x5
    exact hr (f := dm_ret .int) rfl rfl ⟨_, rfl, hM⟩
  have j56_1 : ∀ (M : dm_Mem) (hM : Iv p M) (x6 : Int32) (x7 : Int32) (a8 : Nat) (ha8 : iv_ty a8 = some 7), hG 67 cd_119 56 [(2, .int x6), (1, .int x7), (0, .ref a8)] [] M (pI p) := by
    intro M hM x6 x7 a8 ha8
    refine hs (f := dm_ald 57 0) rfl rfl ?_
    refine hs (f := dm_ild 58 1) rfl rfl ?_
    refine hs (f := dm_push 59 (.int 1)) rfl rfl ?_
    refine hs (f := dm_push 60 (.int (-1))) rfl rfl ?_
    refine hs (f := dm_push 61 (.int (-1))) rfl rfl ?_
    refine v_inv rfl rfl rfl (Nat.le_of_ble_eq_true rfl) hM ha8 (u_B (by decide) (sp_125  hM ha8 x7 1 (-1) (-1) ) (fun x9 bx9 M10 hM10 => ?_))
    refine h_if_eq (n := 67) (tt := 71) rfl (fun h11 => ?_) (fun h11 => ?_)
    · skip
      refine hs (f := dm_push 72 (.int (-1))) rfl rfl ?_
      exact j72_0 M10 hM10 x6 x7 a8 ha8 (-1)
    · skip
      refine hs (f := dm_ild 68 1) rfl rfl ?_
      refine hs (f := dm_goto 72) rfl rfl ?_
      exact j72_0 M10 hM10 x6 x7 a8 ha8 x7
  refine hx (t := cd_119) rfl (Nat.le_of_ble_eq_true rfl) (lv := [(0, .ref a1)]) rfl ?_
  refine hs (f := dm_ald 1 0) rfl rfl ?_
  refine v_geto rfl hM ha1 rfl (fun a12 ha12 => ?_)
  refine v_inv rfl rfl rfl (Nat.le_of_ble_eq_true rfl) hM ha12 (w_I (by decide) (sp_13  hM ha12 ) (fun x13 => ?_))
  refine hs (f := dm_ist 8 1) (lv' := [(1, .int x13), (0, .ref a1)]) rfl rfl ?_
  refine hs (f := dm_ald 9 0) rfl rfl ?_
  refine v_geto rfl hM ha1 rfl (fun a14 ha14 => ?_)
  refine hs (f := dm_ald 13 0) rfl rfl ?_
  refine v_geto rfl hM ha1 rfl (fun a15 ha15 => ?_)
  refine v_geto rfl hM ha15 rfl (fun a16 ha16 => ?_)
  refine v_inv rfl rfl rfl (Nat.le_of_ble_eq_true rfl) hM ha14 (u_I (by decide) (sp_56 hp hM ha14 ha16 ) (fun x17 M18 hM18 => ?_))
  refine hs (f := dm_ist 23 2) (lv' := [(2, .int x17), (1, .int x13), (0, .ref a1)]) rfl rfl ?_
  refine hs (f := dm_ald 24 0) rfl rfl ?_
  refine hs (f := dm_ald 25 0) rfl rfl ?_
  refine v_geto rfl hM18 ha1 rfl (fun a19 ha19 => ?_)
  refine v_inv rfl rfl rfl (Nat.le_of_ble_eq_true rfl) hM18 ha19 (w_I (by decide) (sp_55  hM18 ha19 ) (fun x20 => ?_))
  refine v_puti rfl hM18 ha1 rfl (fun M21 hM21 => ?_)
  refine hs (f := dm_ald 35 0) rfl rfl ?_
  refine v_geti rfl hM21 ha1 rfl (fun x22 _ => ?_)
  refine hs (f := dm_push 39 (.int (-1))) rfl rfl ?_
  refine h_ic_ne (n := 42) (tt := 56) rfl (fun h23 => ?_) (fun h23 => ?_)
  · skip
    exact j56_1 M21 hM21 x17 x13 a1 ha1
  · skip
    refine hs (f := dm_ald 43 0) rfl rfl ?_
    refine v_geto rfl hM21 ha1 rfl (fun a24 ha24 => ?_)
    refine hs (f := dm_push 47 (.int 0)) rfl rfl ?_
    refine hs (f := dm_ild 48 2) rfl rfl ?_
    refine hs (f := dm_push 50 (.int 6)) rfl rfl ?_
    refine hs (f := dm_push 51 (.int (-1))) rfl rfl ?_
    refine hs (f := dm_push 52 (.int (-1))) rfl rfl ?_
    refine v_inv rfl rfl rfl (Nat.le_of_ble_eq_true rfl) hM21 ha24 (u_I (by decide) (sp_15  hM21 ha24 0 x17 6 (-1) (-1) ) (fun x25 M26 hM26 => ?_))
    refine hs (f := dm_pop 56) (st' := []) rfl rfl ?_
    exact j56_1 M26 hM26 x17 x13 a1 ha1
