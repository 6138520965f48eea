/-! the class's methods: each comes to an answer, whatever it is given, and keeps what stands fast -/
theorem sp_1 {p : iv_P} {M : dm_Mem} (hM : Iv p M) {a1 : Nat} (ha1 : iv_ty a1 = some 0) : hT 1 1 [.ref a1] M (pV p) := by
  refine hx (t := cd_1) rfl (Nat.le_of_ble_eq_true rfl) (lv := [(0, .ref a1)]) rfl ?_
  refine hs (f := dm_ald 1 0) rfl rfl ?_
  refine hs (f := dm_push 2 (.int 0)) rfl rfl ?_
  refine v_puti rfl hM ha1 rfl (fun M2 hM2 => ?_)
  exact hr (f := dm_vret) rfl rfl ⟨rfl, hM2⟩
theorem sp_2 {p : iv_P} {M : dm_Mem} (hM : Iv p M) {a1 : Nat} (ha1 : iv_ty a1 = some 0) : hT 1 2 [.ref a1] M (qI M) := by
  refine hx (t := cd_2) rfl (Nat.le_of_ble_eq_true rfl) (lv := [(0, .ref a1)]) rfl ?_
  refine hs (f := dm_ald 1 0) rfl rfl ?_
  refine v_geti rfl hM ha1 rfl (fun x2 _ => ?_)
  exact hr (f := dm_ret .int) rfl rfl ⟨_, rfl, rfl⟩
theorem sp_6 {p : iv_P} {M : dm_Mem} (hM : Iv p M) {a1 : Nat} (ha1 : iv_ty a1 = some 1) : hT 1 6 [.ref a1] M (qI M) := by
  refine hx (t := cd_6) rfl (Nat.le_of_ble_eq_true rfl) (lv := [(0, .ref a1)]) rfl ?_
  refine hs (f := dm_ald 1 0) rfl rfl ?_
  refine v_gets rfl hM ha1 rfl (fun x2 _ _ => ?_)
  exact hr (f := dm_ret .int) rfl rfl ⟨_, rfl, rfl⟩
theorem sp_7 {p : iv_P} {M : dm_Mem} (hM : Iv p M) {a1 : Nat} (ha1 : iv_ty a1 = some 1) (x2 : Int32) : hT 2 7 [.ref a1, .int x2] M (qI M) := by
  have j24_0 : ∀ (a3 : Nat) (ha3 : iv_ty a3 = some 1) (x4 : Int32) (x5 : Int32), hG 1 cd_7 24 [(0, .ref a3), (1, .int x4)] [.int x5] M (qI M) := by
    intro a3 ha3 x4 x5
    exact hr (f := dm_ret .int) rfl rfl ⟨_, rfl, rfl⟩
  have j23_1 : ∀ (a6 : Nat) (ha6 : iv_ty a6 = some 1) (x7 : Int32), hG 1 cd_7 23 [(0, .ref a6), (1, .int x7)] [] M (qI M) := by
    intro a6 ha6 x7
    refine hs (f := dm_push 24 (.int (-1))) rfl rfl ?_
    exact j24_0 a6 ha6 x7 (-1)
  refine hx (t := cd_7) rfl (Nat.le_of_ble_eq_true rfl) (lv := [(0, .ref a1), (1, .int x2)]) rfl ?_
  refine hs (f := dm_ild 1 1) rfl rfl ?_
  refine h_if_lt (n := 4) (tt := 23) rfl (fun h8 => ?_) (fun h8 => ?_)
  · skip
    exact j23_1 a1 ha1 x2
  · skip
    refine hs (f := dm_ild 5 1) rfl rfl ?_
    refine hs (f := dm_ald 6 0) rfl rfl ?_
    refine v_gets rfl hM ha1 rfl (fun x9 _ _ => ?_)
    refine h_ic_ge (n := 12) (tt := 23) rfl (fun h10 => ?_) (fun h10 => ?_)
    · skip
      exact j23_1 a1 ha1 x2
    · skip
      refine hs (f := dm_ald 13 0) rfl rfl ?_
      refine v_geto rfl hM ha1 rfl (fun a11 ha11 => ?_)
      refine hs (f := dm_ild 17 1) rfl rfl ?_
      refine v_inv rfl rfl rfl (Nat.le_of_ble_eq_true rfl) hM ha11 (w_I (by decide) (sp_45  hM ha11 x2 ) (fun x12 => ?_))
      refine hs (f := dm_goto 24) rfl rfl ?_
      exact j24_0 a1 ha1 x2 x12
theorem sp_8 {p : iv_P} (hp : p.2.2.1 = none) {M : dm_Mem} (hM : Iv p M) {a1 : Nat} (ha1 : iv_ty a1 = some 1) (x2 : Int64) (x3 : Int32) : hT 4 8 [.ref a1, .long x2, .int x3] M (pV p) := by
  have j5_0 : ∀ (nn : Nat) (M : dm_Mem) (hM : Iv p M) (x4 : Int32) (a5 : Nat) (ha5 : iv_ty a5 = some 1) (x6 : Int64) (x7 : Int32), mD x4 = nn → hG 3 cd_8 5 [(4, .int x4), (0, .ref a5), (1, .long x6), (3, .int x7)] [] M (pV p) := by
    intro nn
    induction nn using Nat.strongRecOn with
    | ind nn IHn =>
      intro M hM x4 a5 ha5 x6 x7 hn
      refine hs (f := dm_ild 7 4) rfl rfl ?_
      refine h_if_lt (n := 10) (tt := 44) rfl (fun h8 => ?_) (fun h8 => ?_)
      · skip
        exact hr (f := dm_vret) rfl rfl ⟨rfl, hM⟩
      · skip
        have hF : mD (x4 + (-1)) < nn := hn ▸ mD_lt h8
        refine hs (f := dm_ald 11 0) rfl rfl ?_
        refine v_geto rfl hM ha5 rfl (fun a9 ha9 => ?_)
        refine hs (f := dm_ald 15 0) rfl rfl ?_
        refine v_gets rfl hM ha5 rfl (fun x10 _ _ => ?_)
        refine hs (f := dm_lld 19 1) rfl rfl ?_
        refine hs (f := dm_ild 21 4) rfl rfl ?_
        refine hs (f := dm_li 22 (fun x y => (x.toUInt64 >>> (y.toInt64.toUInt64 &&& Int64.toUInt64 63)).toInt64)) (st' := [.long ((x6.toUInt64 >>> (x4.toInt64.toUInt64 &&& Int64.toUInt64 63)).toInt64), .int x10, .ref a9]) rfl rfl ?_
        refine hs (f := dm_push 23 (.long 1)) rfl rfl ?_
        refine hs (f := dm_ll 24 (fun x y => x &&& y)) (st' := [.long (((x6.toUInt64 >>> (x4.toInt64.toUInt64 &&& Int64.toUInt64 63)).toInt64) &&& (1 : Int64)), .int x10, .ref a9]) rfl rfl ?_
        refine hs (f := dm_l1 25 (fun x => .int x.toInt32)) (st' := [.int ((((x6.toUInt64 >>> (x4.toInt64.toUInt64 &&& Int64.toUInt64 63)).toInt64) &&& (1 : Int64)).toInt32), .int x10, .ref a9]) rfl rfl ?_
        refine v_inv rfl rfl rfl (Nat.le_of_ble_eq_true rfl) hM ha9 (u_V (by decide) (sp_46  hM ha9 x10 ((((x6.toUInt64 >>> (x4.toInt64.toUInt64 &&& Int64.toUInt64 63)).toInt64) &&& (1 : Int64)).toInt32) ) (fun M11 hM11 => ?_))
        refine hs (f := dm_ald 29 0) rfl rfl ?_
        refine hs (f := dm_dup 30) (st' := [.ref a5, .ref a5]) rfl rfl ?_
        refine v_gets rfl hM11 ha5 rfl (fun x12 _ _ => ?_)
        refine hs (f := dm_push 34 (.int 1)) rfl rfl ?_
        refine hs (f := dm_ii 35 (fun x y => x + y)) (st' := [.int (x12 + (1 : Int32)), .ref a5]) rfl rfl ?_
        refine v_puts rfl hM11 ha5 rfl hp (fun M13 hM13 => ?_)
        refine hs (f := dm_iinc 41 4 (-1)) (lv' := [(4, .int (x4 + (-1))), (0, .ref a5), (1, .long x6), (3, .int x7)]) rfl rfl ?_
        refine hs (f := dm_goto 5) rfl rfl ?_
        exact IHn _ hF M13 hM13 (x4 + (-1)) a5 ha5 x6 x7 rfl
  refine hx (t := cd_8) rfl (Nat.le_of_ble_eq_true rfl) (lv := [(0, .ref a1), (1, .long x2), (3, .int x3)]) rfl ?_
  refine hs (f := dm_ild 1 3) rfl rfl ?_
  refine hs (f := dm_push 2 (.int 1)) rfl rfl ?_
  refine hs (f := dm_ii 3 (fun x y => x - y)) (st' := [.int (x3 - (1 : Int32))]) rfl rfl ?_
  refine hs (f := dm_ist 5 4) (lv' := [(4, .int (x3 - (1 : Int32))), (0, .ref a1), (1, .long x2), (3, .int x3)]) rfl rfl ?_
  exact j5_0 _ M hM (x3 - (1 : Int32)) a1 ha1 x2 x3 rfl
theorem sp_9 {p : iv_P} (hp : p.2.2.1 = none) {M : dm_Mem} (hM : Iv p M) {a1 : Nat} (ha1 : iv_ty a1 = some 1) (x2 : Int32) : hT 1 9 [.ref a1, .int x2] M (pB p) := by
  have j12_0 : ∀ (M : dm_Mem) (hM : Iv p M) (a3 : Nat) (ha3 : iv_ty a3 = some 1) (x4 : Int32), hG 0 cd_9 12 [(0, .ref a3), (1, .int x4)] [] M (pB p) := by
    intro M hM a3 ha3 x4
    refine hs (f := dm_push 13 (.int 0)) rfl rfl ?_
    exact h_retB rfl isB_0 ⟨_, isB_0, rfl, hM⟩
  refine hx (t := cd_9) rfl (Nat.le_of_ble_eq_true rfl) (lv := [(0, .ref a1), (1, .int x2)]) rfl ?_
  refine hs (f := dm_ild 1 1) rfl rfl ?_
  refine h_if_lt (n := 4) (tt := 12) rfl (fun h5 => ?_) (fun h5 => ?_)
  · skip
    exact j12_0 M hM a1 ha1 x2
  · skip
    refine hs (f := dm_ild 5 1) rfl rfl ?_
    refine hs (f := dm_ald 6 0) rfl rfl ?_
    refine v_gets rfl hM ha1 rfl (fun x6 _ _ => ?_)
    refine h_ic_le (n := 12) (tt := 14) rfl (fun h7 => ?_) (fun h7 => ?_)
    · skip
      refine hs (f := dm_ald 15 0) rfl rfl ?_
      refine hs (f := dm_ild 16 1) rfl rfl ?_
      refine v_puts rfl hM ha1 rfl hp (fun M8 hM8 => ?_)
      refine hs (f := dm_push 20 (.int 1)) rfl rfl ?_
      exact h_retB rfl isB_1 ⟨_, isB_1, rfl, hM8⟩
    · skip
      exact j12_0 M hM a1 ha1 x2
theorem sp_10 {p : iv_P} (hp : p.2.2.1 = none) {M : dm_Mem} (hM : Iv p M) {a1 : Nat} (ha1 : iv_ty a1 = some 1) {a2 : Nat} (ha2 : iv_ty a2 = some 1) : hT 4 10 [.ref a1, .ref a2] M (pV p) := by
  refine hx (t := cd_10) rfl (Nat.le_of_ble_eq_true rfl) (lv := [(0, .ref a1), (1, .ref a2)]) rfl ?_
  refine hs (f := dm_ald 1 0) rfl rfl ?_
  refine hs (f := dm_ald 2 1) rfl rfl ?_
  refine v_gets rfl hM ha2 rfl (fun x3 _ _ => ?_)
  refine v_puts rfl hM ha1 rfl hp (fun M4 hM4 => ?_)
  refine hs (f := dm_ald 9 0) rfl rfl ?_
  refine v_geto rfl hM4 ha1 rfl (fun a5 ha5 => ?_)
  refine hs (f := dm_ald 13 1) rfl rfl ?_
  refine v_geto rfl hM4 ha2 rfl (fun a6 ha6 => ?_)
  refine hs (f := dm_ald 17 0) rfl rfl ?_
  refine v_gets rfl hM4 ha1 rfl (fun x7 _ _ => ?_)
  refine v_inv rfl rfl rfl (Nat.le_of_ble_eq_true rfl) hM4 ha5 (u_V (by decide) (sp_47  hM4 ha5 ha6 x7 ) (fun M8 hM8 => ?_))
  exact hr (f := dm_vret) rfl rfl ⟨rfl, hM8⟩
theorem sp_13 {p : iv_P} {M : dm_Mem} (hM : Iv p M) {a1 : Nat} (ha1 : iv_ty a1 = some 2) : hT 1 13 [.ref a1] M (qI M) := by
  refine hx (t := cd_13) rfl (Nat.le_of_ble_eq_true rfl) (lv := [(0, .ref a1)]) rfl ?_
  refine hs (f := dm_ald 1 0) rfl rfl ?_
  refine v_geti rfl hM ha1 rfl (fun x2 _ => ?_)
  exact hr (f := dm_ret .int) rfl rfl ⟨_, rfl, rfl⟩
theorem sp_14 {p : iv_P} {M : dm_Mem} (hM : Iv p M) {a1 : Nat} (ha1 : iv_ty a1 = some 2) : hT 2 14 [.ref a1] M (qI M) := by
  refine hx (t := cd_14) rfl (Nat.le_of_ble_eq_true rfl) (lv := [(0, .ref a1)]) rfl ?_
  refine hs (f := dm_ald 1 0) rfl rfl ?_
  refine v_geto rfl hM ha1 rfl (fun a2 ha2 => ?_)
  refine hs (f := dm_ald 5 0) rfl rfl ?_
  refine v_geti rfl hM ha1 rfl (fun x3 _ => ?_)
  refine hs (f := dm_push 9 (.int 1)) rfl rfl ?_
  refine hs (f := dm_ii 10 (fun x y => x - y)) (st' := [.int (x3 - (1 : Int32)), .ref a2]) rfl rfl ?_
  refine v_inv rfl rfl rfl (Nat.le_of_ble_eq_true rfl) hM ha2 (w_I (by decide) (sp_45  hM ha2 (x3 - (1 : Int32)) ) (fun x4 => ?_))
  exact hr (f := dm_ret .int) rfl rfl ⟨_, rfl, rfl⟩
theorem sp_17 {p : iv_P} {M : dm_Mem} (hM : Iv p M) {a1 : Nat} (ha1 : iv_ty a1 = some 2) (x2 : Int32) : hT 1 17 [.ref a1, .int x2] M (qB M) := by
  have j17_0 : ∀ (a3 : Nat) (ha3 : iv_ty a3 = some 2) (x4 : Int32) (x5 : Int32) (bx5 : isB x5), hG 0 cd_17 17 [(0, .ref a3), (1, .int x4)] [.int x5] M (qB M) := by
    intro a3 ha3 x4 x5 bx5
    exact h_retB rfl bx5 ⟨_, bx5, rfl, rfl⟩
  have j16_1 : ∀ (a6 : Nat) (ha6 : iv_ty a6 = some 2) (x7 : Int32), hG 0 cd_17 16 [(0, .ref a6), (1, .int x7)] [] M (qB M) := by
    intro a6 ha6 x7
    refine hs (f := dm_push 17 (.int 0)) rfl rfl ?_
    exact j17_0 a6 ha6 x7 0 isB_0
  refine hx (t := cd_17) rfl (Nat.le_of_ble_eq_true rfl) (lv := [(0, .ref a1), (1, .int x2)]) rfl ?_
  refine hs (f := dm_ild 1 1) rfl rfl ?_
  refine h_if_lt (n := 4) (tt := 16) rfl (fun h8 => ?_) (fun h8 => ?_)
  · skip
    exact j16_1 a1 ha1 x2
  · skip
    refine hs (f := dm_ild 5 1) rfl rfl ?_
    refine hs (f := dm_ald 6 0) rfl rfl ?_
    refine v_geti rfl hM ha1 rfl (fun x9 _ => ?_)
    refine h_ic_ge (n := 12) (tt := 16) rfl (fun h10 => ?_) (fun h10 => ?_)
    · skip
      exact j16_1 a1 ha1 x2
    · skip
      refine hs (f := dm_push 13 (.int 1)) rfl rfl ?_
      refine hs (f := dm_goto 17) rfl rfl ?_
      exact j17_0 a1 ha1 x2 1 isB_1
theorem sp_18 {p : iv_P} {M : dm_Mem} (hM : Iv p M) {a1 : Nat} (ha1 : iv_ty a1 = some 2) (x2 : Int32) : hT 2 18 [.ref a1, .int x2] M (qI M) := by
  refine hx (t := cd_18) rfl (Nat.le_of_ble_eq_true rfl) (lv := [(0, .ref a1), (1, .int x2)]) rfl ?_
  refine hs (f := dm_ald 1 0) rfl rfl ?_
  refine v_geto rfl hM ha1 rfl (fun a3 ha3 => ?_)
  refine hs (f := dm_ild 5 1) rfl rfl ?_
  refine v_inv rfl rfl rfl (Nat.le_of_ble_eq_true rfl) hM ha3 (w_I (by decide) (sp_45  hM ha3 x2 ) (fun x4 => ?_))
  exact hr (f := dm_ret .int) rfl rfl ⟨_, rfl, rfl⟩
theorem sp_19 {p : iv_P} {M : dm_Mem} (hM : Iv p M) {a1 : Nat} (ha1 : iv_ty a1 = some 2) (x2 : Int32) : hT 2 19 [.ref a1, .int x2] M (qI M) := by
  refine hx (t := cd_19) rfl (Nat.le_of_ble_eq_true rfl) (lv := [(0, .ref a1), (1, .int x2)]) rfl ?_
  refine hs (f := dm_ald 1 0) rfl rfl ?_
  refine v_geto rfl hM ha1 rfl (fun a3 ha3 => ?_)
  refine hs (f := dm_ild 5 1) rfl rfl ?_
  refine v_inv rfl rfl rfl (Nat.le_of_ble_eq_true rfl) hM ha3 (w_I (by decide) (sp_45  hM ha3 x2 ) (fun x4 => ?_))
  exact hr (f := dm_ret .int) rfl rfl ⟨_, rfl, rfl⟩
theorem sp_20 {p : iv_P} {M : dm_Mem} (hM : Iv p M) {a1 : Nat} (ha1 : iv_ty a1 = some 2) (x2 : Int32) : hT 2 20 [.ref a1, .int x2] M (qI M) := by
  refine hx (t := cd_20) rfl (Nat.le_of_ble_eq_true rfl) (lv := [(0, .ref a1), (1, .int x2)]) rfl ?_
  refine hs (f := dm_ald 1 0) rfl rfl ?_
  refine v_geto rfl hM ha1 rfl (fun a3 ha3 => ?_)
  refine hs (f := dm_ild 5 1) rfl rfl ?_
  refine v_inv rfl rfl rfl (Nat.le_of_ble_eq_true rfl) hM ha3 (w_I (by decide) (sp_45  hM ha3 x2 ) (fun x4 => ?_))
  exact hr (f := dm_ret .int) rfl rfl ⟨_, rfl, rfl⟩
theorem sp_21 {p : iv_P} {M : dm_Mem} (hM : Iv p M) {a1 : Nat} (ha1 : iv_ty a1 = some 2) (x2 : Int32) : hT 2 21 [.ref a1, .int x2] M (qI M) := by
  refine hx (t := cd_21) rfl (Nat.le_of_ble_eq_true rfl) (lv := [(0, .ref a1), (1, .int x2)]) rfl ?_
  refine hs (f := dm_ald 1 0) rfl rfl ?_
  refine v_geto rfl hM ha1 rfl (fun a3 ha3 => ?_)
  refine hs (f := dm_ild 5 1) rfl rfl ?_
  refine v_inv rfl rfl rfl (Nat.le_of_ble_eq_true rfl) hM ha3 (w_I (by decide) (sp_45  hM ha3 x2 ) (fun x4 => ?_))
  exact hr (f := dm_ret .int) rfl rfl ⟨_, rfl, rfl⟩
theorem sp_22 {p : iv_P} {M : dm_Mem} (hM : Iv p M) {a1 : Nat} (ha1 : iv_ty a1 = some 2) (x2 : Int32) : hT 2 22 [.ref a1, .int x2] M (qI M) := by
  refine hx (t := cd_22) rfl (Nat.le_of_ble_eq_true rfl) (lv := [(0, .ref a1), (1, .int x2)]) rfl ?_
  refine hs (f := dm_ald 1 0) rfl rfl ?_
  refine v_geto rfl hM ha1 rfl (fun a3 ha3 => ?_)
  refine hs (f := dm_ild 5 1) rfl rfl ?_
  refine v_inv rfl rfl rfl (Nat.le_of_ble_eq_true rfl) hM ha3 (w_I (by decide) (sp_45  hM ha3 x2 ) (fun x4 => ?_))
  exact hr (f := dm_ret .int) rfl rfl ⟨_, rfl, rfl⟩
theorem sp_23 {p : iv_P} {M : dm_Mem} (hM : Iv p M) {a1 : Nat} (ha1 : iv_ty a1 = some 2) (x2 : Int32) : hT 2 23 [.ref a1, .int x2] M (qI M) := by
  refine hx (t := cd_23) rfl (Nat.le_of_ble_eq_true rfl) (lv := [(0, .ref a1), (1, .int x2)]) rfl ?_
  refine hs (f := dm_ald 1 0) rfl rfl ?_
  refine v_geto rfl hM ha1 rfl (fun a3 ha3 => ?_)
  refine hs (f := dm_ild 5 1) rfl rfl ?_
  refine v_inv rfl rfl rfl (Nat.le_of_ble_eq_true rfl) hM ha3 (w_I (by decide) (sp_45  hM ha3 x2 ) (fun x4 => ?_))
  exact hr (f := dm_ret .int) rfl rfl ⟨_, rfl, rfl⟩
theorem sp_24 {p : iv_P} {M : dm_Mem} (hM : Iv p M) {a1 : Nat} (ha1 : iv_ty a1 = some 2) (x2 : Int32) (x3 : Int32) : hT 4 24 [.ref a1, .int x2, .int x3] M (pV p) := by
  refine hx (t := cd_24) rfl (Nat.le_of_ble_eq_true rfl) (lv := [(0, .ref a1), (1, .int x2), (2, .int x3)]) rfl ?_
  refine hs (f := dm_ald 1 0) rfl rfl ?_
  refine v_geto rfl hM ha1 rfl (fun a4 ha4 => ?_)
  refine hs (f := dm_ild 5 1) rfl rfl ?_
  refine hs (f := dm_ild 6 2) rfl rfl ?_
  refine v_inv rfl rfl rfl (Nat.le_of_ble_eq_true rfl) hM ha4 (u_V (by decide) (sp_46  hM ha4 x2 x3 ) (fun M5 hM5 => ?_))
  exact hr (f := dm_vret) rfl rfl ⟨rfl, hM5⟩
theorem sp_26 {p : iv_P} {M : dm_Mem} (hM : Iv p M) {a1 : Nat} (ha1 : iv_ty a1 = some 2) (x2 : Int32) : hT 3 26 [.ref a1, .int x2] M (qB M) := by
  have j22_0 : ∀ (a3 : Nat) (ha3 : iv_ty a3 = some 2) (x4 : Int32) (x5 : Int32) (bx5 : isB x5), hG 2 cd_26 22 [(0, .ref a3), (1, .int x4)] [.int x5] M (qB M) := by
    intro a3 ha3 x4 x5 bx5
    exact h_retB rfl bx5 ⟨_, bx5, rfl, rfl⟩
  have j21_1 : ∀ (a6 : Nat) (ha6 : iv_ty a6 = some 2) (x7 : Int32), hG 2 cd_26 21 [(0, .ref a6), (1, .int x7)] [] M (qB M) := by
    intro a6 ha6 x7
    refine hs (f := dm_push 22 (.int 0)) rfl rfl ?_
    exact j22_0 a6 ha6 x7 0 isB_0
  refine hx (t := cd_26) rfl (Nat.le_of_ble_eq_true rfl) (lv := [(0, .ref a1), (1, .int x2)]) rfl ?_
  refine hs (f := dm_ald 1 0) rfl rfl ?_
  refine hs (f := dm_ild 2 1) rfl rfl ?_
  refine v_inv rfl rfl rfl (Nat.le_of_ble_eq_true rfl) hM ha1 (w_B (by decide) (sp_17  hM ha1 x2 ) (fun x8 bx8 => ?_))
  refine h_if_eq (n := 8) (tt := 21) rfl (fun h9 => ?_) (fun h9 => ?_)
  · skip
    exact j21_1 a1 ha1 x2
  · skip
    refine hs (f := dm_ald 9 0) rfl rfl ?_
    refine hs (f := dm_ild 10 1) rfl rfl ?_
    refine v_inv rfl rfl rfl (Nat.le_of_ble_eq_true rfl) hM ha1 (w_I (by decide) (sp_23  hM ha1 x2 ) (fun x10 => ?_))
    refine hs (f := dm_push 14 (.int 1)) rfl rfl ?_
    refine h_ic_ne (n := 17) (tt := 21) rfl (fun h11 => ?_) (fun h11 => ?_)
    · skip
      exact j21_1 a1 ha1 x2
    · skip
      refine hs (f := dm_push 18 (.int 1)) rfl rfl ?_
      refine hs (f := dm_goto 22) rfl rfl ?_
      exact j22_0 a1 ha1 x2 1 isB_1
theorem sp_28 {p : iv_P} {M : dm_Mem} (hM : Iv p M) {a1 : Nat} (ha1 : iv_ty a1 = some 2) (x2 : Int32) : hT 3 28 [.ref a1, .int x2] M (qB M) := by
  have j22_0 : ∀ (a3 : Nat) (ha3 : iv_ty a3 = some 2) (x4 : Int32) (x5 : Int32) (bx5 : isB x5), hG 2 cd_28 22 [(0, .ref a3), (1, .int x4)] [.int x5] M (qB M) := by
    intro a3 ha3 x4 x5 bx5
    exact h_retB rfl bx5 ⟨_, bx5, rfl, rfl⟩
  have j21_1 : ∀ (a6 : Nat) (ha6 : iv_ty a6 = some 2) (x7 : Int32), hG 2 cd_28 21 [(0, .ref a6), (1, .int x7)] [] M (qB M) := by
    intro a6 ha6 x7
    refine hs (f := dm_push 22 (.int 0)) rfl rfl ?_
    exact j22_0 a6 ha6 x7 0 isB_0
  refine hx (t := cd_28) rfl (Nat.le_of_ble_eq_true rfl) (lv := [(0, .ref a1), (1, .int x2)]) rfl ?_
  refine hs (f := dm_ald 1 0) rfl rfl ?_
  refine hs (f := dm_ild 2 1) rfl rfl ?_
  refine v_inv rfl rfl rfl (Nat.le_of_ble_eq_true rfl) hM ha1 (w_B (by decide) (sp_17  hM ha1 x2 ) (fun x8 bx8 => ?_))
  refine h_if_eq (n := 8) (tt := 21) rfl (fun h9 => ?_) (fun h9 => ?_)
  · skip
    exact j21_1 a1 ha1 x2
  · skip
    refine hs (f := dm_ald 9 0) rfl rfl ?_
    refine hs (f := dm_ild 10 1) rfl rfl ?_
    refine v_inv rfl rfl rfl (Nat.le_of_ble_eq_true rfl) hM ha1 (w_I (by decide) (sp_23  hM ha1 x2 ) (fun x10 => ?_))
    refine hs (f := dm_push 14 (.int 2)) rfl rfl ?_
    refine h_ic_ne (n := 17) (tt := 21) rfl (fun h11 => ?_) (fun h11 => ?_)
    · skip
      exact j21_1 a1 ha1 x2
    · skip
      refine hs (f := dm_push 18 (.int 1)) rfl rfl ?_
      refine hs (f := dm_goto 22) rfl rfl ?_
      exact j22_0 a1 ha1 x2 1 isB_1
theorem sp_31 {p : iv_P} {M : dm_Mem} (hM : Iv p M) {a1 : Nat} (ha1 : iv_ty a1 = some 2) : hT 4 31 [.ref a1] M (qI M) := by
  have j4_0 : ∀ (nn : Nat) (x2 : Int32) (x3 : Int32) (a4 : Nat) (ha4 : iv_ty a4 = some 2), mU x2 = nn → hG 3 cd_31 4 [(2, .int x2), (1, .int x3), (0, .ref a4)] [] M (qI M) := by
    intro nn
    induction nn using Nat.strongRecOn with
    | ind nn IHn =>
      intro x2 x3 a4 ha4 hn
      have j26_1 : ∀ (x5 : Int32) (x6 : Int32) (a7 : Nat) (ha7 : iv_ty a7 = some 2) (x8 : Int32) (x9 : Int32) (bx9 : isB x9), mU (x5 + 1) < nn → hG 3 cd_31 26 [(2, .int x5), (1, .int x6), (0, .ref a7)] [.int x9, .int x8] M (qI M) := by
        intro x5 x6 a7 ha7 x8 x9 bx9 hF
        refine hs (f := dm_ii 27 (fun x y => x + y)) (st' := [.int (x8 + x9)]) rfl rfl ?_
        refine hs (f := dm_ist 28 1) (lv' := [(1, .int (x8 + x9)), (2, .int x5), (0, .ref a7)]) rfl rfl ?_
        refine hs (f := dm_iinc 31 2 1) (lv' := [(2, .int (x5 + 1)), (1, .int (x8 + x9)), (0, .ref a7)]) rfl rfl ?_
        refine hs (f := dm_goto 4) rfl rfl ?_
        exact IHn _ hF (x5 + 1) (x8 + x9) a7 ha7 rfl
      refine hs (f := dm_ild 5 2) rfl rfl ?_
      refine hs (f := dm_ald 6 0) rfl rfl ?_
      refine v_geti rfl hM ha4 rfl (fun x10 _ => ?_)
      refine h_ic_ge (n := 12) (tt := 34) rfl (fun h11 => ?_) (fun h11 => ?_)
      · skip
        refine hs (f := dm_ild 35 1) rfl rfl ?_
        exact hr (f := dm_ret .int) rfl rfl ⟨_, rfl, rfl⟩
      · skip
        have hF : mU (x2 + 1) < nn := hn ▸ mU_lt h11
        refine hs (f := dm_ild 13 1) rfl rfl ?_
        refine hs (f := dm_ald 14 0) rfl rfl ?_
        refine hs (f := dm_ild 15 2) rfl rfl ?_
        refine v_inv rfl rfl rfl (Nat.le_of_ble_eq_true rfl) hM ha4 (w_B (by decide) (sp_28  hM ha4 x2 ) (fun x12 bx12 => ?_))
        refine h_if_eq (n := 21) (tt := 25) rfl (fun h13 => ?_) (fun h13 => ?_)
        · skip
          refine hs (f := dm_push 26 (.int 0)) rfl rfl ?_
          exact j26_1 x2 x3 a4 ha4 x3 0 isB_0 hF
        · skip
          refine hs (f := dm_push 22 (.int 1)) rfl rfl ?_
          refine hs (f := dm_goto 26) rfl rfl ?_
          exact j26_1 x2 x3 a4 ha4 x3 1 isB_1 hF
  refine hx (t := cd_31) rfl (Nat.le_of_ble_eq_true rfl) (lv := [(0, .ref a1)]) rfl ?_
  refine hs (f := dm_push 1 (.int 0)) rfl rfl ?_
  refine hs (f := dm_ist 2 1) (lv' := [(1, .int 0), (0, .ref a1)]) rfl rfl ?_
  refine hs (f := dm_push 3 (.int 0)) rfl rfl ?_
  refine hs (f := dm_ist 4 2) (lv' := [(2, .int 0), (1, .int 0), (0, .ref a1)]) rfl rfl ?_
  exact j4_0 _ 0 0 a1 ha1 rfl
theorem sp_32 {p : iv_P} {M : dm_Mem} (hM : Iv p M) {a1 : Nat} (ha1 : iv_ty a1 = some 2) : hT 3 32 [.ref a1] M (qI M) := by
  have j4_0 : ∀ (nn : Nat) (x2 : Int32) (x3 : Int32) (a4 : Nat) (ha4 : iv_ty a4 = some 2), mU x2 = nn → hG 2 cd_32 4 [(2, .int x2), (1, .int x3), (0, .ref a4)] [] M (qI M) := by
    intro nn
    induction nn using Nat.strongRecOn with
    | ind nn IHn =>
      intro x2 x3 a4 ha4 hn
      have j27_1 : ∀ (x5 : Int32) (x6 : Int32) (a7 : Nat) (ha7 : iv_ty a7 = some 2) (x8 : Int32) (x9 : Int32) (bx9 : isB x9), mU (x5 + 1) < nn → hG 2 cd_32 27 [(2, .int x5), (1, .int x6), (0, .ref a7)] [.int x9, .int x8] M (qI M) := by
        intro x5 x6 a7 ha7 x8 x9 bx9 hF
        refine hs (f := dm_ii 28 (fun x y => x + y)) (st' := [.int (x8 + x9)]) rfl rfl ?_
        refine hs (f := dm_ist 29 1) (lv' := [(1, .int (x8 + x9)), (2, .int x5), (0, .ref a7)]) rfl rfl ?_
        refine hs (f := dm_iinc 32 2 1) (lv' := [(2, .int (x5 + 1)), (1, .int (x8 + x9)), (0, .ref a7)]) rfl rfl ?_
        refine hs (f := dm_goto 4) rfl rfl ?_
        exact IHn _ hF (x5 + 1) (x8 + x9) a7 ha7 rfl
      refine hs (f := dm_ild 5 2) rfl rfl ?_
      refine hs (f := dm_ald 6 0) rfl rfl ?_
      refine v_geti rfl hM ha4 rfl (fun x10 _ => ?_)
      refine h_ic_ge (n := 12) (tt := 35) rfl (fun h11 => ?_) (fun h11 => ?_)
      · skip
        refine hs (f := dm_ild 36 1) rfl rfl ?_
        exact hr (f := dm_ret .int) rfl rfl ⟨_, rfl, rfl⟩
      · skip
        have hF : mU (x2 + 1) < nn := hn ▸ mU_lt h11
        refine hs (f := dm_ild 13 1) rfl rfl ?_
        refine hs (f := dm_ald 14 0) rfl rfl ?_
        refine hs (f := dm_ild 15 2) rfl rfl ?_
        refine v_inv rfl rfl rfl (Nat.le_of_ble_eq_true rfl) hM ha4 (w_I (by decide) (sp_20  hM ha4 x2 ) (fun x12 => ?_))
        refine hs (f := dm_push 19 (.int 2)) rfl rfl ?_
        refine h_ic_ne (n := 22) (tt := 26) rfl (fun h13 => ?_) (fun h13 => ?_)
        · skip
          refine hs (f := dm_push 27 (.int 0)) rfl rfl ?_
          exact j27_1 x2 x3 a4 ha4 x3 0 isB_0 hF
        · skip
          refine hs (f := dm_push 23 (.int 1)) rfl rfl ?_
          refine hs (f := dm_goto 27) rfl rfl ?_
          exact j27_1 x2 x3 a4 ha4 x3 1 isB_1 hF
  refine hx (t := cd_32) rfl (Nat.le_of_ble_eq_true rfl) (lv := [(0, .ref a1)]) rfl ?_
  refine hs (f := dm_push 1 (.int 0)) rfl rfl ?_
  refine hs (f := dm_ist 2 1) (lv' := [(1, .int 0), (0, .ref a1)]) rfl rfl ?_
  refine hs (f := dm_push 3 (.int 0)) rfl rfl ?_
  refine hs (f := dm_ist 4 2) (lv' := [(2, .int 0), (1, .int 0), (0, .ref a1)]) rfl rfl ?_
  exact j4_0 _ 0 0 a1 ha1 rfl
theorem sp_52 {p : iv_P} {M : dm_Mem} (hM : Iv p M) {a1 : Nat} (ha1 : iv_ty a1 = some 2) {a2 : Nat} (ha2 : iv_ty a2 = some 3) : hT 3 52 [.ref a1, .ref a2] M (qI M) := by
  have j4_0 : ∀ (nn : Nat) (x3 : Int32) (x4 : Int32) (a5 : Nat) (ha5 : iv_ty a5 = some 2) (a6 : Nat) (ha6 : iv_ty a6 = some 3), mU x3 = nn → hG 2 cd_52 4 [(3, .int x3), (2, .int x4), (0, .ref a5), (1, .ref a6)] [] M (qI M) := by
    intro nn
    induction nn using Nat.strongRecOn with
    | ind nn IHn =>
      intro x3 x4 a5 ha5 a6 ha6 hn
      have j36_1 : ∀ (x7 : Int32) (x8 : Int32) (a9 : Nat) (ha9 : iv_ty a9 = some 2) (a10 : Nat) (ha10 : iv_ty a10 = some 3) (x11 : Int32) (x12 : Int32) (bx12 : isB x12), mU (x7 + 1) < nn → hG 2 cd_52 36 [(3, .int x7), (2, .int x8), (0, .ref a9), (1, .ref a10)] [.int x12, .int x11] M (qI M) := by
        intro x7 x8 a9 ha9 a10 ha10 x11 x12 bx12 hF
        refine hs (f := dm_ii 37 (fun x y => x + y)) (st' := [.int (x11 + x12)]) rfl rfl ?_
        refine hs (f := dm_ist 38 2) (lv' := [(2, .int (x11 + x12)), (3, .int x7), (0, .ref a9), (1, .ref a10)]) rfl rfl ?_
        refine hs (f := dm_iinc 41 3 1) (lv' := [(3, .int (x7 + 1)), (2, .int (x11 + x12)), (0, .ref a9), (1, .ref a10)]) rfl rfl ?_
        refine hs (f := dm_goto 4) rfl rfl ?_
        exact IHn _ hF (x7 + 1) (x11 + x12) a9 ha9 a10 ha10 rfl
      have j35_2 : ∀ (x13 : Int32) (x14 : Int32) (a15 : Nat) (ha15 : iv_ty a15 = some 2) (a16 : Nat) (ha16 : iv_ty a16 = some 3) (x17 : Int32), mU (x13 + 1) < nn → hG 2 cd_52 35 [(3, .int x13), (2, .int x14), (0, .ref a15), (1, .ref a16)] [.int x17] M (qI M) := by
        intro x13 x14 a15 ha15 a16 ha16 x17 hF
        refine hs (f := dm_push 36 (.int 0)) rfl rfl ?_
        exact j36_1 x13 x14 a15 ha15 a16 ha16 x17 0 isB_0 hF
      refine hs (f := dm_ild 5 3) rfl rfl ?_
      refine hs (f := dm_ald 6 0) rfl rfl ?_
      refine v_inv rfl rfl rfl (Nat.le_of_ble_eq_true rfl) hM ha5 (w_I (by decide) (sp_13  hM ha5 ) (fun x18 => ?_))
      refine h_ic_ge (n := 12) (tt := 44) rfl (fun h19 => ?_) (fun h19 => ?_)
      · skip
        refine hs (f := dm_ild 45 2) rfl rfl ?_
        exact hr (f := dm_ret .int) rfl rfl ⟨_, rfl, rfl⟩
      · skip
        have hF : mU (x3 + 1) < nn := hn ▸ mU_lt h19
        refine hs (f := dm_ild 13 2) rfl rfl ?_
        refine hs (f := dm_ald 14 1) rfl rfl ?_
        refine hs (f := dm_ild 15 3) rfl rfl ?_
        refine v_inv rfl rfl rfl (Nat.le_of_ble_eq_true rfl) hM ha6 (w_I (by decide) (sp_45  hM ha6 x3 ) (fun x20 => ?_))
        refine hs (f := dm_push 19 (.int 1)) rfl rfl ?_
        refine h_ic_ne (n := 22) (tt := 35) rfl (fun h21 => ?_) (fun h21 => ?_)
        · skip
          exact j35_2 x3 x4 a5 ha5 a6 ha6 x4 hF
        · skip
          refine hs (f := dm_ald 23 0) rfl rfl ?_
          refine hs (f := dm_ild 24 3) rfl rfl ?_
          refine v_inv rfl rfl rfl (Nat.le_of_ble_eq_true rfl) hM ha5 (w_I (by decide) (sp_20  hM ha5 x3 ) (fun x22 => ?_))
          refine hs (f := dm_push 28 (.int 2)) rfl rfl ?_
          refine h_ic_ne (n := 31) (tt := 35) rfl (fun h23 => ?_) (fun h23 => ?_)
          · skip
            exact j35_2 x3 x4 a5 ha5 a6 ha6 x4 hF
          · skip
            refine hs (f := dm_push 32 (.int 1)) rfl rfl ?_
            refine hs (f := dm_goto 36) rfl rfl ?_
            exact j36_1 x3 x4 a5 ha5 a6 ha6 x4 1 isB_1 hF
  refine hx (t := cd_52) rfl (Nat.le_of_ble_eq_true rfl) (lv := [(0, .ref a1), (1, .ref a2)]) rfl ?_
  refine hs (f := dm_push 1 (.int 0)) rfl rfl ?_
  refine hs (f := dm_ist 2 2) (lv' := [(2, .int 0), (0, .ref a1), (1, .ref a2)]) rfl rfl ?_
  refine hs (f := dm_push 3 (.int 0)) rfl rfl ?_
  refine hs (f := dm_ist 4 3) (lv' := [(3, .int 0), (2, .int 0), (0, .ref a1), (1, .ref a2)]) rfl rfl ?_
  exact j4_0 _ 0 0 a1 ha1 a2 ha2 rfl
theorem sp_53 {p : iv_P} {M : dm_Mem} (hM : Iv p M) {a1 : Nat} (ha1 : iv_ty a1 = some 2) (x2 : Int32) {a3 : Nat} (ha3 : iv_ty a3 = some 3) : hT 4 53 [.ref a1, .int x2, .ref a3] M (pB p) := by
  have j33_0 : ∀ (nn : Nat) (M : dm_Mem) (hM : Iv p M) (x4 : Int32) (x5 : Int32) (bx5 : isB x5) (a6 : Nat) (ha6 : iv_ty a6 = some 2) (x7 : Int32) (a8 : Nat) (ha8 : iv_ty a8 = some 3), mD x4 = nn → hG 3 cd_53 33 [(4, .int x4), (3, .int x5), (0, .ref a6), (1, .int x7), (2, .ref a8)] [] M (pB p) := by
    intro nn
    induction nn using Nat.strongRecOn with
    | ind nn IHn =>
      intro M hM x4 x5 bx5 a6 ha6 x7 a8 ha8 hn
      have j91_1 : ∀ (M : dm_Mem) (hM : Iv p M) (x9 : Int32) (bx9 : isB x9) (x10 : Int32) (a11 : Nat) (ha11 : iv_ty a11 = some 2) (x12 : Int32) (a13 : Nat) (ha13 : iv_ty a13 = some 3), mD (x10 + (-1)) < nn → hG 3 cd_53 91 [(3, .int x9), (4, .int x10), (0, .ref a11), (1, .int x12), (2, .ref a13)] [] M (pB p) := by
        intro M hM x9 bx9 x10 a11 ha11 x12 a13 ha13 hF
        refine hs (f := dm_iinc 94 4 (-1)) (lv' := [(4, .int (x10 + (-1))), (3, .int x9), (0, .ref a11), (1, .int x12), (2, .ref a13)]) rfl rfl ?_
        refine hs (f := dm_goto 33) rfl rfl ?_
        exact IHn _ hF M hM (x10 + (-1)) x9 bx9 a11 ha11 x12 a13 ha13 rfl
      have j91_2 : ∀ (M : dm_Mem) (hM : Iv p M) (x14 : Int32) (x15 : Int32) (bx15 : isB x15) (a16 : Nat) (ha16 : iv_ty a16 = some 2) (x17 : Int32) (a18 : Nat) (ha18 : iv_ty a18 = some 3), mD (x14 + (-1)) < nn → hG 3 cd_53 91 [(4, .int x14), (3, .int x15), (0, .ref a16), (1, .int x17), (2, .ref a18)] [] M (pB p) := by
        intro M hM x14 x15 bx15 a16 ha16 x17 a18 ha18 hF
        refine hs (f := dm_iinc 94 4 (-1)) (lv' := [(4, .int (x14 + (-1))), (3, .int x15), (0, .ref a16), (1, .int x17), (2, .ref a18)]) rfl rfl ?_
        refine hs (f := dm_goto 33) rfl rfl ?_
        exact IHn _ hF M hM (x14 + (-1)) x15 bx15 a16 ha16 x17 a18 ha18 rfl
      have j90_3 : ∀ (M : dm_Mem) (hM : Iv p M) (x19 : Int32) (x20 : Int32) (bx20 : isB x20) (a21 : Nat) (ha21 : iv_ty a21 = some 2) (x22 : Int32) (a23 : Nat) (ha23 : iv_ty a23 = some 3) (x24 : Int32) (bx24 : isB x24), mD (x19 + (-1)) < nn → hG 3 cd_53 90 [(4, .int x19), (3, .int x20), (0, .ref a21), (1, .int x22), (2, .ref a23)] [.int x24] M (pB p) := by
        intro M hM x19 x20 bx20 a21 ha21 x22 a23 ha23 x24 bx24 hF
        refine hs (f := dm_ist 91 3) (lv' := [(3, .int x24), (4, .int x19), (0, .ref a21), (1, .int x22), (2, .ref a23)]) rfl rfl ?_
        exact j91_1 M hM x24 bx24 x19 a21 ha21 x22 a23 ha23 hF
      have j89_4 : ∀ (M : dm_Mem) (hM : Iv p M) (x25 : Int32) (x26 : Int32) (bx26 : isB x26) (a27 : Nat) (ha27 : iv_ty a27 = some 2) (x28 : Int32) (a29 : Nat) (ha29 : iv_ty a29 = some 3), mD (x25 + (-1)) < nn → hG 3 cd_53 89 [(4, .int x25), (3, .int x26), (0, .ref a27), (1, .int x28), (2, .ref a29)] [] M (pB p) := by
        intro M hM x25 x26 bx26 a27 ha27 x28 a29 ha29 hF
        refine hs (f := dm_push 90 (.int 0)) rfl rfl ?_
        exact j90_3 M hM x25 x26 bx26 a27 ha27 x28 a29 ha29 0 isB_0 hF
      refine hs (f := dm_ild 35 4) rfl rfl ?_
      refine h_if_lt (n := 38) (tt := 97) rfl (fun h30 => ?_) (fun h30 => ?_)
      · skip
        refine hs (f := dm_ild 98 3) rfl rfl ?_
        exact h_retB rfl bx5 ⟨_, bx5, rfl, hM⟩
      · skip
        have hF : mD (x4 + (-1)) < nn := hn ▸ mD_lt h30
        refine hs (f := dm_ald 39 2) rfl rfl ?_
        refine hs (f := dm_ild 41 4) rfl rfl ?_
        refine v_inv rfl rfl rfl (Nat.le_of_ble_eq_true rfl) hM ha8 (w_I (by decide) (sp_45  hM ha8 x4 ) (fun x31 => ?_))
        refine hs (f := dm_push 45 (.int 1)) rfl rfl ?_
        refine h_ic_ne (n := 48) (tt := 91) rfl (fun h32 => ?_) (fun h32 => ?_)
        · skip
          exact j91_2 M hM x4 x5 bx5 a6 ha6 x7 a8 ha8 hF
        · skip
          refine hs (f := dm_ald 49 2) rfl rfl ?_
          refine hs (f := dm_ald 50 0) rfl rfl ?_
          refine hs (f := dm_ild 52 4) rfl rfl ?_
          refine v_inv rfl rfl rfl (Nat.le_of_ble_eq_true rfl) hM ha6 (w_I (by decide) (sp_21  hM ha6 x4 ) (fun x33 => ?_))
          refine hs (f := dm_push 56 (.int 1)) rfl rfl ?_
          refine v_inv rfl rfl rfl (Nat.le_of_ble_eq_true rfl) hM ha8 (u_V (by decide) (sp_46  hM ha8 x33 1 ) (fun M34 hM34 => ?_))
          refine hs (f := dm_ald 60 2) rfl rfl ?_
          refine hs (f := dm_ald 61 0) rfl rfl ?_
          refine hs (f := dm_ild 63 4) rfl rfl ?_
          refine v_inv rfl rfl rfl (Nat.le_of_ble_eq_true rfl) hM34 ha6 (w_I (by decide) (sp_22  hM34 ha6 x4 ) (fun x35 => ?_))
          refine hs (f := dm_push 67 (.int 1)) rfl rfl ?_
          refine v_inv rfl rfl rfl (Nat.le_of_ble_eq_true rfl) hM34 ha8 (u_V (by decide) (sp_46  hM34 ha8 x35 1 ) (fun M36 hM36 => ?_))
          refine hs (f := dm_ild 71 3) rfl rfl ?_
          refine h_if_eq (n := 74) (tt := 89) rfl (fun h37 => ?_) (fun h37 => ?_)
          · skip
            exact j89_4 M36 hM36 x4 x5 bx5 a6 ha6 x7 a8 ha8 hF
          · skip
            refine hs (f := dm_ald 75 0) rfl rfl ?_
            refine hs (f := dm_ild 77 4) rfl rfl ?_
            refine v_inv rfl rfl rfl (Nat.le_of_ble_eq_true rfl) hM36 ha6 (w_I (by decide) (sp_20  hM36 ha6 x4 ) (fun x38 => ?_))
            refine hs (f := dm_push 82 (.int 6)) rfl rfl ?_
            refine h_ic_eq (n := 85) (tt := 89) rfl (fun h39 => ?_) (fun h39 => ?_)
            · skip
              exact j89_4 M36 hM36 x4 x5 bx5 a6 ha6 x7 a8 ha8 hF
            · skip
              refine hs (f := dm_push 86 (.int 1)) rfl rfl ?_
              refine hs (f := dm_goto 90) rfl rfl ?_
              exact j90_3 M36 hM36 x4 x5 bx5 a6 ha6 x7 a8 ha8 1 isB_1 hF
  have j2_1 : ∀ (nn : Nat) (M : dm_Mem) (hM : Iv p M) (x40 : Int32) (a41 : Nat) (ha41 : iv_ty a41 = some 2) (x42 : Int32) (a43 : Nat) (ha43 : iv_ty a43 = some 3), mU x40 = nn → hG 3 cd_53 2 [(3, .int x40), (0, .ref a41), (1, .int x42), (2, .ref a43)] [] M (pB p) := by
    intro nn
    induction nn using Nat.strongRecOn with
    | ind nn IHn =>
      intro M hM x40 a41 ha41 x42 a43 ha43 hn
      refine hs (f := dm_ild 3 3) rfl rfl ?_
      refine hs (f := dm_ald 4 0) rfl rfl ?_
      refine v_inv rfl rfl rfl (Nat.le_of_ble_eq_true rfl) hM ha41 (w_I (by decide) (sp_13  hM ha41 ) (fun x44 => ?_))
      refine h_ic_ge (n := 10) (tt := 22) rfl (fun h45 => ?_) (fun h45 => ?_)
      · skip
        refine hs (f := dm_ald 23 2) rfl rfl ?_
        refine hs (f := dm_ild 24 1) rfl rfl ?_
        refine hs (f := dm_push 25 (.int 1)) rfl rfl ?_
        refine v_inv rfl rfl rfl (Nat.le_of_ble_eq_true rfl) hM ha43 (u_V (by decide) (sp_46  hM ha43 x42 1 ) (fun M46 hM46 => ?_))
        refine hs (f := dm_push 29 (.int 1)) rfl rfl ?_
        refine hs (f := dm_ist 30 3) (lv' := [(3, .int 1), (0, .ref a41), (1, .int x42), (2, .ref a43)]) rfl rfl ?_
        refine hs (f := dm_ild 31 1) rfl rfl ?_
        refine hs (f := dm_ist 33 4) (lv' := [(4, .int x42), (3, .int 1), (0, .ref a41), (1, .int x42), (2, .ref a43)]) rfl rfl ?_
        exact j33_0 _ M46 hM46 x42 1 isB_1 a41 ha41 x42 a43 ha43 rfl
      · skip
        have hF : mU (x40 + 1) < nn := hn ▸ mU_lt h45
        refine hs (f := dm_ald 11 2) rfl rfl ?_
        refine hs (f := dm_ild 12 3) rfl rfl ?_
        refine hs (f := dm_push 13 (.int 0)) rfl rfl ?_
        refine v_inv rfl rfl rfl (Nat.le_of_ble_eq_true rfl) hM ha43 (u_V (by decide) (sp_46  hM ha43 x40 0 ) (fun M47 hM47 => ?_))
        refine hs (f := dm_iinc 19 3 1) (lv' := [(3, .int (x40 + 1)), (0, .ref a41), (1, .int x42), (2, .ref a43)]) rfl rfl ?_
        refine hs (f := dm_goto 2) rfl rfl ?_
        exact IHn _ hF M47 hM47 (x40 + 1) a41 ha41 x42 a43 ha43 rfl
  refine hx (t := cd_53) rfl (Nat.le_of_ble_eq_true rfl) (lv := [(0, .ref a1), (1, .int x2), (2, .ref a3)]) rfl ?_
  refine hs (f := dm_push 1 (.int 0)) rfl rfl ?_
  refine hs (f := dm_ist 2 3) (lv' := [(3, .int 0), (0, .ref a1), (1, .int x2), (2, .ref a3)]) rfl rfl ?_
  exact j2_1 _ M hM 0 a1 ha1 x2 a3 ha3 rfl
theorem sp_55 {p : iv_P} {M : dm_Mem} (hM : Iv p M) {a1 : Nat} (ha1 : iv_ty a1 = some 5) : hT 1 55 [.ref a1] M (qI M) := by
  refine hx (t := cd_55) rfl (Nat.le_of_ble_eq_true rfl) (lv := [(0, .ref a1)]) rfl ?_
  refine hs (f := dm_ald 1 0) rfl rfl ?_
  refine v_geti rfl hM ha1 rfl (fun x2 _ => ?_)
  exact hr (f := dm_ret .int) rfl rfl ⟨_, rfl, rfl⟩
theorem sp_57 {p : iv_P} {M : dm_Mem} (hM : Iv p M) {a1 : Nat} (ha1 : iv_ty a1 = some 5) : hT 1 57 [.ref a1] M (qB M) := by
  have j13_0 : ∀ (a2 : Nat) (ha2 : iv_ty a2 = some 5) (x3 : Int32) (bx3 : isB x3), hG 0 cd_57 13 [(0, .ref a2)] [.int x3] M (qB M) := by
    intro a2 ha2 x3 bx3
    exact h_retB rfl bx3 ⟨_, bx3, rfl, rfl⟩
  refine hx (t := cd_57) rfl (Nat.le_of_ble_eq_true rfl) (lv := [(0, .ref a1)]) rfl ?_
  refine hs (f := dm_ald 1 0) rfl rfl ?_
  refine v_geti rfl hM ha1 rfl (fun x4 _ => ?_)
  refine hs (f := dm_push 5 (.int (-1))) rfl rfl ?_
  refine h_ic_eq (n := 8) (tt := 12) rfl (fun h5 => ?_) (fun h5 => ?_)
  · skip
    refine hs (f := dm_push 13 (.int 0)) rfl rfl ?_
    exact j13_0 a1 ha1 0 isB_0
  · skip
    refine hs (f := dm_push 9 (.int 1)) rfl rfl ?_
    refine hs (f := dm_goto 13) rfl rfl ?_
    exact j13_0 a1 ha1 1 isB_1
theorem sp_73 {p : iv_P} {M : dm_Mem} (hM : Iv p M) {a1 : Nat} (ha1 : iv_ty a1 = some 6) : hT 1 73 [.ref a1] M (qI M) := by
  refine hx (t := cd_73) rfl (Nat.le_of_ble_eq_true rfl) (lv := [(0, .ref a1)]) rfl ?_
  refine hs (f := dm_ald 1 0) rfl rfl ?_
  refine v_geti rfl hM ha1 rfl (fun x2 _ => ?_)
  exact hr (f := dm_ret .int) rfl rfl ⟨_, rfl, rfl⟩
theorem sp_74 {p : iv_P} {M : dm_Mem} (hM : Iv p M) {a1 : Nat} (ha1 : iv_ty a1 = some 6) (x2 : Int32) : hT 1 74 [.ref a1, .int x2] M (pV p) := by
  refine hx (t := cd_74) rfl (Nat.le_of_ble_eq_true rfl) (lv := [(0, .ref a1), (1, .int x2)]) rfl ?_
  refine hs (f := dm_ald 1 0) rfl rfl ?_
  refine hs (f := dm_ild 2 1) rfl rfl ?_
  refine v_puti rfl hM ha1 rfl (fun M3 hM3 => ?_)
  exact hr (f := dm_vret) rfl rfl ⟨rfl, hM3⟩
theorem sp_75 {p : iv_P} {M : dm_Mem} (hM : Iv p M) {a1 : Nat} (ha1 : iv_ty a1 = some 6) (x2 : Int32) : hT 2 75 [.ref a1, .int x2] M (qI M) := by
  refine hx (t := cd_75) rfl (Nat.le_of_ble_eq_true rfl) (lv := [(0, .ref a1), (1, .int x2)]) rfl ?_
  refine hs (f := dm_ald 1 0) rfl rfl ?_
  refine v_geto rfl hM ha1 rfl (fun a3 ha3 => ?_)
  refine hs (f := dm_ild 5 1) rfl rfl ?_
  refine v_inv rfl rfl rfl (Nat.le_of_ble_eq_true rfl) hM ha3 (w_I (by decide) (sp_45  hM ha3 x2 ) (fun x4 => ?_))
  exact hr (f := dm_ret .int) rfl rfl ⟨_, rfl, rfl⟩
theorem sp_76 {p : iv_P} {M : dm_Mem} (hM : Iv p M) {a1 : Nat} (ha1 : iv_ty a1 = some 6) (x2 : Int32) (x3 : Int32) : hT 4 76 [.ref a1, .int x2, .int x3] M (pV p) := by
  refine hx (t := cd_76) rfl (Nat.le_of_ble_eq_true rfl) (lv := [(0, .ref a1), (1, .int x2), (2, .int x3)]) rfl ?_
  refine hs (f := dm_ald 1 0) rfl rfl ?_
  refine v_geto rfl hM ha1 rfl (fun a4 ha4 => ?_)
  refine hs (f := dm_ild 5 1) rfl rfl ?_
  refine hs (f := dm_ild 6 2) rfl rfl ?_
  refine v_inv rfl rfl rfl (Nat.le_of_ble_eq_true rfl) hM ha4 (u_V (by decide) (sp_46  hM ha4 x2 x3 ) (fun M5 hM5 => ?_))
  exact hr (f := dm_vret) rfl rfl ⟨rfl, hM5⟩
theorem sp_77 {p : iv_P} {M : dm_Mem} (hM : Iv p M) {a1 : Nat} (ha1 : iv_ty a1 = some 6) (x2 : Int32) : hT 2 77 [.ref a1, .int x2] M (qB M) := by
  have j16_0 : ∀ (a3 : Nat) (ha3 : iv_ty a3 = some 6) (x4 : Int32) (x5 : Int32) (bx5 : isB x5), hG 1 cd_77 16 [(0, .ref a3), (1, .int x4)] [.int x5] M (qB M) := by
    intro a3 ha3 x4 x5 bx5
    exact h_retB rfl bx5 ⟨_, bx5, rfl, rfl⟩
  refine hx (t := cd_77) rfl (Nat.le_of_ble_eq_true rfl) (lv := [(0, .ref a1), (1, .int x2)]) rfl ?_
  refine hs (f := dm_ald 1 0) rfl rfl ?_
  refine v_geto rfl hM ha1 rfl (fun a6 ha6 => ?_)
  refine hs (f := dm_ild 5 1) rfl rfl ?_
  refine v_inv rfl rfl rfl (Nat.le_of_ble_eq_true rfl) hM ha6 (w_I (by decide) (sp_45  hM ha6 x2 ) (fun x7 => ?_))
  refine h_if_ne (n := 11) (tt := 15) rfl (fun h8 => ?_) (fun h8 => ?_)
  · skip
    refine hs (f := dm_push 16 (.int 0)) rfl rfl ?_
    exact j16_0 a1 ha1 x2 0 isB_0
  · skip
    refine hs (f := dm_push 12 (.int 1)) rfl rfl ?_
    refine hs (f := dm_goto 16) rfl rfl ?_
    exact j16_0 a1 ha1 x2 1 isB_1
theorem sp_78 {p : iv_P} {M : dm_Mem} (hM : Iv p M) {a1 : Nat} (ha1 : iv_ty a1 = some 6) (x2 : Int32) (x3 : Int32) : hT 3 78 [.ref a1, .int x2, .int x3] M (qB M) := by
  have j22_0 : ∀ (a4 : Nat) (ha4 : iv_ty a4 = some 6) (x5 : Int32) (x6 : Int32) (x7 : Int32) (bx7 : isB x7), hG 2 cd_78 22 [(0, .ref a4), (1, .int x5), (2, .int x6)] [.int x7] M (qB M) := by
    intro a4 ha4 x5 x6 x7 bx7
    exact h_retB rfl bx7 ⟨_, bx7, rfl, rfl⟩
  have j21_1 : ∀ (a8 : Nat) (ha8 : iv_ty a8 = some 6) (x9 : Int32) (x10 : Int32), hG 2 cd_78 21 [(0, .ref a8), (1, .int x9), (2, .int x10)] [] M (qB M) := by
    intro a8 ha8 x9 x10
    refine hs (f := dm_push 22 (.int 0)) rfl rfl ?_
    exact j22_0 a8 ha8 x9 x10 0 isB_0
  refine hx (t := cd_78) rfl (Nat.le_of_ble_eq_true rfl) (lv := [(0, .ref a1), (1, .int x2), (2, .int x3)]) rfl ?_
  refine hs (f := dm_ald 1 0) rfl rfl ?_
  refine hs (f := dm_ild 2 1) rfl rfl ?_
  refine v_inv rfl rfl rfl (Nat.le_of_ble_eq_true rfl) hM ha1 (w_B (by decide) (sp_77  hM ha1 x2 ) (fun x11 bx11 => ?_))
  refine h_if_eq (n := 8) (tt := 21) rfl (fun h12 => ?_) (fun h12 => ?_)
  · skip
    exact j21_1 a1 ha1 x2 x3
  · skip
    refine hs (f := dm_ald 9 0) rfl rfl ?_
    refine hs (f := dm_ild 10 1) rfl rfl ?_
    refine v_inv rfl rfl rfl (Nat.le_of_ble_eq_true rfl) hM ha1 (w_I (by decide) (sp_75  hM ha1 x2 ) (fun x13 => ?_))
    refine hs (f := dm_ild 14 2) rfl rfl ?_
    refine h_ic_ne (n := 17) (tt := 21) rfl (fun h14 => ?_) (fun h14 => ?_)
    · skip
      exact j21_1 a1 ha1 x2 x3
    · skip
      refine hs (f := dm_push 18 (.int 1)) rfl rfl ?_
      refine hs (f := dm_goto 22) rfl rfl ?_
      exact j22_0 a1 ha1 x2 x3 1 isB_1
theorem sp_79 {p : iv_P} {M : dm_Mem} (hM : Iv p M) {a1 : Nat} (ha1 : iv_ty a1 = some 6) (x2 : Int32) : hT 2 79 [.ref a1, .int x2] M (qI M) := by
  have j18_0 : ∀ (a3 : Nat) (ha3 : iv_ty a3 = some 6) (x4 : Int32) (x5 : Int32), hG 1 cd_79 18 [(0, .ref a3), (1, .int x4)] [.int x5] M (qI M) := by
    intro a3 ha3 x4 x5
    exact hr (f := dm_ret .int) rfl rfl ⟨_, rfl, rfl⟩
  refine hx (t := cd_79) rfl (Nat.le_of_ble_eq_true rfl) (lv := [(0, .ref a1), (1, .int x2)]) rfl ?_
  refine hs (f := dm_ald 1 0) rfl rfl ?_
  refine v_geto rfl hM ha1 rfl (fun a6 ha6 => ?_)
  refine hs (f := dm_ild 5 1) rfl rfl ?_
  refine v_inv rfl rfl rfl (Nat.le_of_ble_eq_true rfl) hM ha6 (w_I (by decide) (sp_45  hM ha6 x2 ) (fun x7 => ?_))
  refine h_if_ne (n := 11) (tt := 15) rfl (fun h8 => ?_) (fun h8 => ?_)
  · skip
    refine hs (f := dm_ild 16 1) rfl rfl ?_
    refine hs (f := dm_push 17 (.int 1)) rfl rfl ?_
    refine hs (f := dm_ii 18 (fun x y => x + y)) (st' := [.int (x2 + (1 : Int32))]) rfl rfl ?_
    exact j18_0 a1 ha1 x2 (x2 + (1 : Int32))
  · skip
    refine hs (f := dm_push 12 (.int 0)) rfl rfl ?_
    refine hs (f := dm_goto 18) rfl rfl ?_
    exact j18_0 a1 ha1 x2 0
theorem sp_80 {p : iv_P} {M : dm_Mem} (hM : Iv p M) {a1 : Nat} (ha1 : iv_ty a1 = some 6) (x2 : Int32) : hT 2 80 [.ref a1, .int x2] M (qI M) := by
  have j23_0 : ∀ (a3 : Nat) (ha3 : iv_ty a3 = some 6) (x4 : Int32) (x5 : Int32), hG 1 cd_80 23 [(0, .ref a3), (1, .int x4)] [.int x5] M (qI M) := by
    intro a3 ha3 x4 x5
    exact hr (f := dm_ret .int) rfl rfl ⟨_, rfl, rfl⟩
  refine hx (t := cd_80) rfl (Nat.le_of_ble_eq_true rfl) (lv := [(0, .ref a1), (1, .int x2)]) rfl ?_
  refine hs (f := dm_ald 1 0) rfl rfl ?_
  refine v_geto rfl hM ha1 rfl (fun a6 ha6 => ?_)
  refine hs (f := dm_ild 5 1) rfl rfl ?_
  refine v_inv rfl rfl rfl (Nat.le_of_ble_eq_true rfl) hM ha6 (w_I (by decide) (sp_45  hM ha6 x2 ) (fun x7 => ?_))
  refine h_if_ne (n := 11) (tt := 15) rfl (fun h8 => ?_) (fun h8 => ?_)
  · skip
    refine hs (f := dm_ald 16 0) rfl rfl ?_
    refine v_geto rfl hM ha1 rfl (fun a9 ha9 => ?_)
    refine hs (f := dm_ild 20 1) rfl rfl ?_
    refine v_inv rfl rfl rfl (Nat.le_of_ble_eq_true rfl) hM ha9 (w_I (by decide) (sp_45  hM ha9 x2 ) (fun x10 => ?_))
    exact j23_0 a1 ha1 x2 x10
  · skip
    refine hs (f := dm_push 12 (.int 0)) rfl rfl ?_
    refine hs (f := dm_goto 23) rfl rfl ?_
    exact j23_0 a1 ha1 x2 0
theorem sp_81 {p : iv_P} {M : dm_Mem} (hM : Iv p M) {a1 : Nat} (ha1 : iv_ty a1 = some 6) (x2 : Int32) : hT 4 81 [.ref a1, .int x2] M (pI p) := by
  refine hx (t := cd_81) rfl (Nat.le_of_ble_eq_true rfl) (lv := [(0, .ref a1), (1, .int x2)]) rfl ?_
  refine hs (f := dm_ald 1 0) rfl rfl ?_
  refine v_geto rfl hM ha1 rfl (fun a3 ha3 => ?_)
  refine hs (f := dm_ald 5 0) rfl rfl ?_
  refine v_geti rfl hM ha1 rfl (fun x4 _ => ?_)
  refine hs (f := dm_ild 9 1) rfl rfl ?_
  refine v_inv rfl rfl rfl (Nat.le_of_ble_eq_true rfl) hM ha3 (u_V (by decide) (sp_46  hM ha3 x4 x2 ) (fun M5 hM5 => ?_))
  refine hs (f := dm_ald 13 0) rfl rfl ?_
  refine v_geto rfl hM5 ha1 rfl (fun a6 ha6 => ?_)
  refine hs (f := dm_ald 17 0) rfl rfl ?_
  refine v_geti rfl hM5 ha1 rfl (fun x7 _ => ?_)
  refine hs (f := dm_push 21 (.int 0)) rfl rfl ?_
  refine v_inv rfl rfl rfl (Nat.le_of_ble_eq_true rfl) hM5 ha6 (u_V (by decide) (sp_46  hM5 ha6 x7 0 ) (fun M8 hM8 => ?_))
  refine hs (f := dm_ald 25 0) rfl rfl ?_
  refine hs (f := dm_dup 26) (st' := [.ref a1, .ref a1]) rfl rfl ?_
  refine v_geti rfl hM8 ha1 rfl (fun x9 _ => ?_)
  refine hs (f := dm_push 30 (.int 1)) rfl rfl ?_
  refine hs (f := dm_ii 31 (fun x y => x + y)) (st' := [.int (x9 + (1 : Int32)), .ref a1]) rfl rfl ?_
  refine v_puti rfl hM8 ha1 rfl (fun M10 hM10 => ?_)
  refine hs (f := dm_ald 35 0) rfl rfl ?_
  refine v_geti rfl hM10 ha1 rfl (fun x11 _ => ?_)
  refine hs (f := dm_push 39 (.int 1)) rfl rfl ?_
  refine hs (f := dm_ii 40 (fun x y => x - y)) (st' := [.int (x11 - (1 : Int32))]) rfl rfl ?_
  exact hr (f := dm_ret .int) rfl rfl ⟨_, rfl, hM10⟩
theorem sp_82 {p : iv_P} {M : dm_Mem} (hM : Iv p M) {a1 : Nat} (ha1 : iv_ty a1 = some 6) (x2 : Int32) : hT 4 82 [.ref a1, .int x2] M (pV p) := by
  refine hx (t := cd_82) rfl (Nat.le_of_ble_eq_true rfl) (lv := [(0, .ref a1), (1, .int x2)]) rfl ?_
  refine hs (f := dm_ald 1 0) rfl rfl ?_
  refine v_geto rfl hM ha1 rfl (fun a3 ha3 => ?_)
  refine hs (f := dm_ild 5 1) rfl rfl ?_
  refine hs (f := dm_ald 6 0) rfl rfl ?_
  refine v_geti rfl hM ha1 rfl (fun x4 _ => ?_)
  refine v_inv rfl rfl rfl (Nat.le_of_ble_eq_true rfl) hM ha3 (u_V (by decide) (sp_46  hM ha3 x2 x4 ) (fun M5 hM5 => ?_))
  exact hr (f := dm_vret) rfl rfl ⟨rfl, hM5⟩
theorem sp_83 {p : iv_P} {M : dm_Mem} (hM : Iv p M) {a1 : Nat} (ha1 : iv_ty a1 = some 6) (x2 : Int32) : hT 4 83 [.ref a1, .int x2] M (pV p) := by
  have j109_0 : ∀ (M : dm_Mem) (hM : Iv p M) (x3 : Int32) (x4 : Int32) (x5 : Int32) (a6 : Nat) (ha6 : iv_ty a6 = some 6) (x7 : Int32), hG 3 cd_83 109 [(4, .int x3), (3, .int x4), (2, .int x5), (0, .ref a6), (1, .int x7)] [] M (pV p) := by
    intro M hM x3 x4 x5 a6 ha6 x7
    exact hr (f := dm_vret) rfl rfl ⟨rfl, hM⟩
  refine hx (t := cd_83) rfl (Nat.le_of_ble_eq_true rfl) (lv := [(0, .ref a1), (1, .int x2)]) rfl ?_
  refine hs (f := dm_ald 1 0) rfl rfl ?_
  refine hs (f := dm_ild 2 1) rfl rfl ?_
  refine v_inv rfl rfl rfl (Nat.le_of_ble_eq_true rfl) hM ha1 (w_I (by decide) (sp_79  hM ha1 x2 ) (fun x8 => ?_))
  refine hs (f := dm_ist 6 2) (lv' := [(2, .int x8), (0, .ref a1), (1, .int x2)]) rfl rfl ?_
  refine hs (f := dm_ald 7 0) rfl rfl ?_
  refine hs (f := dm_ild 8 1) rfl rfl ?_
  refine v_inv rfl rfl rfl (Nat.le_of_ble_eq_true rfl) hM ha1 (w_I (by decide) (sp_80  hM ha1 x2 ) (fun x9 => ?_))
  refine hs (f := dm_ist 12 3) (lv' := [(3, .int x9), (2, .int x8), (0, .ref a1), (1, .int x2)]) rfl rfl ?_
  refine hs (f := dm_ald 13 0) rfl rfl ?_
  refine hs (f := dm_ild 14 2) rfl rfl ?_
  refine v_inv rfl rfl rfl (Nat.le_of_ble_eq_true rfl) hM ha1 (w_I (by decide) (sp_75  hM ha1 x8 ) (fun x10 => ?_))
  refine hs (f := dm_ald 18 0) rfl rfl ?_
  refine hs (f := dm_ild 19 3) rfl rfl ?_
  refine v_inv rfl rfl rfl (Nat.le_of_ble_eq_true rfl) hM ha1 (w_I (by decide) (sp_75  hM ha1 x9 ) (fun x11 => ?_))
  refine hs (f := dm_mn 25) (st' := [.int (if x11 < x10 then x11 else x10)]) rfl rfl ?_
  refine hs (f := dm_ist 27 4) (lv' := [(4, .int (if x11 < x10 then x11 else x10)), (3, .int x9), (2, .int x8), (0, .ref a1), (1, .int x2)]) rfl rfl ?_
  refine hs (f := dm_ald 28 0) rfl rfl ?_
  refine v_geto rfl hM ha1 rfl (fun a12 ha12 => ?_)
  refine hs (f := dm_ild 32 1) rfl rfl ?_
  refine hs (f := dm_ald 33 0) rfl rfl ?_
  refine hs (f := dm_ild 34 1) rfl rfl ?_
  refine v_inv rfl rfl rfl (Nat.le_of_ble_eq_true rfl) hM ha1 (w_I (by decide) (sp_75  hM ha1 x2 ) (fun x13 => ?_))
  refine hs (f := dm_ild 39 4) rfl rfl ?_
  refine hs (f := dm_ii 40 (fun x y => x + y)) (st' := [.int (x13 + (if x11 < x10 then x11 else x10)), .int x2, .ref a12]) rfl rfl ?_
  refine v_inv rfl rfl rfl (Nat.le_of_ble_eq_true rfl) hM ha12 (u_V (by decide) (sp_46  hM ha12 x2 (x13 + (if x11 < x10 then x11 else x10)) ) (fun M14 hM14 => ?_))
  refine hs (f := dm_ald 44 0) rfl rfl ?_
  refine v_geto rfl hM14 ha1 rfl (fun a15 ha15 => ?_)
  refine hs (f := dm_ild 48 2) rfl rfl ?_
  refine hs (f := dm_ald 49 0) rfl rfl ?_
  refine hs (f := dm_ild 50 2) rfl rfl ?_
  refine v_inv rfl rfl rfl (Nat.le_of_ble_eq_true rfl) hM14 ha1 (w_I (by decide) (sp_75  hM14 ha1 x8 ) (fun x16 => ?_))
  refine hs (f := dm_ild 55 4) rfl rfl ?_
  refine hs (f := dm_ii 56 (fun x y => x - y)) (st' := [.int (x16 - (if x11 < x10 then x11 else x10)), .int x8, .ref a15]) rfl rfl ?_
  refine v_inv rfl rfl rfl (Nat.le_of_ble_eq_true rfl) hM14 ha15 (u_V (by decide) (sp_46  hM14 ha15 x8 (x16 - (if x11 < x10 then x11 else x10)) ) (fun M17 hM17 => ?_))
  refine hs (f := dm_ald 60 0) rfl rfl ?_
  refine v_geto rfl hM17 ha1 rfl (fun a18 ha18 => ?_)
  refine hs (f := dm_ild 64 3) rfl rfl ?_
  refine hs (f := dm_ald 65 0) rfl rfl ?_
  refine hs (f := dm_ild 66 3) rfl rfl ?_
  refine v_inv rfl rfl rfl (Nat.le_of_ble_eq_true rfl) hM17 ha1 (w_I (by decide) (sp_75  hM17 ha1 x9 ) (fun x19 => ?_))
  refine hs (f := dm_ild 71 4) rfl rfl ?_
  refine hs (f := dm_ii 72 (fun x y => x - y)) (st' := [.int (x19 - (if x11 < x10 then x11 else x10)), .int x9, .ref a18]) rfl rfl ?_
  refine v_inv rfl rfl rfl (Nat.le_of_ble_eq_true rfl) hM17 ha18 (u_V (by decide) (sp_46  hM17 ha18 x9 (x19 - (if x11 < x10 then x11 else x10)) ) (fun M20 hM20 => ?_))
  refine hs (f := dm_ald 76 0) rfl rfl ?_
  refine hs (f := dm_ild 77 2) rfl rfl ?_
  refine hs (f := dm_push 78 (.int 0)) rfl rfl ?_
  refine v_inv rfl rfl rfl (Nat.le_of_ble_eq_true rfl) hM20 ha1 (w_B (by decide) (sp_78  hM20 ha1 x8 0 ) (fun x21 bx21 => ?_))
  refine h_if_eq (n := 84) (tt := 109) rfl (fun h22 => ?_) (fun h22 => ?_)
  · skip
    exact j109_0 M20 hM20 (if x11 < x10 then x11 else x10) x9 x8 a1 ha1 x2
  · skip
    refine hs (f := dm_ald 85 0) rfl rfl ?_
    refine hs (f := dm_ild 86 3) rfl rfl ?_
    refine hs (f := dm_push 87 (.int 0)) rfl rfl ?_
    refine v_inv rfl rfl rfl (Nat.le_of_ble_eq_true rfl) hM20 ha1 (w_B (by decide) (sp_78  hM20 ha1 x9 0 ) (fun x23 bx23 => ?_))
    refine h_if_eq (n := 93) (tt := 109) rfl (fun h24 => ?_) (fun h24 => ?_)
    · skip
      exact j109_0 M20 hM20 (if x11 < x10 then x11 else x10) x9 x8 a1 ha1 x2
    · skip
      refine hs (f := dm_ald 94 0) rfl rfl ?_
      refine v_geto rfl hM20 ha1 rfl (fun a25 ha25 => ?_)
      refine hs (f := dm_ild 98 1) rfl rfl ?_
      refine hs (f := dm_push 99 (.int 0)) rfl rfl ?_
      refine v_inv rfl rfl rfl (Nat.le_of_ble_eq_true rfl) hM20 ha25 (u_V (by decide) (sp_46  hM20 ha25 x2 0 ) (fun M26 hM26 => ?_))
      refine hs (f := dm_ald 103 0) rfl rfl ?_
      refine hs (f := dm_ild 104 1) rfl rfl ?_
      refine hs (f := dm_push 105 (.int 1)) rfl rfl ?_
      refine hs (f := dm_ii 106 (fun x y => x + y)) (st' := [.int (x2 + (1 : Int32)), .ref a1]) rfl rfl ?_
      refine v_puti rfl hM26 ha1 rfl (fun M27 hM27 => ?_)
      exact j109_0 M27 hM27 (if x11 < x10 then x11 else x10) x9 x8 a1 ha1 x2
theorem sp_84 {p : iv_P} {M : dm_Mem} (hM : Iv p M) {a1 : Nat} (ha1 : iv_ty a1 = some 6) (x2 : Int32) : hT 3 84 [.ref a1, .int x2] M (qI M) := by
  have j38_0 : ∀ (x3 : Int32) (x4 : Int32) (a5 : Nat) (ha5 : iv_ty a5 = some 6) (x6 : Int32), hG 2 cd_84 38 [(3, .int x3), (2, .int x4), (0, .ref a5), (1, .int x6)] [] M (qI M) := by
    intro x3 x4 a5 ha5 x6
    refine hs (f := dm_ild 39 3) rfl rfl ?_
    refine hs (f := dm_ild 40 1) rfl rfl ?_
    refine hs (f := dm_ii 41 (fun x y => x - y)) (st' := [.int (x3 - x6)]) rfl rfl ?_
    exact hr (f := dm_ret .int) rfl rfl ⟨_, rfl, rfl⟩
  have j4_1 : ∀ (nn : Nat) (x7 : Int32) (x8 : Int32) (a9 : Nat) (ha9 : iv_ty a9 = some 6) (x10 : Int32), mU x7 = nn → hG 2 cd_84 4 [(3, .int x7), (2, .int x8), (0, .ref a9), (1, .int x10)] [] M (qI M) := by
    intro nn
    induction nn using Nat.strongRecOn with
    | ind nn IHn =>
      intro x7 x8 a9 ha9 x10 hn
      have j30_2 : ∀ (x11 : Int32) (x12 : Int32) (a13 : Nat) (ha13 : iv_ty a13 = some 6) (x14 : Int32) (x15 : Int32) (x16 : Int32), mU (x11 + 1) < nn → hG 2 cd_84 30 [(3, .int x11), (2, .int x12), (0, .ref a13), (1, .int x14)] [.int x16, .int x15] M (qI M) := by
        intro x11 x12 a13 ha13 x14 x15 x16 hF
        refine hs (f := dm_ii 31 (fun x y => x + y)) (st' := [.int (x15 + x16)]) rfl rfl ?_
        refine hs (f := dm_ist 32 2) (lv' := [(2, .int (x15 + x16)), (3, .int x11), (0, .ref a13), (1, .int x14)]) rfl rfl ?_
        refine hs (f := dm_iinc 35 3 1) (lv' := [(3, .int (x11 + 1)), (2, .int (x15 + x16)), (0, .ref a13), (1, .int x14)]) rfl rfl ?_
        refine hs (f := dm_goto 4) rfl rfl ?_
        exact IHn _ hF (x11 + 1) (x15 + x16) a13 ha13 x14 rfl
      refine hs (f := dm_ild 5 2) rfl rfl ?_
      refine h_if_le (n := 8) (tt := 38) rfl (fun h17 => ?_) (fun h17 => ?_)
      · skip
        exact j38_0 x7 x8 a9 ha9 x10
      · skip
        refine hs (f := dm_ild 9 3) rfl rfl ?_
        refine hs (f := dm_ald 10 0) rfl rfl ?_
        refine v_geti rfl hM ha9 rfl (fun x18 _ => ?_)
        refine h_ic_ge (n := 16) (tt := 38) rfl (fun h19 => ?_) (fun h19 => ?_)
        · skip
          exact j38_0 x7 x8 a9 ha9 x10
        · skip
          have hF : mU (x7 + 1) < nn := hn ▸ mU_lt h19
          refine hs (f := dm_ild 17 2) rfl rfl ?_
          refine hs (f := dm_ald 18 0) rfl rfl ?_
          refine hs (f := dm_ild 19 3) rfl rfl ?_
          refine v_inv rfl rfl rfl (Nat.le_of_ble_eq_true rfl) hM ha9 (w_B (by decide) (sp_77  hM ha9 x7 ) (fun x20 bx20 => ?_))
          refine h_if_eq (n := 25) (tt := 29) rfl (fun h21 => ?_) (fun h21 => ?_)
          · skip
            refine hs (f := dm_push 30 (.int 1)) rfl rfl ?_
            exact j30_2 x7 x8 a9 ha9 x10 x8 1 hF
          · skip
            refine hs (f := dm_push 26 (.int (-1))) rfl rfl ?_
            refine hs (f := dm_goto 30) rfl rfl ?_
            exact j30_2 x7 x8 a9 ha9 x10 x8 (-1) hF
  refine hx (t := cd_84) rfl (Nat.le_of_ble_eq_true rfl) (lv := [(0, .ref a1), (1, .int x2)]) rfl ?_
  refine hs (f := dm_push 1 (.int 1)) rfl rfl ?_
  refine hs (f := dm_ist 2 2) (lv' := [(2, .int 1), (0, .ref a1), (1, .int x2)]) rfl rfl ?_
  refine hs (f := dm_ild 3 1) rfl rfl ?_
  refine hs (f := dm_ist 4 3) (lv' := [(3, .int x2), (2, .int 1), (0, .ref a1), (1, .int x2)]) rfl rfl ?_
  exact j4_1 _ x2 1 a1 ha1 x2 rfl
theorem sp_85 {p : iv_P} {M : dm_Mem} (hM : Iv p M) {a1 : Nat} (ha1 : iv_ty a1 = some 6) (x2 : Int32) : hT 4 85 [.ref a1, .int x2] M (pV p) := by
  have j16_0 : ∀ (nn : Nat) (M : dm_Mem) (hM : Iv p M) (x3 : Int32) (x4 : Int32) (x5 : Int32) (a6 : Nat) (ha6 : iv_ty a6 = some 6) (x7 : Int32), mU x3 = nn → hG 3 cd_85 16 [(4, .int x3), (3, .int x4), (2, .int x5), (0, .ref a6), (1, .int x7)] [] M (pV p) := by
    intro nn
    induction nn using Nat.strongRecOn with
    | ind nn IHn =>
      intro M hM x3 x4 x5 a6 ha6 x7 hn
      have j73_1 : ∀ (M : dm_Mem) (hM : Iv p M) (x8 : Int32) (x9 : Int32) (x10 : Int32) (a11 : Nat) (ha11 : iv_ty a11 = some 6) (x12 : Int32) (a13 : Nat) (ha13 : iv_ty a13 = some 3) (x14 : Int32) (x15 : Int32), mU (x8 + 1) < nn → hG 3 cd_85 73 [(4, .int x8), (3, .int x9), (2, .int x10), (0, .ref a11), (1, .int x12)] [.int x15, .int x14, .ref a13] M (pV p) := by
        intro M hM x8 x9 x10 a11 ha11 x12 a13 ha13 x14 x15 hF
        refine v_inv rfl rfl rfl (Nat.le_of_ble_eq_true rfl) hM ha13 (u_V (by decide) (sp_46  hM ha13 x14 x15 ) (fun M16 hM16 => ?_))
        refine hs (f := dm_iinc 79 4 1) (lv' := [(4, .int (x8 + 1)), (3, .int x9), (2, .int x10), (0, .ref a11), (1, .int x12)]) rfl rfl ?_
        refine hs (f := dm_goto 16) rfl rfl ?_
        exact IHn _ hF M16 hM16 (x8 + 1) x9 x10 a11 ha11 x12 rfl
      refine hs (f := dm_ild 18 4) rfl rfl ?_
      refine hs (f := dm_ild 19 1) rfl rfl ?_
      refine hs (f := dm_ild 20 3) rfl rfl ?_
      refine hs (f := dm_ii 21 (fun x y => x + y)) (st' := [.int (x7 + x4), .int x3]) rfl rfl ?_
      refine h_ic_ge (n := 24) (tt := 82) rfl (fun h17 => ?_) (fun h17 => ?_)
      · skip
        refine hs (f := dm_ald 83 0) rfl rfl ?_
        refine hs (f := dm_dup 84) (st' := [.ref a6, .ref a6]) rfl rfl ?_
        refine v_geti rfl hM ha6 rfl (fun x18 _ => ?_)
        refine hs (f := dm_ild 88 3) rfl rfl ?_
        refine hs (f := dm_ii 89 (fun x y => x + y)) (st' := [.int (x18 + x4), .ref a6]) rfl rfl ?_
        refine v_puti rfl hM ha6 rfl (fun M19 hM19 => ?_)
        exact hr (f := dm_vret) rfl rfl ⟨rfl, hM19⟩
      · skip
        have hF : mU (x3 + 1) < nn := hn ▸ mU_lt h17
        refine hs (f := dm_ald 25 0) rfl rfl ?_
        refine v_geto rfl hM ha6 rfl (fun a20 ha20 => ?_)
        refine hs (f := dm_ild 30 4) rfl rfl ?_
        refine hs (f := dm_ild 31 2) rfl rfl ?_
        refine hs (f := dm_ii 32 (fun x y => x + y)) (st' := [.int (x3 + x5), .ref a20]) rfl rfl ?_
        refine hs (f := dm_ald 33 0) rfl rfl ?_
        refine hs (f := dm_ild 35 4) rfl rfl ?_
        refine v_inv rfl rfl rfl (Nat.le_of_ble_eq_true rfl) hM ha6 (w_I (by decide) (sp_75  hM ha6 x3 ) (fun x21 => ?_))
        refine v_inv rfl rfl rfl (Nat.le_of_ble_eq_true rfl) hM ha20 (u_V (by decide) (sp_46  hM ha20 (x3 + x5) x21 ) (fun M22 hM22 => ?_))
        refine hs (f := dm_ald 42 0) rfl rfl ?_
        refine v_geto rfl hM22 ha6 rfl (fun a23 ha23 => ?_)
        refine hs (f := dm_ild 47 4) rfl rfl ?_
        refine hs (f := dm_ild 48 2) rfl rfl ?_
        refine hs (f := dm_ii 49 (fun x y => x + y)) (st' := [.int (x3 + x5), .ref a23]) rfl rfl ?_
        refine hs (f := dm_ald 50 0) rfl rfl ?_
        refine hs (f := dm_ild 52 4) rfl rfl ?_
        refine v_inv rfl rfl rfl (Nat.le_of_ble_eq_true rfl) hM22 ha6 (w_B (by decide) (sp_77  hM22 ha6 x3 ) (fun x24 bx24 => ?_))
        refine h_if_eq (n := 58) (tt := 62) rfl (fun h25 => ?_) (fun h25 => ?_)
        · skip
          refine hs (f := dm_ald 63 0) rfl rfl ?_
          refine v_geto rfl hM22 ha6 rfl (fun a26 ha26 => ?_)
          refine hs (f := dm_ild 68 4) rfl rfl ?_
          refine v_inv rfl rfl rfl (Nat.le_of_ble_eq_true rfl) hM22 ha26 (w_I (by decide) (sp_45  hM22 ha26 x3 ) (fun x27 => ?_))
          refine hs (f := dm_ild 72 2) rfl rfl ?_
          refine hs (f := dm_ii 73 (fun x y => x + y)) (st' := [.int (x27 + x5), .int (x3 + x5), .ref a23]) rfl rfl ?_
          exact j73_1 M22 hM22 x3 x4 x5 a6 ha6 x7 a23 ha23 (x3 + x5) (x27 + x5) hF
        · skip
          refine hs (f := dm_push 59 (.int 0)) rfl rfl ?_
          refine hs (f := dm_goto 73) rfl rfl ?_
          exact j73_1 M22 hM22 x3 x4 x5 a6 ha6 x7 a23 ha23 (x3 + x5) 0 hF
  refine hx (t := cd_85) rfl (Nat.le_of_ble_eq_true rfl) (lv := [(0, .ref a1), (1, .int x2)]) rfl ?_
  refine hs (f := dm_ald 1 0) rfl rfl ?_
  refine v_geti rfl hM ha1 rfl (fun x28 _ => ?_)
  refine hs (f := dm_ild 5 1) rfl rfl ?_
  refine hs (f := dm_ii 6 (fun x y => x - y)) (st' := [.int (x28 - x2)]) rfl rfl ?_
  refine hs (f := dm_ist 7 2) (lv' := [(2, .int (x28 - x2)), (0, .ref a1), (1, .int x2)]) rfl rfl ?_
  refine hs (f := dm_ald 8 0) rfl rfl ?_
  refine hs (f := dm_ild 9 1) rfl rfl ?_
  refine v_inv rfl rfl rfl (Nat.le_of_ble_eq_true rfl) hM ha1 (w_I (by decide) (sp_84  hM ha1 x2 ) (fun x29 => ?_))
  refine hs (f := dm_ist 13 3) (lv' := [(3, .int x29), (2, .int (x28 - x2)), (0, .ref a1), (1, .int x2)]) rfl rfl ?_
  refine hs (f := dm_ild 14 1) rfl rfl ?_
  refine hs (f := dm_ist 16 4) (lv' := [(4, .int x2), (3, .int x29), (2, .int (x28 - x2)), (0, .ref a1), (1, .int x2)]) rfl rfl ?_
  exact j16_0 _ M hM x2 x29 (x28 - x2) a1 ha1 x2 rfl
theorem sp_86 {p : iv_P} {M : dm_Mem} (hM : Iv p M) {a1 : Nat} (ha1 : iv_ty a1 = some 6) (x2 : Int32) (x3 : Int32) : hT 4 86 [.ref a1, .int x2, .int x3] M (qB M) := by
  have j87_0 : ∀ (x4 : Int32) (x5 : Int32) (bx5 : isB x5) (x6 : Int32) (a7 : Nat) (ha7 : iv_ty a7 = some 6) (x8 : Int32) (x9 : Int32), hG 3 cd_86 87 [(5, .int x4), (4, .int x5), (3, .int x6), (0, .ref a7), (1, .int x8), (2, .int x9)] [] M (qB M) := by
    intro x4 x5 bx5 x6 a7 ha7 x8 x9
    refine hs (f := dm_ild 89 4) rfl rfl ?_
    exact h_retB rfl bx5 ⟨_, bx5, rfl, rfl⟩
  have j25_1 : ∀ (nn : Nat) (x10 : Int32) (x11 : Int32) (bx11 : isB x11) (x12 : Int32) (a13 : Nat) (ha13 : iv_ty a13 = some 6) (x14 : Int32) (x15 : Int32), mU x10 = nn → hG 3 cd_86 25 [(5, .int x10), (4, .int x11), (3, .int x12), (0, .ref a13), (1, .int x14), (2, .int x15)] [] M (qB M) := by
    intro nn
    induction nn using Nat.strongRecOn with
    | ind nn IHn =>
      intro x10 x11 bx11 x12 a13 ha13 x14 x15 hn
      have j79_2 : ∀ (x16 : Int32) (x17 : Int32) (bx17 : isB x17) (x18 : Int32) (a19 : Nat) (ha19 : iv_ty a19 = some 6) (x20 : Int32) (x21 : Int32) (x22 : Int32) (bx22 : isB x22), mU (x16 + 1) < nn → hG 3 cd_86 79 [(5, .int x16), (4, .int x17), (3, .int x18), (0, .ref a19), (1, .int x20), (2, .int x21)] [.int x22] M (qB M) := by
        intro x16 x17 bx17 x18 a19 ha19 x20 x21 x22 bx22 hF
        refine hs (f := dm_ist 81 4) (lv' := [(4, .int x22), (5, .int x16), (3, .int x18), (0, .ref a19), (1, .int x20), (2, .int x21)]) rfl rfl ?_
        refine hs (f := dm_iinc 84 5 1) (lv' := [(5, .int (x16 + 1)), (4, .int x22), (3, .int x18), (0, .ref a19), (1, .int x20), (2, .int x21)]) rfl rfl ?_
        refine hs (f := dm_goto 25) rfl rfl ?_
        exact IHn _ hF (x16 + 1) x22 bx22 x18 a19 ha19 x20 x21 rfl
      have j78_3 : ∀ (x23 : Int32) (x24 : Int32) (bx24 : isB x24) (x25 : Int32) (a26 : Nat) (ha26 : iv_ty a26 = some 6) (x27 : Int32) (x28 : Int32), mU (x23 + 1) < nn → hG 3 cd_86 78 [(5, .int x23), (4, .int x24), (3, .int x25), (0, .ref a26), (1, .int x27), (2, .int x28)] [] M (qB M) := by
        intro x23 x24 bx24 x25 a26 ha26 x27 x28 hF
        refine hs (f := dm_push 79 (.int 0)) rfl rfl ?_
        exact j79_2 x23 x24 bx24 x25 a26 ha26 x27 x28 0 isB_0 hF
      refine hs (f := dm_ild 27 4) rfl rfl ?_
      refine h_if_eq (n := 30) (tt := 87) rfl (fun h29 => ?_) (fun h29 => ?_)
      · skip
        exact j87_0 x10 x11 bx11 x12 a13 ha13 x14 x15
      · skip
        refine hs (f := dm_ild 32 5) rfl rfl ?_
        refine hs (f := dm_ild 33 3) rfl rfl ?_
        refine h_ic_ge (n := 36) (tt := 87) rfl (fun h30 => ?_) (fun h30 => ?_)
        · skip
          exact j87_0 x10 x11 bx11 x12 a13 ha13 x14 x15
        · skip
          have hF : mU (x10 + 1) < nn := hn ▸ mU_lt h30
          refine hs (f := dm_ald 37 0) rfl rfl ?_
          refine hs (f := dm_ild 38 1) rfl rfl ?_
          refine hs (f := dm_ild 40 5) rfl rfl ?_
          refine hs (f := dm_ii 41 (fun x y => x + y)) (st' := [.int (x14 + x10), .ref a13]) rfl rfl ?_
          refine v_inv rfl rfl rfl (Nat.le_of_ble_eq_true rfl) hM ha13 (w_I (by decide) (sp_75  hM ha13 (x14 + x10) ) (fun x31 => ?_))
          refine hs (f := dm_ald 45 0) rfl rfl ?_
          refine hs (f := dm_ild 46 2) rfl rfl ?_
          refine hs (f := dm_ild 48 5) rfl rfl ?_
          refine hs (f := dm_ii 49 (fun x y => x + y)) (st' := [.int (x15 + x10), .ref a13, .int x31]) rfl rfl ?_
          refine v_inv rfl rfl rfl (Nat.le_of_ble_eq_true rfl) hM ha13 (w_I (by decide) (sp_75  hM ha13 (x15 + x10) ) (fun x32 => ?_))
          refine h_ic_ne (n := 55) (tt := 78) rfl (fun h33 => ?_) (fun h33 => ?_)
          · skip
            exact j78_3 x10 x11 bx11 x12 a13 ha13 x14 x15 hF
          · skip
            refine hs (f := dm_ald 56 0) rfl rfl ?_
            refine hs (f := dm_ild 57 1) rfl rfl ?_
            refine hs (f := dm_ild 59 5) rfl rfl ?_
            refine hs (f := dm_ii 60 (fun x y => x + y)) (st' := [.int (x14 + x10), .ref a13]) rfl rfl ?_
            refine v_inv rfl rfl rfl (Nat.le_of_ble_eq_true rfl) hM ha13 (w_B (by decide) (sp_77  hM ha13 (x14 + x10) ) (fun x34 bx34 => ?_))
            refine hs (f := dm_ald 64 0) rfl rfl ?_
            refine hs (f := dm_ild 65 2) rfl rfl ?_
            refine hs (f := dm_ild 67 5) rfl rfl ?_
            refine hs (f := dm_ii 68 (fun x y => x + y)) (st' := [.int (x15 + x10), .ref a13, .int x34]) rfl rfl ?_
            refine v_inv rfl rfl rfl (Nat.le_of_ble_eq_true rfl) hM ha13 (w_B (by decide) (sp_77  hM ha13 (x15 + x10) ) (fun x35 bx35 => ?_))
            refine h_ic_ne (n := 74) (tt := 78) rfl (fun h36 => ?_) (fun h36 => ?_)
            · skip
              exact j78_3 x10 x11 bx11 x12 a13 ha13 x14 x15 hF
            · skip
              refine hs (f := dm_push 75 (.int 1)) rfl rfl ?_
              refine hs (f := dm_goto 79) rfl rfl ?_
              exact j79_2 x10 x11 bx11 x12 a13 ha13 x14 x15 1 isB_1 hF
  have j20_2 : ∀ (x37 : Int32) (a38 : Nat) (ha38 : iv_ty a38 = some 6) (x39 : Int32) (x40 : Int32) (x41 : Int32) (bx41 : isB x41), hG 3 cd_86 20 [(3, .int x37), (0, .ref a38), (1, .int x39), (2, .int x40)] [.int x41] M (qB M) := by
    intro x37 a38 ha38 x39 x40 x41 bx41
    refine hs (f := dm_ist 22 4) (lv' := [(4, .int x41), (3, .int x37), (0, .ref a38), (1, .int x39), (2, .int x40)]) rfl rfl ?_
    refine hs (f := dm_push 23 (.int 0)) rfl rfl ?_
    refine hs (f := dm_ist 25 5) (lv' := [(5, .int 0), (4, .int x41), (3, .int x37), (0, .ref a38), (1, .int x39), (2, .int x40)]) rfl rfl ?_
    exact j25_1 _ 0 x41 bx41 x37 a38 ha38 x39 x40 rfl
  refine hx (t := cd_86) rfl (Nat.le_of_ble_eq_true rfl) (lv := [(0, .ref a1), (1, .int x2), (2, .int x3)]) rfl ?_
  refine hs (f := dm_ald 1 0) rfl rfl ?_
  refine hs (f := dm_ild 2 1) rfl rfl ?_
  refine v_inv rfl rfl rfl (Nat.le_of_ble_eq_true rfl) hM ha1 (w_I (by decide) (sp_84  hM ha1 x2 ) (fun x42 => ?_))
  refine hs (f := dm_ist 6 3) (lv' := [(3, .int x42), (0, .ref a1), (1, .int x2), (2, .int x3)]) rfl rfl ?_
  refine hs (f := dm_ild 7 3) rfl rfl ?_
  refine hs (f := dm_ald 8 0) rfl rfl ?_
  refine hs (f := dm_ild 9 2) rfl rfl ?_
  refine v_inv rfl rfl rfl (Nat.le_of_ble_eq_true rfl) hM ha1 (w_I (by decide) (sp_84  hM ha1 x3 ) (fun x43 => ?_))
  refine h_ic_ne (n := 15) (tt := 19) rfl (fun h44 => ?_) (fun h44 => ?_)
  · skip
    refine hs (f := dm_push 20 (.int 0)) rfl rfl ?_
    exact j20_2 x42 a1 ha1 x2 x3 0 isB_0
  · skip
    refine hs (f := dm_push 16 (.int 1)) rfl rfl ?_
    refine hs (f := dm_goto 20) rfl rfl ?_
    exact j20_2 x42 a1 ha1 x2 x3 1 isB_1
theorem rk_89 {p : iv_P} {M : dm_Mem} (hM : Iv p M) (kk : Nat) : ∀ (a1 : Nat) (ha1 : iv_ty a1 = some 6) (x2 : Int32) (x3 : Int32), mR x3 = kk → hT (2 + 1 + kk) 89 [.ref a1, .int x2, .int x3] M (qI M) := by
  induction kk using Nat.strongRecOn with
  | ind kk IH =>
    intro a1 ha1 x2 x3 hk
    have j14_0 : ∀ (a4 : Nat) (ha4 : iv_ty a4 = some 6) (x5 : Int32) (x6 : Int32), mR x6 = kk → hG (2 + kk) cd_89 14 [(0, .ref a4), (1, .int x5), (2, .int x6)] [] M (qI M) := by
      intro a4 ha4 x5 x6 hk
      refine hs (f := dm_ald 15 0) rfl rfl ?_
      refine hs (f := dm_ild 16 1) rfl rfl ?_
      refine v_inv rfl rfl rfl (Nat.le_of_ble_eq_true rfl) hM ha4 (w_I (by omega) (sp_75  hM ha4 x5 ) (fun x7 => ?_))
      exact hr (f := dm_ret .int) rfl rfl ⟨_, rfl, rfl⟩
    rw [show 2 + 1 + kk = (2 + kk) + 1 by omega]
    refine hx (t := cd_89) rfl (Nat.le_of_ble_eq_true rfl) (lv := [(0, .ref a1), (1, .int x2), (2, .int x3)]) rfl ?_
    refine hs (f := dm_ald 1 0) rfl rfl ?_
    refine hs (f := dm_ild 2 1) rfl rfl ?_
    refine v_inv rfl rfl rfl (Nat.le_of_ble_eq_true rfl) hM ha1 (w_B (by omega) (sp_77  hM ha1 x2 ) (fun x8 bx8 => ?_))
    refine h_if_ne (n := 8) (tt := 14) rfl (fun h9 => ?_) (fun h9 => ?_)
    · skip
      exact j14_0 a1 ha1 x2 x3 hk
    · skip
      refine hs (f := dm_ild 9 2) rfl rfl ?_
      refine hs (f := dm_push 11 (.int 60)) rfl rfl ?_
      refine h_ic_lt (n := 14) (tt := 20) rfl (fun h10 => ?_) (fun h10 => ?_)
      · skip
        have hF : mR (x3 + 1) < kk := hk ▸ mR_lt2 h10
        refine hs (f := dm_ald 21 0) rfl rfl ?_
        refine hs (f := dm_ald 22 0) rfl rfl ?_
        refine hs (f := dm_ild 23 1) rfl rfl ?_
        refine v_inv rfl rfl rfl (Nat.le_of_ble_eq_true rfl) hM ha1 (w_I (by omega) (sp_79  hM ha1 x2 ) (fun x11 => ?_))
        refine hs (f := dm_ild 27 2) rfl rfl ?_
        refine hs (f := dm_push 28 (.int 1)) rfl rfl ?_
        refine hs (f := dm_ii 29 (fun x y => x + y)) (st' := [.int (x3 + (1 : Int32)), .int x11, .ref a1]) rfl rfl ?_
        refine hc (f := dm_ins 32 89 3) (as := [.ref a1, .int x11, .int (x3 + (1 : Int32))]) rfl rfl (w_I (by omega) (IH _ hF  a1 ha1 x11 (x3 + (1 : Int32)) rfl) (fun x12 => ?_))
        refine hs (f := dm_ist 33 3) (lv' := [(3, .int x12), (0, .ref a1), (1, .int x2), (2, .int x3)]) rfl rfl ?_
        refine hs (f := dm_ald 34 0) rfl rfl ?_
        refine hs (f := dm_ald 35 0) rfl rfl ?_
        refine hs (f := dm_ild 36 1) rfl rfl ?_
        refine v_inv rfl rfl rfl (Nat.le_of_ble_eq_true rfl) hM ha1 (w_I (by omega) (sp_80  hM ha1 x2 ) (fun x13 => ?_))
        refine hs (f := dm_ild 40 2) rfl rfl ?_
        refine hs (f := dm_push 41 (.int 1)) rfl rfl ?_
        refine hs (f := dm_ii 42 (fun x y => x + y)) (st' := [.int (x3 + (1 : Int32)), .int x13, .ref a1]) rfl rfl ?_
        refine hc (f := dm_ins 45 89 3) (as := [.ref a1, .int x13, .int (x3 + (1 : Int32))]) rfl rfl (w_I (by omega) (IH _ hF  a1 ha1 x13 (x3 + (1 : Int32)) rfl) (fun x14 => ?_))
        refine hs (f := dm_ist 47 4) (lv' := [(4, .int x14), (3, .int x12), (0, .ref a1), (1, .int x2), (2, .int x3)]) rfl rfl ?_
        refine hs (f := dm_ald 48 0) rfl rfl ?_
        refine hs (f := dm_ild 49 1) rfl rfl ?_
        refine v_inv rfl rfl rfl (Nat.le_of_ble_eq_true rfl) hM ha1 (w_I (by omega) (sp_75  hM ha1 x2 ) (fun x15 => ?_))
        refine hs (f := dm_ild 53 3) rfl rfl ?_
        refine hs (f := dm_ild 55 4) rfl rfl ?_
        refine hs (f := dm_mx 58) (st' := [.int (if x12 < x14 then x14 else x12), .int x15]) rfl rfl ?_
        refine hs (f := dm_ii 59 (fun x y => x + y)) (st' := [.int (x15 + (if x12 < x14 then x14 else x12))]) rfl rfl ?_
        exact hr (f := dm_ret .int) rfl rfl ⟨_, rfl, rfl⟩
      · skip
        exact j14_0 a1 ha1 x2 x3 hk
theorem sp_90 {p : iv_P} {M : dm_Mem} (hM : Iv p M) {a1 : Nat} (ha1 : iv_ty a1 = some 6) {a2 : Nat} (ha2 : iv_ty a2 = some 6) : hT 4 90 [.ref a1, .ref a2] M (pV p) := by
  refine hx (t := cd_90) rfl (Nat.le_of_ble_eq_true rfl) (lv := [(0, .ref a1), (1, .ref a2)]) rfl ?_
  refine hs (f := dm_ald 1 0) rfl rfl ?_
  refine hs (f := dm_ald 2 1) rfl rfl ?_
  refine v_geti rfl hM ha2 rfl (fun x3 _ => ?_)
  refine v_puti rfl hM ha1 rfl (fun M4 hM4 => ?_)
  refine hs (f := dm_ald 9 0) rfl rfl ?_
  refine v_geto rfl hM4 ha1 rfl (fun a5 ha5 => ?_)
  refine hs (f := dm_ald 13 1) rfl rfl ?_
  refine v_geto rfl hM4 ha2 rfl (fun a6 ha6 => ?_)
  refine hs (f := dm_ald 17 0) rfl rfl ?_
  refine v_geti rfl hM4 ha1 rfl (fun x7 _ => ?_)
  refine v_inv rfl rfl rfl (Nat.le_of_ble_eq_true rfl) hM4 ha5 (u_V (by decide) (sp_47  hM4 ha5 ha6 x7 ) (fun M8 hM8 => ?_))
  refine hs (f := dm_ald 24 0) rfl rfl ?_
  refine v_geto rfl hM8 ha1 rfl (fun a9 ha9 => ?_)
  refine hs (f := dm_ald 28 1) rfl rfl ?_
  refine v_geto rfl hM8 ha2 rfl (fun a10 ha10 => ?_)
  refine hs (f := dm_ald 32 0) rfl rfl ?_
  refine v_geti rfl hM8 ha1 rfl (fun x11 _ => ?_)
  refine v_inv rfl rfl rfl (Nat.le_of_ble_eq_true rfl) hM8 ha9 (u_V (by decide) (sp_47  hM8 ha9 ha10 x11 ) (fun M12 hM12 => ?_))
  exact hr (f := dm_vret) rfl rfl ⟨rfl, hM12⟩
theorem rk_91 {p : iv_P} (hp : p.2.2.1 = none) (kk : Nat) : ∀ (M : dm_Mem) (hM : Iv p M) (a1 : Nat) (ha1 : iv_ty a1 = some 6) (x2 : Int32) (a3 : Nat) (ha3 : iv_ty a3 = some 1) (x4 : Int32), mR x4 = kk → hT (4 + 1 + kk) 91 [.ref a1, .int x2, .ref a3, .int x4] M (pV p) := by
  induction kk using Nat.strongRecOn with
  | ind kk IH =>
    intro M hM a1 ha1 x2 a3 ha3 x4 hk
    have j129_0 : ∀ (M : dm_Mem) (hM : Iv p M) (x5 : Int32) (bx5 : isB x5) (x6 : Int32) (bx6 : isB x6) (a7 : Nat) (ha7 : iv_ty a7 = some 6) (x8 : Int32) (a9 : Nat) (ha9 : iv_ty a9 = some 1) (x10 : Int32), mR x10 = kk → mR (x10 + 1) < kk → hG (4 + kk) cd_91 129 [(5, .int x5), (4, .int x6), (0, .ref a7), (1, .int x8), (2, .ref a9), (3, .int x10)] [] M (pV p) := by
      intro M hM x5 bx5 x6 bx6 a7 ha7 x8 a9 ha9 x10 hk hF
      exact hr (f := dm_vret) rfl rfl ⟨rfl, hM⟩
    have j111_1 : ∀ (M : dm_Mem) (hM : Iv p M) (x11 : Int32) (bx11 : isB x11) (x12 : Int32) (bx12 : isB x12) (a13 : Nat) (ha13 : iv_ty a13 = some 6) (x14 : Int32) (a15 : Nat) (ha15 : iv_ty a15 = some 1) (x16 : Int32), mR x16 = kk → mR (x16 + 1) < kk → hG (4 + kk) cd_91 111 [(5, .int x11), (4, .int x12), (0, .ref a13), (1, .int x14), (2, .ref a15), (3, .int x16)] [] M (pV p) := by
      intro M hM x11 bx11 x12 bx12 a13 ha13 x14 a15 ha15 x16 hk hF
      refine hs (f := dm_ild 113 5) rfl rfl ?_
      refine h_if_eq (n := 116) (tt := 129) rfl (fun h17 => ?_) (fun h17 => ?_)
      · skip
        exact j129_0 M hM x11 bx11 x12 bx12 a13 ha13 x14 a15 ha15 x16 hk hF
      · skip
        refine hs (f := dm_ald 117 0) rfl rfl ?_
        refine hs (f := dm_ald 118 0) rfl rfl ?_
        refine hs (f := dm_ild 119 1) rfl rfl ?_
        refine v_inv rfl rfl rfl (Nat.le_of_ble_eq_true rfl) hM ha13 (w_I (by omega) (sp_80  hM ha13 x14 ) (fun x18 => ?_))
        refine hs (f := dm_ald 123 2) rfl rfl ?_
        refine hs (f := dm_ild 124 3) rfl rfl ?_
        refine hs (f := dm_push 125 (.int 1)) rfl rfl ?_
        refine hs (f := dm_ii 126 (fun x y => x + y)) (st' := [.int (x16 + (1 : Int32)), .ref a15, .int x18, .ref a13]) rfl rfl ?_
        refine hc (f := dm_ins 129 91 4) (as := [.ref a13, .int x18, .ref a15, .int (x16 + (1 : Int32))]) rfl rfl (u_V (by omega) (IH _ hF M hM a13 ha13 x18 a15 ha15 (x16 + (1 : Int32)) rfl) (fun M19 hM19 => ?_))
        exact j129_0 M19 hM19 x11 bx11 x12 bx12 a13 ha13 x14 a15 ha15 x16 hk hF
    have j87_2 : ∀ (M : dm_Mem) (hM : Iv p M) (x20 : Int32) (bx20 : isB x20) (x21 : Int32) (bx21 : isB x21) (a22 : Nat) (ha22 : iv_ty a22 = some 6) (x23 : Int32) (a24 : Nat) (ha24 : iv_ty a24 = some 1) (x25 : Int32) (a26 : Nat) (ha26 : iv_ty a26 = some 1) (x27 : Int32) (x28 : Int32) (bx28 : isB x28), mR x25 = kk → mR (x25 + 1) < kk → hG (4 + kk) cd_91 87 [(5, .int x20), (4, .int x21), (0, .ref a22), (1, .int x23), (2, .ref a24), (3, .int x25)] [.int x28, .int x27, .ref a26] M (pV p) := by
      intro M hM x20 bx20 x21 bx21 a22 ha22 x23 a24 ha24 x25 a26 ha26 x27 x28 bx28 hk hF
      refine hs (f := dm_ii 88 (fun x y => x + y)) (st' := [.int (x27 + x28), .ref a26]) rfl rfl ?_
      refine hs (f := dm_i1 89 (fun x => .long x.toInt64)) (st' := [.long ((x27 + x28).toInt64), .ref a26]) rfl rfl ?_
      refine hs (f := dm_push 90 (.int 2)) rfl rfl ?_
      refine v_inv rfl rfl rfl (Nat.le_of_ble_eq_true rfl) hM ha26 (u_V (by omega) (sp_8 hp hM ha26 ((x27 + x28).toInt64) 2 ) (fun M29 hM29 => ?_))
      refine hs (f := dm_ild 95 4) rfl rfl ?_
      refine h_if_eq (n := 98) (tt := 111) rfl (fun h30 => ?_) (fun h30 => ?_)
      · skip
        exact j111_1 M29 hM29 x20 bx20 x21 bx21 a22 ha22 x23 a24 ha24 x25 hk hF
      · skip
        refine hs (f := dm_ald 99 0) rfl rfl ?_
        refine hs (f := dm_ald 100 0) rfl rfl ?_
        refine hs (f := dm_ild 101 1) rfl rfl ?_
        refine v_inv rfl rfl rfl (Nat.le_of_ble_eq_true rfl) hM29 ha22 (w_I (by omega) (sp_79  hM29 ha22 x23 ) (fun x31 => ?_))
        refine hs (f := dm_ald 105 2) rfl rfl ?_
        refine hs (f := dm_ild 106 3) rfl rfl ?_
        refine hs (f := dm_push 107 (.int 1)) rfl rfl ?_
        refine hs (f := dm_ii 108 (fun x y => x + y)) (st' := [.int (x25 + (1 : Int32)), .ref a24, .int x31, .ref a22]) rfl rfl ?_
        refine hc (f := dm_ins 111 91 4) (as := [.ref a22, .int x31, .ref a24, .int (x25 + (1 : Int32))]) rfl rfl (u_V (by omega) (IH _ hF M29 hM29 a22 ha22 x31 a24 ha24 (x25 + (1 : Int32)) rfl) (fun M32 hM32 => ?_))
        exact j111_1 M32 hM32 x20 bx20 x21 bx21 a22 ha22 x23 a24 ha24 x25 hk hF
    have j77_3 : ∀ (M : dm_Mem) (hM : Iv p M) (x33 : Int32) (bx33 : isB x33) (x34 : Int32) (bx34 : isB x34) (a35 : Nat) (ha35 : iv_ty a35 = some 6) (x36 : Int32) (a37 : Nat) (ha37 : iv_ty a37 = some 1) (x38 : Int32) (a39 : Nat) (ha39 : iv_ty a39 = some 1) (x40 : Int32), mR x38 = kk → mR (x38 + 1) < kk → hG (4 + kk) cd_91 77 [(5, .int x33), (4, .int x34), (0, .ref a35), (1, .int x36), (2, .ref a37), (3, .int x38)] [.int x40, .ref a39] M (pV p) := by
      intro M hM x33 bx33 x34 bx34 a35 ha35 x36 a37 ha37 x38 a39 ha39 x40 hk hF
      refine hs (f := dm_ild 79 5) rfl rfl ?_
      refine h_if_eq (n := 82) (tt := 86) rfl (fun h41 => ?_) (fun h41 => ?_)
      · skip
        refine hs (f := dm_push 87 (.int 0)) rfl rfl ?_
        exact j87_2 M hM x33 bx33 x34 bx34 a35 ha35 x36 a37 ha37 x38 a39 ha39 x40 0 isB_0 hk hF
      · skip
        refine hs (f := dm_push 83 (.int 1)) rfl rfl ?_
        refine hs (f := dm_goto 87) rfl rfl ?_
        exact j87_2 M hM x33 bx33 x34 bx34 a35 ha35 x36 a37 ha37 x38 a39 ha39 x40 1 isB_1 hk hF
    have j64_4 : ∀ (M : dm_Mem) (hM : Iv p M) (x42 : Int32) (bx42 : isB x42) (a43 : Nat) (ha43 : iv_ty a43 = some 6) (x44 : Int32) (a45 : Nat) (ha45 : iv_ty a45 = some 1) (x46 : Int32) (x47 : Int32) (bx47 : isB x47), mR x46 = kk → mR (x46 + 1) < kk → hG (4 + kk) cd_91 64 [(4, .int x42), (0, .ref a43), (1, .int x44), (2, .ref a45), (3, .int x46)] [.int x47] M (pV p) := by
      intro M hM x42 bx42 a43 ha43 x44 a45 ha45 x46 x47 bx47 hk hF
      refine hs (f := dm_ist 66 5) (lv' := [(5, .int x47), (4, .int x42), (0, .ref a43), (1, .int x44), (2, .ref a45), (3, .int x46)]) rfl rfl ?_
      refine hs (f := dm_ald 67 2) rfl rfl ?_
      refine hs (f := dm_ild 69 4) rfl rfl ?_
      refine h_if_eq (n := 72) (tt := 76) rfl (fun h48 => ?_) (fun h48 => ?_)
      · skip
        refine hs (f := dm_push 77 (.int 0)) rfl rfl ?_
        exact j77_3 M hM x47 bx47 x42 bx42 a43 ha43 x44 a45 ha45 x46 a45 ha45 0 hk hF
      · skip
        refine hs (f := dm_push 73 (.int 2)) rfl rfl ?_
        refine hs (f := dm_goto 77) rfl rfl ?_
        exact j77_3 M hM x47 bx47 x42 bx42 a43 ha43 x44 a45 ha45 x46 a45 ha45 2 hk hF
    have j44_5 : ∀ (M : dm_Mem) (hM : Iv p M) (a49 : Nat) (ha49 : iv_ty a49 = some 6) (x50 : Int32) (a51 : Nat) (ha51 : iv_ty a51 = some 1) (x52 : Int32) (x53 : Int32) (bx53 : isB x53), mR x52 = kk → mR (x52 + 1) < kk → hG (4 + kk) cd_91 44 [(0, .ref a49), (1, .int x50), (2, .ref a51), (3, .int x52)] [.int x53] M (pV p) := by
      intro M hM a49 ha49 x50 a51 ha51 x52 x53 bx53 hk hF
      refine hs (f := dm_ist 46 4) (lv' := [(4, .int x53), (0, .ref a49), (1, .int x50), (2, .ref a51), (3, .int x52)]) rfl rfl ?_
      refine hs (f := dm_ald 47 0) rfl rfl ?_
      refine hs (f := dm_ald 48 0) rfl rfl ?_
      refine hs (f := dm_ild 49 1) rfl rfl ?_
      refine v_inv rfl rfl rfl (Nat.le_of_ble_eq_true rfl) hM ha49 (w_I (by omega) (sp_80  hM ha49 x50 ) (fun x54 => ?_))
      refine hs (f := dm_push 53 (.int 0)) rfl rfl ?_
      refine v_inv rfl rfl rfl (Nat.le_of_ble_eq_true rfl) hM ha49 (w_B (by omega) (sp_78  hM ha49 x54 0 ) (fun x55 bx55 => ?_))
      refine h_if_ne (n := 59) (tt := 63) rfl (fun h56 => ?_) (fun h56 => ?_)
      · skip
        refine hs (f := dm_push 64 (.int 0)) rfl rfl ?_
        exact j64_4 M hM x53 bx53 a49 ha49 x50 a51 ha51 x52 0 isB_0 hk hF
      · skip
        refine hs (f := dm_push 60 (.int 1)) rfl rfl ?_
        refine hs (f := dm_goto 64) rfl rfl ?_
        exact j64_4 M hM x53 bx53 a49 ha49 x50 a51 ha51 x52 1 isB_1 hk hF
    have j14_6 : ∀ (M : dm_Mem) (hM : Iv p M) (a57 : Nat) (ha57 : iv_ty a57 = some 6) (x58 : Int32) (a59 : Nat) (ha59 : iv_ty a59 = some 1) (x60 : Int32), mR x60 = kk → hG (4 + kk) cd_91 14 [(0, .ref a57), (1, .int x58), (2, .ref a59), (3, .int x60)] [] M (pV p) := by
      intro M hM a57 ha57 x58 a59 ha59 x60 hk
      refine hs (f := dm_ald 15 2) rfl rfl ?_
      refine hs (f := dm_ald 16 0) rfl rfl ?_
      refine hs (f := dm_ild 17 1) rfl rfl ?_
      refine v_inv rfl rfl rfl (Nat.le_of_ble_eq_true rfl) hM ha57 (w_I (by omega) (sp_75  hM ha57 x58 ) (fun x61 => ?_))
      refine hs (f := dm_i1 21 (fun x => .long x.toInt64)) (st' := [.long (x61.toInt64), .ref a59]) rfl rfl ?_
      refine hs (f := dm_push 22 (.int 3)) rfl rfl ?_
      refine v_inv rfl rfl rfl (Nat.le_of_ble_eq_true rfl) hM ha59 (u_V (by omega) (sp_8 hp hM ha59 (x61.toInt64) 3 ) (fun M62 hM62 => ?_))
      exact hr (f := dm_vret) rfl rfl ⟨rfl, hM62⟩
    rw [show 4 + 1 + kk = (4 + kk) + 1 by omega]
    refine hx (t := cd_91) rfl (Nat.le_of_ble_eq_true rfl) (lv := [(0, .ref a1), (1, .int x2), (2, .ref a3), (3, .int x4)]) rfl ?_
    refine hs (f := dm_ald 1 0) rfl rfl ?_
    refine hs (f := dm_ild 2 1) rfl rfl ?_
    refine v_inv rfl rfl rfl (Nat.le_of_ble_eq_true rfl) hM ha1 (w_B (by omega) (sp_77  hM ha1 x2 ) (fun x63 bx63 => ?_))
    refine h_if_ne (n := 8) (tt := 14) rfl (fun h64 => ?_) (fun h64 => ?_)
    · skip
      exact j14_6 M hM a1 ha1 x2 a3 ha3 x4 hk
    · skip
      refine hs (f := dm_ild 9 3) rfl rfl ?_
      refine hs (f := dm_push 11 (.int 60)) rfl rfl ?_
      refine h_ic_lt (n := 14) (tt := 26) rfl (fun h65 => ?_) (fun h65 => ?_)
      · skip
        have hF : mR (x4 + 1) < kk := hk ▸ mR_lt2 h65
        refine hs (f := dm_ald 27 0) rfl rfl ?_
        refine hs (f := dm_ald 28 0) rfl rfl ?_
        refine hs (f := dm_ild 29 1) rfl rfl ?_
        refine v_inv rfl rfl rfl (Nat.le_of_ble_eq_true rfl) hM ha1 (w_I (by omega) (sp_79  hM ha1 x2 ) (fun x66 => ?_))
        refine hs (f := dm_push 33 (.int 0)) rfl rfl ?_
        refine v_inv rfl rfl rfl (Nat.le_of_ble_eq_true rfl) hM ha1 (w_B (by omega) (sp_78  hM ha1 x66 0 ) (fun x67 bx67 => ?_))
        refine h_if_ne (n := 39) (tt := 43) rfl (fun h68 => ?_) (fun h68 => ?_)
        · skip
          refine hs (f := dm_push 44 (.int 0)) rfl rfl ?_
          exact j44_5 M hM a1 ha1 x2 a3 ha3 x4 0 isB_0 hk hF
        · skip
          refine hs (f := dm_push 40 (.int 1)) rfl rfl ?_
          refine hs (f := dm_goto 44) rfl rfl ?_
          exact j44_5 M hM a1 ha1 x2 a3 ha3 x4 1 isB_1 hk hF
      · skip
        exact j14_6 M hM a1 ha1 x2 a3 ha3 x4 hk
theorem sp_93 {p : iv_P} (hp : p.2.2.1 = none) {M : dm_Mem} (hM : Iv p M) (x1 : Int32) {a2 : Nat} (ha2 : iv_ty a2 = some 1) : hT 5 93 [.int x1, .ref a2] M (pV p) := by
  have j35_0 : ∀ (M : dm_Mem) (hM : Iv p M) (x3 : Int32) (x4 : Int32) (x5 : Int32) (a6 : Nat) (ha6 : iv_ty a6 = some 1), hG 4 cd_93 35 [(3, .int x3), (2, .int x4), (0, .int x5), (1, .ref a6)] [] M (pV p) := by
    intro M hM x3 x4 x5 a6 ha6
    refine hs (f := dm_ald 36 1) rfl rfl ?_
    refine hs (f := dm_push 37 (.long 0)) rfl rfl ?_
    refine hs (f := dm_push 38 (.int 1)) rfl rfl ?_
    refine v_inv rfl rfl rfl (Nat.le_of_ble_eq_true rfl) hM ha6 (u_V (by decide) (sp_8 hp hM ha6 0 1 ) (fun M7 hM7 => ?_))
    refine hs (f := dm_ald 42 1) rfl rfl ?_
    refine hs (f := dm_ild 43 2) rfl rfl ?_
    refine hs (f := dm_i1 44 (fun x => .long x.toInt64)) (st' := [.long (x4.toInt64), .ref a6]) rfl rfl ?_
    refine hs (f := dm_ild 45 3) rfl rfl ?_
    refine v_inv rfl rfl rfl (Nat.le_of_ble_eq_true rfl) hM7 ha6 (u_V (by decide) (sp_8 hp hM7 ha6 (x4.toInt64) x3 ) (fun M8 hM8 => ?_))
    exact hr (f := dm_vret) rfl rfl ⟨rfl, hM8⟩
  have j4_1 : ∀ (nn : Nat) (M : dm_Mem) (hM : Iv p M) (x9 : Int32) (x10 : Int32) (x11 : Int32) (a12 : Nat) (ha12 : iv_ty a12 = some 1), mU x9 = nn → hG 4 cd_93 4 [(3, .int x9), (2, .int x10), (0, .int x11), (1, .ref a12)] [] M (pV p) := by
    intro nn
    induction nn using Nat.strongRecOn with
    | ind nn IHn =>
      intro M hM x9 x10 x11 a12 ha12 hn
      refine hs (f := dm_ild 5 3) rfl rfl ?_
      refine hs (f := dm_push 7 (.int 30)) rfl rfl ?_
      refine h_ic_ge (n := 10) (tt := 35) rfl (fun h13 => ?_) (fun h13 => ?_)
      · skip
        exact j35_0 M hM x9 x10 x11 a12 ha12
      · skip
        have hF : mU (x9 + 1) < nn := hn ▸ mU_lt h13
        refine hs (f := dm_ild 11 2) rfl rfl ?_
        refine hs (f := dm_push 12 (.int 1)) rfl rfl ?_
        refine hs (f := dm_ild 13 3) rfl rfl ?_
        refine hs (f := dm_ii 14 (fun x y => x <<< (y &&& 31))) (st' := [.int ((1 : Int32) <<< (x9 &&& 31)), .int x10]) rfl rfl ?_
        refine h_ic_lt (n := 17) (tt := 35) rfl (fun h14 => ?_) (fun h14 => ?_)
        · skip
          exact j35_0 M hM x9 x10 x11 a12 ha12
        · skip
          refine hs (f := dm_ald 18 1) rfl rfl ?_
          refine hs (f := dm_push 19 (.long 1)) rfl rfl ?_
          refine hs (f := dm_push 20 (.int 1)) rfl rfl ?_
          refine v_inv rfl rfl rfl (Nat.le_of_ble_eq_true rfl) hM ha12 (u_V (by decide) (sp_8 hp hM ha12 1 1 ) (fun M15 hM15 => ?_))
          refine hs (f := dm_ild 24 2) rfl rfl ?_
          refine hs (f := dm_push 25 (.int 1)) rfl rfl ?_
          refine hs (f := dm_ild 26 3) rfl rfl ?_
          refine hs (f := dm_ii 27 (fun x y => x <<< (y &&& 31))) (st' := [.int ((1 : Int32) <<< (x9 &&& 31)), .int x10]) rfl rfl ?_
          refine hs (f := dm_ii 28 (fun x y => x - y)) (st' := [.int (x10 - ((1 : Int32) <<< (x9 &&& 31)))]) rfl rfl ?_
          refine hs (f := dm_ist 29 2) (lv' := [(2, .int (x10 - ((1 : Int32) <<< (x9 &&& 31)))), (3, .int x9), (0, .int x11), (1, .ref a12)]) rfl rfl ?_
          refine hs (f := dm_iinc 32 3 1) (lv' := [(3, .int (x9 + 1)), (2, .int (x10 - ((1 : Int32) <<< (x9 &&& 31)))), (0, .int x11), (1, .ref a12)]) rfl rfl ?_
          refine hs (f := dm_goto 4) rfl rfl ?_
          exact IHn _ hF M15 hM15 (x9 + 1) (x10 - ((1 : Int32) <<< (x9 &&& 31))) x11 a12 ha12 rfl
  refine hx (t := cd_93) rfl (Nat.le_of_ble_eq_true rfl) (lv := [(0, .int x1), (1, .ref a2)]) rfl ?_
  refine hs (f := dm_ild 1 0) rfl rfl ?_
  refine hs (f := dm_ist 2 2) (lv' := [(2, .int x1), (0, .int x1), (1, .ref a2)]) rfl rfl ?_
  refine hs (f := dm_push 3 (.int 2)) rfl rfl ?_
  refine hs (f := dm_ist 4 3) (lv' := [(3, .int 2), (2, .int x1), (0, .int x1), (1, .ref a2)]) rfl rfl ?_
  exact j4_1 _ M hM 2 x1 x1 a2 ha2 rfl
theorem sp_112 {p : iv_P} {M : dm_Mem} (hM : Iv p M) {a1 : Nat} (ha1 : iv_ty a1 = some 7) : hT 1 112 [.ref a1] M (qJ M) := by
  refine hx (t := cd_112) rfl (Nat.le_of_ble_eq_true rfl) (lv := [(0, .ref a1)]) rfl ?_
  refine hs (f := dm_ald 1 0) rfl rfl ?_
  refine v_getj rfl hM ha1 rfl (fun x2 _ => ?_)
  exact hr (f := dm_lret) rfl rfl ⟨_, rfl, rfl⟩
theorem sp_113 {p : iv_P} {M : dm_Mem} (hM : Iv p M) {a1 : Nat} (ha1 : iv_ty a1 = some 7) : hT 1 113 [.ref a1] M (qI M) := by
  refine hx (t := cd_113) rfl (Nat.le_of_ble_eq_true rfl) (lv := [(0, .ref a1)]) rfl ?_
  refine hs (f := dm_ald 1 0) rfl rfl ?_
  refine v_geti rfl hM ha1 rfl (fun x2 _ => ?_)
  exact hr (f := dm_ret .int) rfl rfl ⟨_, rfl, rfl⟩
theorem sp_116 {p : iv_P} {M : dm_Mem} (hM : Iv p M) {a1 : Nat} (ha1 : iv_ty a1 = some 7) (x2 : Int32) : hT 3 116 [.ref a1, .int x2] M (qI M) := by
  refine hx (t := cd_116) rfl (Nat.le_of_ble_eq_true rfl) (lv := [(0, .ref a1), (1, .int x2)]) rfl ?_
  refine hs (f := dm_ald 1 0) rfl rfl ?_
  refine v_geto rfl hM ha1 rfl (fun a3 ha3 => ?_)
  refine hs (f := dm_ild 5 1) rfl rfl ?_
  refine v_inv rfl rfl rfl (Nat.le_of_ble_eq_true rfl) hM ha3 (w_I (by decide) (sp_7  hM ha3 x2 ) (fun x4 => ?_))
  exact hr (f := dm_ret .int) rfl rfl ⟨_, rfl, rfl⟩
theorem sp_117 {p : iv_P} (hp : p.2.2.1 = none) {M : dm_Mem} (hM : Iv p M) {a1 : Nat} (ha1 : iv_ty a1 = some 7) (x2 : Int64) (x3 : Int32) : hT 5 117 [.ref a1, .long x2, .int x3] M (pI p) := by
  have j25_0 : ∀ (M : dm_Mem) (hM : Iv p M) (a4 : Nat) (ha4 : iv_ty a4 = some 7) (x5 : Int64) (x6 : Int32), hG 4 cd_117 25 [(0, .ref a4), (1, .long x5), (3, .int x6)] [] M (pI p) := by
    intro M hM a4 ha4 x5 x6
    refine hs (f := dm_push 26 (.int (-1))) rfl rfl ?_
    exact hr (f := dm_ret .int) rfl rfl ⟨_, rfl, hM⟩
  refine hx (t := cd_117) rfl (Nat.le_of_ble_eq_true rfl) (lv := [(0, .ref a1), (1, .long x2), (3, .int x3)]) rfl ?_
  refine hs (f := dm_ild 1 3) rfl rfl ?_
  refine h_if_lt (n := 4) (tt := 25) rfl (fun h7 => ?_) (fun h7 => ?_)
  · skip
    exact j25_0 M hM a1 ha1 x2 x3
  · skip
    refine hs (f := dm_ild 5 3) rfl rfl ?_
    refine hs (f := dm_push 7 (.int 64)) rfl rfl ?_
    refine h_ic_gt (n := 10) (tt := 25) rfl (fun h8 => ?_) (fun h8 => ?_)
    · skip
      exact j25_0 M hM a1 ha1 x2 x3
    · skip
      refine hs (f := dm_ald 11 0) rfl rfl ?_
      refine v_geto rfl hM ha1 rfl (fun a9 ha9 => ?_)
      refine v_inv rfl rfl rfl (Nat.le_of_ble_eq_true rfl) hM ha9 (w_I (by decide) (sp_6  hM ha9 ) (fun x10 => ?_))
      refine hs (f := dm_ild 18 3) rfl rfl ?_
      refine hs (f := dm_ii 19 (fun x y => x + y)) (st' := [.int (x10 + x3)]) rfl rfl ?_
      refine hs (f := dm_push 22 (.int 600)) rfl rfl ?_
      refine h_ic_le (n := 25) (tt := 27) rfl (fun h11 => ?_) (fun h11 => ?_)
      · skip
        refine hs (f := dm_ald 28 0) rfl rfl ?_
        refine v_geto rfl hM ha1 rfl (fun a12 ha12 => ?_)
        refine hs (f := dm_lld 32 1) rfl rfl ?_
        refine hs (f := dm_ild 33 3) rfl rfl ?_
        refine v_inv rfl rfl rfl (Nat.le_of_ble_eq_true rfl) hM ha12 (u_V (by decide) (sp_8 hp hM ha12 x2 x3 ) (fun M13 hM13 => ?_))
        refine hs (f := dm_ald 37 0) rfl rfl ?_
        refine v_geto rfl hM13 ha1 rfl (fun a14 ha14 => ?_)
        refine v_inv rfl rfl rfl (Nat.le_of_ble_eq_true rfl) hM13 ha14 (w_I (by decide) (sp_6  hM13 ha14 ) (fun x15 => ?_))
        exact hr (f := dm_ret .int) rfl rfl ⟨_, rfl, hM13⟩
      · skip
        exact j25_0 M hM a1 ha1 x2 x3
theorem sp_118 {p : iv_P} (hp : p.2.2.1 = none) {M : dm_Mem} (hM : Iv p M) {a1 : Nat} (ha1 : iv_ty a1 = some 7) (x2 : Int32) : hT 2 118 [.ref a1, .int x2] M (pB p) := by
  refine hx (t := cd_118) rfl (Nat.le_of_ble_eq_true rfl) (lv := [(0, .ref a1), (1, .int x2)]) rfl ?_
  refine hs (f := dm_ald 1 0) rfl rfl ?_
  refine v_geto rfl hM ha1 rfl (fun a3 ha3 => ?_)
  refine hs (f := dm_ild 5 1) rfl rfl ?_
  refine v_inv rfl rfl rfl (Nat.le_of_ble_eq_true rfl) hM ha3 (u_B (by decide) (sp_9 hp hM ha3 x2 ) (fun x4 bx4 M5 hM5 => ?_))
  exact h_retB rfl bx4 ⟨_, bx4, rfl, hM5⟩
theorem sp_120 {p : iv_P} {M : dm_Mem} (hM : Iv p M) {a1 : Nat} (ha1 : iv_ty a1 = some 7) : hT 1 120 [.ref a1] M (qI M) := by
  refine hx (t := cd_120) rfl (Nat.le_of_ble_eq_true rfl) (lv := [(0, .ref a1)]) rfl ?_
  refine hs (f := dm_ald 1 0) rfl rfl ?_
  refine v_geti rfl hM ha1 rfl (fun x2 _ => ?_)
  exact hr (f := dm_ret .int) rfl rfl ⟨_, rfl, rfl⟩
theorem sp_126 {p : iv_P} {M : dm_Mem} (hM : Iv p M) {a1 : Nat} (ha1 : iv_ty a1 = some 7) (x2 : Int32) (x3 : Int32) : hT 4 126 [.ref a1, .int x2, .int x3] M (qB M) := by
  have j32_0 : ∀ (a4 : Nat) (ha4 : iv_ty a4 = some 7) (x5 : Int32) (x6 : Int32) (x7 : Int32) (bx7 : isB x7), hG 3 cd_126 32 [(0, .ref a4), (1, .int x5), (2, .int x6)] [.int x7] M (qB M) := by
    intro a4 ha4 x5 x6 x7 bx7
    exact h_retB rfl bx7 ⟨_, bx7, rfl, rfl⟩
  have j31_1 : ∀ (a8 : Nat) (ha8 : iv_ty a8 = some 7) (x9 : Int32) (x10 : Int32), hG 3 cd_126 31 [(0, .ref a8), (1, .int x9), (2, .int x10)] [] M (qB M) := by
    intro a8 ha8 x9 x10
    refine hs (f := dm_push 32 (.int 0)) rfl rfl ?_
    exact j32_0 a8 ha8 x9 x10 0 isB_0
  refine hx (t := cd_126) rfl (Nat.le_of_ble_eq_true rfl) (lv := [(0, .ref a1), (1, .int x2), (2, .int x3)]) rfl ?_
  refine hs (f := dm_ild 1 1) rfl rfl ?_
  refine hs (f := dm_ild 2 2) rfl rfl ?_
  refine h_ic_eq (n := 5) (tt := 31) rfl (fun h11 => ?_) (fun h11 => ?_)
  · skip
    exact j31_1 a1 ha1 x2 x3
  · skip
    refine hs (f := dm_ald 6 0) rfl rfl ?_
    refine v_geto rfl hM ha1 rfl (fun a12 ha12 => ?_)
    refine hs (f := dm_ild 10 1) rfl rfl ?_
    refine v_inv rfl rfl rfl (Nat.le_of_ble_eq_true rfl) hM ha12 (w_B (by decide) (sp_26  hM ha12 x2 ) (fun x13 bx13 => ?_))
    refine h_if_eq (n := 16) (tt := 31) rfl (fun h14 => ?_) (fun h14 => ?_)
    · skip
      exact j31_1 a1 ha1 x2 x3
    · skip
      refine hs (f := dm_ald 17 0) rfl rfl ?_
      refine v_geto rfl hM ha1 rfl (fun a15 ha15 => ?_)
      refine hs (f := dm_ild 21 2) rfl rfl ?_
      refine v_inv rfl rfl rfl (Nat.le_of_ble_eq_true rfl) hM ha15 (w_B (by decide) (sp_26  hM ha15 x3 ) (fun x16 bx16 => ?_))
      refine h_if_eq (n := 27) (tt := 31) rfl (fun h17 => ?_) (fun h17 => ?_)
      · skip
        exact j31_1 a1 ha1 x2 x3
      · skip
        refine hs (f := dm_push 28 (.int 1)) rfl rfl ?_
        refine hs (f := dm_goto 32) rfl rfl ?_
        exact j32_0 a1 ha1 x2 x3 1 isB_1
theorem sp_3 {p : iv_P} {M : dm_Mem} (hM : Iv p M) {a1 : Nat} (ha1 : iv_ty a1 = some 0) {a2 : Nat} (ha2 : iv_ty a2 = some 2) (x3 : Int32) (x4 : Int32) (x5 : Int32) : hT 4 3 [.ref a1, .ref a2, .int x3, .int x4, .int x5] M (pV p) := by
  refine hx (t := cd_3) rfl (Nat.le_of_ble_eq_true rfl) (lv := [(0, .ref a1), (1, .ref a2), (2, .int x3), (3, .int x4), (4, .int x5)]) rfl ?_
  refine hs (f := dm_ald 1 0) rfl rfl ?_
  refine v_geto rfl hM ha1 rfl (fun a6 ha6 => ?_)
  refine hs (f := dm_ald 5 0) rfl rfl ?_
  refine v_geti rfl hM ha1 rfl (fun x7 _ => ?_)
  refine hs (f := dm_ild 9 2) rfl rfl ?_
  refine v_inv rfl rfl rfl (Nat.le_of_ble_eq_true rfl) hM ha6 (u_V (by decide) (sp_46  hM ha6 x7 x3 ) (fun M8 hM8 => ?_))
  refine hs (f := dm_ald 13 0) rfl rfl ?_
  refine v_geto rfl hM8 ha1 rfl (fun a9 ha9 => ?_)
  refine hs (f := dm_ald 17 0) rfl rfl ?_
  refine v_geti rfl hM8 ha1 rfl (fun x10 _ => ?_)
  refine hs (f := dm_ild 21 3) rfl rfl ?_
  refine v_inv rfl rfl rfl (Nat.le_of_ble_eq_true rfl) hM8 ha9 (u_V (by decide) (sp_46  hM8 ha9 x10 x4 ) (fun M11 hM11 => ?_))
  refine hs (f := dm_ald 25 0) rfl rfl ?_
  refine v_geto rfl hM11 ha1 rfl (fun a12 ha12 => ?_)
  refine hs (f := dm_ald 29 0) rfl rfl ?_
  refine v_geti rfl hM11 ha1 rfl (fun x13 _ => ?_)
  refine hs (f := dm_ald 33 1) rfl rfl ?_
  refine hs (f := dm_ild 34 3) rfl rfl ?_
  refine v_inv rfl rfl rfl (Nat.le_of_ble_eq_true rfl) hM11 ha2 (w_I (by decide) (sp_23  hM11 ha2 x4 ) (fun x14 => ?_))
  refine v_inv rfl rfl rfl (Nat.le_of_ble_eq_true rfl) hM11 ha12 (u_V (by decide) (sp_46  hM11 ha12 x13 x14 ) (fun M15 hM15 => ?_))
  refine hs (f := dm_ald 41 0) rfl rfl ?_
  refine v_geto rfl hM15 ha1 rfl (fun a16 ha16 => ?_)
  refine hs (f := dm_ald 45 0) rfl rfl ?_
  refine v_geti rfl hM15 ha1 rfl (fun x17 _ => ?_)
  refine hs (f := dm_ild 50 4) rfl rfl ?_
  refine v_inv rfl rfl rfl (Nat.le_of_ble_eq_true rfl) hM15 ha16 (u_V (by decide) (sp_46  hM15 ha16 x17 x5 ) (fun M18 hM18 => ?_))
  refine hs (f := dm_ald 54 0) rfl rfl ?_
  refine v_geto rfl hM18 ha1 rfl (fun a19 ha19 => ?_)
  refine hs (f := dm_ald 58 0) rfl rfl ?_
  refine v_geti rfl hM18 ha1 rfl (fun x20 _ => ?_)
  refine hs (f := dm_ald 62 1) rfl rfl ?_
  refine hs (f := dm_ild 64 4) rfl rfl ?_
  refine v_inv rfl rfl rfl (Nat.le_of_ble_eq_true rfl) hM18 ha2 (w_I (by decide) (sp_23  hM18 ha2 x5 ) (fun x21 => ?_))
  refine v_inv rfl rfl rfl (Nat.le_of_ble_eq_true rfl) hM18 ha19 (u_V (by decide) (sp_46  hM18 ha19 x20 x21 ) (fun M22 hM22 => ?_))
  refine hs (f := dm_ald 71 0) rfl rfl ?_
  refine hs (f := dm_dup 72) (st' := [.ref a1, .ref a1]) rfl rfl ?_
  refine v_geti rfl hM22 ha1 rfl (fun x23 _ => ?_)
  refine hs (f := dm_push 76 (.int 1)) rfl rfl ?_
  refine hs (f := dm_ii 77 (fun x y => x + y)) (st' := [.int (x23 + (1 : Int32)), .ref a1]) rfl rfl ?_
  refine v_puti rfl hM22 ha1 rfl (fun M24 hM24 => ?_)
  exact hr (f := dm_vret) rfl rfl ⟨rfl, hM24⟩
theorem sp_15 {p : iv_P} {M : dm_Mem} (hM : Iv p M) {a1 : Nat} (ha1 : iv_ty a1 = some 2) (x2 : Int32) (x3 : Int32) (x4 : Int32) (x5 : Int32) (x6 : Int32) : hT 4 15 [.ref a1, .int x2, .int x3, .int x4, .int x5, .int x6] M (pI p) := by
  have j42_0 : ∀ (M : dm_Mem) (hM : Iv p M) (x7 : Int32) (a8 : Nat) (ha8 : iv_ty a8 = some 2) (x9 : Int32) (x10 : Int32) (x11 : Int32) (x12 : Int32) (x13 : Int32), hG 3 cd_15 42 [(6, .int x7), (0, .ref a8), (1, .int x9), (2, .int x10), (3, .int x11), (4, .int x12), (5, .int x13)] [] M (pI p) := by
    intro M hM x7 a8 ha8 x9 x10 x11 x12 x13
    refine hs (f := dm_push 43 (.int (-1))) rfl rfl ?_
    exact hr (f := dm_ret .int) rfl rfl ⟨_, rfl, hM⟩
  refine hx (t := cd_15) rfl (Nat.le_of_ble_eq_true rfl) (lv := [(0, .ref a1), (1, .int x2), (2, .int x3), (3, .int x4), (4, .int x5), (5, .int x6)]) rfl ?_
  refine hs (f := dm_ald 1 0) rfl rfl ?_
  refine v_inv rfl rfl rfl (Nat.le_of_ble_eq_true rfl) hM ha1 (w_I (by decide) (sp_14  hM ha1 ) (fun x14 => ?_))
  refine hs (f := dm_ald 5 0) rfl rfl ?_
  refine v_geto rfl hM ha1 rfl (fun a15 ha15 => ?_)
  refine hs (f := dm_ild 9 1) rfl rfl ?_
  refine v_inv rfl rfl rfl (Nat.le_of_ble_eq_true rfl) hM ha15 (w_I (by decide) (sp_84  hM ha15 x2 ) (fun x16 => ?_))
  refine hs (f := dm_ii 13 (fun x y => x + y)) (st' := [.int (x14 + x16)]) rfl rfl ?_
  refine hs (f := dm_ald 14 0) rfl rfl ?_
  refine v_geto rfl hM ha1 rfl (fun a17 ha17 => ?_)
  refine hs (f := dm_ild 18 2) rfl rfl ?_
  refine v_inv rfl rfl rfl (Nat.le_of_ble_eq_true rfl) hM ha17 (w_I (by decide) (sp_84  hM ha17 x3 ) (fun x18 => ?_))
  refine hs (f := dm_ii 22 (fun x y => x + y)) (st' := [.int ((x14 + x16) + x18)]) rfl rfl ?_
  refine hs (f := dm_ist 24 6) (lv' := [(6, .int ((x14 + x16) + x18)), (0, .ref a1), (1, .int x2), (2, .int x3), (3, .int x4), (4, .int x5), (5, .int x6)]) rfl rfl ?_
  refine hs (f := dm_ald 25 0) rfl rfl ?_
  refine v_geti rfl hM ha1 rfl (fun x19 _ => ?_)
  refine hs (f := dm_push 31 (.int 1000)) rfl rfl ?_
  refine h_ic_ge (n := 34) (tt := 42) rfl (fun h20 => ?_) (fun h20 => ?_)
  · skip
    exact j42_0 M hM ((x14 + x16) + x18) a1 ha1 x2 x3 x4 x5 x6
  · skip
    refine hs (f := dm_ild 36 6) rfl rfl ?_
    refine hs (f := dm_push 39 (.int 20000)) rfl rfl ?_
    refine h_ic_le (n := 42) (tt := 44) rfl (fun h21 => ?_) (fun h21 => ?_)
    · skip
      refine hs (f := dm_ald 45 0) rfl rfl ?_
      refine v_geto rfl hM ha1 rfl (fun a22 ha22 => ?_)
      refine hs (f := dm_ald 49 0) rfl rfl ?_
      refine v_geti rfl hM ha1 rfl (fun x23 _ => ?_)
      refine hs (f := dm_ild 53 1) rfl rfl ?_
      refine v_inv rfl rfl rfl (Nat.le_of_ble_eq_true rfl) hM ha22 (u_V (by decide) (sp_46  hM ha22 x23 x2 ) (fun M24 hM24 => ?_))
      refine hs (f := dm_ald 57 0) rfl rfl ?_
      refine v_geto rfl hM24 ha1 rfl (fun a25 ha25 => ?_)
      refine hs (f := dm_ald 61 0) rfl rfl ?_
      refine v_geti rfl hM24 ha1 rfl (fun x26 _ => ?_)
      refine hs (f := dm_ild 65 2) rfl rfl ?_
      refine v_inv rfl rfl rfl (Nat.le_of_ble_eq_true rfl) hM24 ha25 (u_V (by decide) (sp_46  hM24 ha25 x26 x3 ) (fun M27 hM27 => ?_))
      refine hs (f := dm_ald 69 0) rfl rfl ?_
      refine v_geto rfl hM27 ha1 rfl (fun a28 ha28 => ?_)
      refine hs (f := dm_ald 73 0) rfl rfl ?_
      refine v_geti rfl hM27 ha1 rfl (fun x29 _ => ?_)
      refine hs (f := dm_ild 77 3) rfl rfl ?_
      refine v_inv rfl rfl rfl (Nat.le_of_ble_eq_true rfl) hM27 ha28 (u_V (by decide) (sp_46  hM27 ha28 x29 x4 ) (fun M30 hM30 => ?_))
      refine hs (f := dm_ald 81 0) rfl rfl ?_
      refine v_geto rfl hM30 ha1 rfl (fun a31 ha31 => ?_)
      refine hs (f := dm_ald 85 0) rfl rfl ?_
      refine v_geti rfl hM30 ha1 rfl (fun x32 _ => ?_)
      refine hs (f := dm_ild 90 4) rfl rfl ?_
      refine v_inv rfl rfl rfl (Nat.le_of_ble_eq_true rfl) hM30 ha31 (u_V (by decide) (sp_46  hM30 ha31 x32 x5 ) (fun M33 hM33 => ?_))
      refine hs (f := dm_ald 94 0) rfl rfl ?_
      refine v_geto rfl hM33 ha1 rfl (fun a34 ha34 => ?_)
      refine hs (f := dm_ald 98 0) rfl rfl ?_
      refine v_geti rfl hM33 ha1 rfl (fun x35 _ => ?_)
      refine hs (f := dm_ild 103 5) rfl rfl ?_
      refine v_inv rfl rfl rfl (Nat.le_of_ble_eq_true rfl) hM33 ha34 (u_V (by decide) (sp_46  hM33 ha34 x35 x6 ) (fun M36 hM36 => ?_))
      refine hs (f := dm_ald 107 0) rfl rfl ?_
      refine v_geto rfl hM36 ha1 rfl (fun a37 ha37 => ?_)
      refine hs (f := dm_ald 111 0) rfl rfl ?_
      refine v_geti rfl hM36 ha1 rfl (fun x38 _ => ?_)
      refine hs (f := dm_push 115 (.int 1)) rfl rfl ?_
      refine v_inv rfl rfl rfl (Nat.le_of_ble_eq_true rfl) hM36 ha37 (u_V (by decide) (sp_46  hM36 ha37 x38 1 ) (fun M39 hM39 => ?_))
      refine hs (f := dm_ald 119 0) rfl rfl ?_
      refine v_geto rfl hM39 ha1 rfl (fun a40 ha40 => ?_)
      refine hs (f := dm_ald 123 0) rfl rfl ?_
      refine v_geti rfl hM39 ha1 rfl (fun x41 _ => ?_)
      refine hs (f := dm_ild 128 6) rfl rfl ?_
      refine v_inv rfl rfl rfl (Nat.le_of_ble_eq_true rfl) hM39 ha40 (u_V (by decide) (sp_46  hM39 ha40 x41 ((x14 + x16) + x18) ) (fun M42 hM42 => ?_))
      refine hs (f := dm_ald 132 0) rfl rfl ?_
      refine v_geto rfl hM42 ha1 rfl (fun a43 ha43 => ?_)
      refine hs (f := dm_ald 136 0) rfl rfl ?_
      refine v_geti rfl hM42 ha1 rfl (fun x44 _ => ?_)
      refine hs (f := dm_ald 140 0) rfl rfl ?_
      refine v_geto rfl hM42 ha1 rfl (fun a45 ha45 => ?_)
      refine v_inv rfl rfl rfl (Nat.le_of_ble_eq_true rfl) hM42 ha45 (w_I (by decide) (sp_73  hM42 ha45 ) (fun x46 => ?_))
      refine v_inv rfl rfl rfl (Nat.le_of_ble_eq_true rfl) hM42 ha43 (u_V (by decide) (sp_46  hM42 ha43 x44 x46 ) (fun M47 hM47 => ?_))
      refine hs (f := dm_ald 150 0) rfl rfl ?_
      refine hs (f := dm_dup 151) (st' := [.ref a1, .ref a1]) rfl rfl ?_
      refine v_geti rfl hM47 ha1 rfl (fun x48 _ => ?_)
      refine hs (f := dm_push 155 (.int 1)) rfl rfl ?_
      refine hs (f := dm_ii 156 (fun x y => x + y)) (st' := [.int (x48 + (1 : Int32)), .ref a1]) rfl rfl ?_
      refine v_puti rfl hM47 ha1 rfl (fun M49 hM49 => ?_)
      refine hs (f := dm_ald 160 0) rfl rfl ?_
      refine v_geti rfl hM49 ha1 rfl (fun x50 _ => ?_)
      refine hs (f := dm_push 164 (.int 1)) rfl rfl ?_
      refine hs (f := dm_ii 165 (fun x y => x - y)) (st' := [.int (x50 - (1 : Int32))]) rfl rfl ?_
      exact hr (f := dm_ret .int) rfl rfl ⟨_, rfl, hM49⟩
    · skip
      exact j42_0 M hM ((x14 + x16) + x18) a1 ha1 x2 x3 x4 x5 x6
theorem sp_16 {p : iv_P} {M : dm_Mem} (hM : Iv p M) {a1 : Nat} (ha1 : iv_ty a1 = some 2) (x2 : Int32) : hT 2 16 [.ref a1, .int x2] M (pV p) := by
  refine hx (t := cd_16) rfl (Nat.le_of_ble_eq_true rfl) (lv := [(0, .ref a1), (1, .int x2)]) rfl ?_
  refine hs (f := dm_ald 1 0) rfl rfl ?_
  refine hs (f := dm_ild 2 1) rfl rfl ?_
  refine v_puti rfl hM ha1 rfl (fun M3 hM3 => ?_)
  refine hs (f := dm_ald 6 0) rfl rfl ?_
  refine v_geto rfl hM3 ha1 rfl (fun a4 ha4 => ?_)
  refine hs (f := dm_ald 10 0) rfl rfl ?_
  refine v_geto rfl hM3 ha1 rfl (fun a5 ha5 => ?_)
  refine hs (f := dm_ild 14 1) rfl rfl ?_
  refine hs (f := dm_push 15 (.int 1)) rfl rfl ?_
  refine hs (f := dm_ii 16 (fun x y => x - y)) (st' := [.int (x2 - (1 : Int32)), .ref a5, .ref a4]) rfl rfl ?_
  refine v_inv rfl rfl rfl (Nat.le_of_ble_eq_true rfl) hM3 ha5 (w_I (by decide) (sp_45  hM3 ha5 (x2 - (1 : Int32)) ) (fun x6 => ?_))
  refine v_inv rfl rfl rfl (Nat.le_of_ble_eq_true rfl) hM3 ha4 (u_V (by decide) (sp_74  hM3 ha4 x6 ) (fun M7 hM7 => ?_))
  exact hr (f := dm_vret) rfl rfl ⟨rfl, hM7⟩
theorem sp_25 {p : iv_P} {M : dm_Mem} (hM : Iv p M) {a1 : Nat} (ha1 : iv_ty a1 = some 2) (x2 : Int32) : hT 4 25 [.ref a1, .int x2] M (qB M) := by
  refine hx (t := cd_25) rfl (Nat.le_of_ble_eq_true rfl) (lv := [(0, .ref a1), (1, .int x2)]) rfl ?_
  refine hs (f := dm_ald 1 0) rfl rfl ?_
  refine v_geto rfl hM ha1 rfl (fun a3 ha3 => ?_)
  refine hs (f := dm_ald 5 0) rfl rfl ?_
  refine hs (f := dm_ild 6 1) rfl rfl ?_
  refine v_inv rfl rfl rfl (Nat.le_of_ble_eq_true rfl) hM ha1 (w_I (by decide) (sp_18  hM ha1 x2 ) (fun x4 => ?_))
  refine hs (f := dm_push 10 (.int 0)) rfl rfl ?_
  refine v_inv rfl rfl rfl (Nat.le_of_ble_eq_true rfl) hM ha3 (w_B (by decide) (sp_78  hM ha3 x4 0 ) (fun x5 bx5 => ?_))
  exact h_retB rfl bx5 ⟨_, bx5, rfl, rfl⟩
theorem sp_27 {p : iv_P} {M : dm_Mem} (hM : Iv p M) {a1 : Nat} (ha1 : iv_ty a1 = some 2) (x2 : Int32) : hT 5 27 [.ref a1, .int x2] M (qB M) := by
  have j21_0 : ∀ (a3 : Nat) (ha3 : iv_ty a3 = some 2) (x4 : Int32) (x5 : Int32) (bx5 : isB x5), hG 4 cd_27 21 [(0, .ref a3), (1, .int x4)] [.int x5] M (qB M) := by
    intro a3 ha3 x4 x5 bx5
    exact h_retB rfl bx5 ⟨_, bx5, rfl, rfl⟩
  have j20_1 : ∀ (a6 : Nat) (ha6 : iv_ty a6 = some 2) (x7 : Int32), hG 4 cd_27 20 [(0, .ref a6), (1, .int x7)] [] M (qB M) := by
    intro a6 ha6 x7
    refine hs (f := dm_push 21 (.int 0)) rfl rfl ?_
    exact j21_0 a6 ha6 x7 0 isB_0
  refine hx (t := cd_27) rfl (Nat.le_of_ble_eq_true rfl) (lv := [(0, .ref a1), (1, .int x2)]) rfl ?_
  refine hs (f := dm_ald 1 0) rfl rfl ?_
  refine hs (f := dm_ild 2 1) rfl rfl ?_
  refine v_inv rfl rfl rfl (Nat.le_of_ble_eq_true rfl) hM ha1 (w_B (by decide) (sp_26  hM ha1 x2 ) (fun x8 bx8 => ?_))
  refine h_if_eq (n := 8) (tt := 20) rfl (fun h9 => ?_) (fun h9 => ?_)
  · skip
    exact j20_1 a1 ha1 x2
  · skip
    refine hs (f := dm_ald 9 0) rfl rfl ?_
    refine hs (f := dm_ild 10 1) rfl rfl ?_
    refine v_inv rfl rfl rfl (Nat.le_of_ble_eq_true rfl) hM ha1 (w_B (by decide) (sp_25  hM ha1 x2 ) (fun x10 bx10 => ?_))
    refine h_if_ne (n := 16) (tt := 20) rfl (fun h11 => ?_) (fun h11 => ?_)
    · skip
      exact j20_1 a1 ha1 x2
    · skip
      refine hs (f := dm_push 17 (.int 1)) rfl rfl ?_
      refine hs (f := dm_goto 21) rfl rfl ?_
      exact j21_0 a1 ha1 x2 1 isB_1
theorem sp_29 {p : iv_P} {M : dm_Mem} (hM : Iv p M) {a1 : Nat} (ha1 : iv_ty a1 = some 2) (x2 : Int32) : hT 5 29 [.ref a1, .int x2] M (pV p) := by
  have j22_0 : ∀ (M : dm_Mem) (hM : Iv p M) (a3 : Nat) (ha3 : iv_ty a3 = some 2) (x4 : Int32), hG 4 cd_29 22 [(0, .ref a3), (1, .int x4)] [] M (pV p) := by
    intro M hM a3 ha3 x4
    exact hr (f := dm_vret) rfl rfl ⟨rfl, hM⟩
  refine hx (t := cd_29) rfl (Nat.le_of_ble_eq_true rfl) (lv := [(0, .ref a1), (1, .int x2)]) rfl ?_
  refine hs (f := dm_ald 1 0) rfl rfl ?_
  refine hs (f := dm_ild 2 1) rfl rfl ?_
  refine v_inv rfl rfl rfl (Nat.le_of_ble_eq_true rfl) hM ha1 (w_B (by decide) (sp_17  hM ha1 x2 ) (fun x5 bx5 => ?_))
  refine h_if_eq (n := 8) (tt := 22) rfl (fun h6 => ?_) (fun h6 => ?_)
  · skip
    exact j22_0 M hM a1 ha1 x2
  · skip
    refine hs (f := dm_ald 9 0) rfl rfl ?_
    refine hs (f := dm_ild 10 1) rfl rfl ?_
    refine v_inv rfl rfl rfl (Nat.le_of_ble_eq_true rfl) hM ha1 (w_B (by decide) (sp_25  hM ha1 x2 ) (fun x7 bx7 => ?_))
    refine h_if_ne (n := 16) (tt := 22) rfl (fun h8 => ?_) (fun h8 => ?_)
    · skip
      exact j22_0 M hM a1 ha1 x2
    · skip
      refine hs (f := dm_ald 17 0) rfl rfl ?_
      refine hs (f := dm_ild 18 1) rfl rfl ?_
      refine hs (f := dm_push 19 (.int 0)) rfl rfl ?_
      refine v_inv rfl rfl rfl (Nat.le_of_ble_eq_true rfl) hM ha1 (u_V (by decide) (sp_24  hM ha1 x2 0 ) (fun M9 hM9 => ?_))
      exact j22_0 M9 hM9 a1 ha1 x2
theorem sp_30 {p : iv_P} {M : dm_Mem} (hM : Iv p M) {a1 : Nat} (ha1 : iv_ty a1 = some 2) : hT 6 30 [.ref a1] M (qI M) := by
  have j4_0 : ∀ (nn : Nat) (x2 : Int32) (x3 : Int32) (a4 : Nat) (ha4 : iv_ty a4 = some 2), mU x2 = nn → hG 5 cd_30 4 [(2, .int x2), (1, .int x3), (0, .ref a4)] [] M (qI M) := by
    intro nn
    induction nn using Nat.strongRecOn with
    | ind nn IHn =>
      intro x2 x3 a4 ha4 hn
      have j26_1 : ∀ (x5 : Int32) (x6 : Int32) (a7 : Nat) (ha7 : iv_ty a7 = some 2) (x8 : Int32) (x9 : Int32) (bx9 : isB x9), mU (x5 + 1) < nn → hG 5 cd_30 26 [(2, .int x5), (1, .int x6), (0, .ref a7)] [.int x9, .int x8] M (qI M) := by
        intro x5 x6 a7 ha7 x8 x9 bx9 hF
        refine hs (f := dm_ii 27 (fun x y => x + y)) (st' := [.int (x8 + x9)]) rfl rfl ?_
        refine hs (f := dm_ist 28 1) (lv' := [(1, .int (x8 + x9)), (2, .int x5), (0, .ref a7)]) rfl rfl ?_
        refine hs (f := dm_iinc 31 2 1) (lv' := [(2, .int (x5 + 1)), (1, .int (x8 + x9)), (0, .ref a7)]) rfl rfl ?_
        refine hs (f := dm_goto 4) rfl rfl ?_
        exact IHn _ hF (x5 + 1) (x8 + x9) a7 ha7 rfl
      refine hs (f := dm_ild 5 2) rfl rfl ?_
      refine hs (f := dm_ald 6 0) rfl rfl ?_
      refine v_geti rfl hM ha4 rfl (fun x10 _ => ?_)
      refine h_ic_ge (n := 12) (tt := 34) rfl (fun h11 => ?_) (fun h11 => ?_)
      · skip
        refine hs (f := dm_ild 35 1) rfl rfl ?_
        exact hr (f := dm_ret .int) rfl rfl ⟨_, rfl, rfl⟩
      · skip
        have hF : mU (x2 + 1) < nn := hn ▸ mU_lt h11
        refine hs (f := dm_ild 13 1) rfl rfl ?_
        refine hs (f := dm_ald 14 0) rfl rfl ?_
        refine hs (f := dm_ild 15 2) rfl rfl ?_
        refine v_inv rfl rfl rfl (Nat.le_of_ble_eq_true rfl) hM ha4 (w_B (by decide) (sp_27  hM ha4 x2 ) (fun x12 bx12 => ?_))
        refine h_if_eq (n := 21) (tt := 25) rfl (fun h13 => ?_) (fun h13 => ?_)
        · skip
          refine hs (f := dm_push 26 (.int 0)) rfl rfl ?_
          exact j26_1 x2 x3 a4 ha4 x3 0 isB_0 hF
        · skip
          refine hs (f := dm_push 22 (.int 1)) rfl rfl ?_
          refine hs (f := dm_goto 26) rfl rfl ?_
          exact j26_1 x2 x3 a4 ha4 x3 1 isB_1 hF
  refine hx (t := cd_30) rfl (Nat.le_of_ble_eq_true rfl) (lv := [(0, .ref a1)]) rfl ?_
  refine hs (f := dm_push 1 (.int 0)) rfl rfl ?_
  refine hs (f := dm_ist 2 1) (lv' := [(1, .int 0), (0, .ref a1)]) rfl rfl ?_
  refine hs (f := dm_push 3 (.int 0)) rfl rfl ?_
  refine hs (f := dm_ist 4 2) (lv' := [(2, .int 0), (1, .int 0), (0, .ref a1)]) rfl rfl ?_
  exact j4_0 _ 0 0 a1 ha1 rfl
theorem sp_33 {p : iv_P} {M : dm_Mem} (hM : Iv p M) {a1 : Nat} (ha1 : iv_ty a1 = some 2) {a2 : Nat} (ha2 : iv_ty a2 = some 2) : hT 5 33 [.ref a1, .ref a2] M (pV p) := by
  refine hx (t := cd_33) rfl (Nat.le_of_ble_eq_true rfl) (lv := [(0, .ref a1), (1, .ref a2)]) rfl ?_
  refine hs (f := dm_ald 1 0) rfl rfl ?_
  refine hs (f := dm_ald 2 1) rfl rfl ?_
  refine v_geti rfl hM ha2 rfl (fun x3 _ => ?_)
  refine v_puti rfl hM ha1 rfl (fun M4 hM4 => ?_)
  refine hs (f := dm_ald 9 0) rfl rfl ?_
  refine v_geto rfl hM4 ha1 rfl (fun a5 ha5 => ?_)
  refine hs (f := dm_ald 13 1) rfl rfl ?_
  refine v_geto rfl hM4 ha2 rfl (fun a6 ha6 => ?_)
  refine v_inv rfl rfl rfl (Nat.le_of_ble_eq_true rfl) hM4 ha5 (u_V (by decide) (sp_90  hM4 ha5 ha6 ) (fun M7 hM7 => ?_))
  refine hs (f := dm_ald 20 0) rfl rfl ?_
  refine v_geto rfl hM7 ha1 rfl (fun a8 ha8 => ?_)
  refine hs (f := dm_ald 24 1) rfl rfl ?_
  refine v_geto rfl hM7 ha2 rfl (fun a9 ha9 => ?_)
  refine hs (f := dm_ald 28 0) rfl rfl ?_
  refine v_geti rfl hM7 ha1 rfl (fun x10 _ => ?_)
  refine v_inv rfl rfl rfl (Nat.le_of_ble_eq_true rfl) hM7 ha8 (u_V (by decide) (sp_47  hM7 ha8 ha9 x10 ) (fun M11 hM11 => ?_))
  refine hs (f := dm_ald 35 0) rfl rfl ?_
  refine v_geto rfl hM11 ha1 rfl (fun a12 ha12 => ?_)
  refine hs (f := dm_ald 39 1) rfl rfl ?_
  refine v_geto rfl hM11 ha2 rfl (fun a13 ha13 => ?_)
  refine hs (f := dm_ald 43 0) rfl rfl ?_
  refine v_geti rfl hM11 ha1 rfl (fun x14 _ => ?_)
  refine v_inv rfl rfl rfl (Nat.le_of_ble_eq_true rfl) hM11 ha12 (u_V (by decide) (sp_47  hM11 ha12 ha13 x14 ) (fun M15 hM15 => ?_))
  refine hs (f := dm_ald 50 0) rfl rfl ?_
  refine v_geto rfl hM15 ha1 rfl (fun a16 ha16 => ?_)
  refine hs (f := dm_ald 54 1) rfl rfl ?_
  refine v_geto rfl hM15 ha2 rfl (fun a17 ha17 => ?_)
  refine hs (f := dm_ald 58 0) rfl rfl ?_
  refine v_geti rfl hM15 ha1 rfl (fun x18 _ => ?_)
  refine v_inv rfl rfl rfl (Nat.le_of_ble_eq_true rfl) hM15 ha16 (u_V (by decide) (sp_47  hM15 ha16 ha17 x18 ) (fun M19 hM19 => ?_))
  refine hs (f := dm_ald 65 0) rfl rfl ?_
  refine v_geto rfl hM19 ha1 rfl (fun a20 ha20 => ?_)
  refine hs (f := dm_ald 69 1) rfl rfl ?_
  refine v_geto rfl hM19 ha2 rfl (fun a21 ha21 => ?_)
  refine hs (f := dm_ald 73 0) rfl rfl ?_
  refine v_geti rfl hM19 ha1 rfl (fun x22 _ => ?_)
  refine v_inv rfl rfl rfl (Nat.le_of_ble_eq_true rfl) hM19 ha20 (u_V (by decide) (sp_47  hM19 ha20 ha21 x22 ) (fun M23 hM23 => ?_))
  refine hs (f := dm_ald 80 0) rfl rfl ?_
  refine v_geto rfl hM23 ha1 rfl (fun a24 ha24 => ?_)
  refine hs (f := dm_ald 84 1) rfl rfl ?_
  refine v_geto rfl hM23 ha2 rfl (fun a25 ha25 => ?_)
  refine hs (f := dm_ald 88 0) rfl rfl ?_
  refine v_geti rfl hM23 ha1 rfl (fun x26 _ => ?_)
  refine v_inv rfl rfl rfl (Nat.le_of_ble_eq_true rfl) hM23 ha24 (u_V (by decide) (sp_47  hM23 ha24 ha25 x26 ) (fun M27 hM27 => ?_))
  refine hs (f := dm_ald 95 0) rfl rfl ?_
  refine v_geto rfl hM27 ha1 rfl (fun a28 ha28 => ?_)
  refine hs (f := dm_ald 99 1) rfl rfl ?_
  refine v_geto rfl hM27 ha2 rfl (fun a29 ha29 => ?_)
  refine hs (f := dm_ald 103 0) rfl rfl ?_
  refine v_geti rfl hM27 ha1 rfl (fun x30 _ => ?_)
  refine v_inv rfl rfl rfl (Nat.le_of_ble_eq_true rfl) hM27 ha28 (u_V (by decide) (sp_47  hM27 ha28 ha29 x30 ) (fun M31 hM31 => ?_))
  refine hs (f := dm_ald 110 0) rfl rfl ?_
  refine v_geto rfl hM31 ha1 rfl (fun a32 ha32 => ?_)
  refine hs (f := dm_ald 114 1) rfl rfl ?_
  refine v_geto rfl hM31 ha2 rfl (fun a33 ha33 => ?_)
  refine hs (f := dm_ald 118 0) rfl rfl ?_
  refine v_geti rfl hM31 ha1 rfl (fun x34 _ => ?_)
  refine v_inv rfl rfl rfl (Nat.le_of_ble_eq_true rfl) hM31 ha32 (u_V (by decide) (sp_47  hM31 ha32 ha33 x34 ) (fun M35 hM35 => ?_))
  refine hs (f := dm_ald 125 0) rfl rfl ?_
  refine v_geto rfl hM35 ha1 rfl (fun a36 ha36 => ?_)
  refine hs (f := dm_ald 129 1) rfl rfl ?_
  refine v_geto rfl hM35 ha2 rfl (fun a37 ha37 => ?_)
  refine hs (f := dm_ald 133 0) rfl rfl ?_
  refine v_geti rfl hM35 ha1 rfl (fun x38 _ => ?_)
  refine v_inv rfl rfl rfl (Nat.le_of_ble_eq_true rfl) hM35 ha36 (u_V (by decide) (sp_47  hM35 ha36 ha37 x38 ) (fun M39 hM39 => ?_))
  exact hr (f := dm_vret) rfl rfl ⟨rfl, hM39⟩
theorem sp_35 {p : iv_P} {M : dm_Mem} (hM : Iv p M) {a1 : Nat} (ha1 : iv_ty a1 = some 6) (x2 : Int32) : hT 4 35 [.ref a1, .int x2] M (qB M) := by
  have j39_0 : ∀ (a3 : Nat) (ha3 : iv_ty a3 = some 6) (x4 : Int32) (x5 : Int32) (bx5 : isB x5), hG 3 cd_35 39 [(0, .ref a3), (1, .int x4)] [.int x5] M (qB M) := by
    intro a3 ha3 x4 x5 bx5
    exact h_retB rfl bx5 ⟨_, bx5, rfl, rfl⟩
  have j38_1 : ∀ (a6 : Nat) (ha6 : iv_ty a6 = some 6) (x7 : Int32), hG 3 cd_35 38 [(0, .ref a6), (1, .int x7)] [] M (qB M) := by
    intro a6 ha6 x7
    refine hs (f := dm_push 39 (.int 0)) rfl rfl ?_
    exact j39_0 a6 ha6 x7 0 isB_0
  have j34_2 : ∀ (a8 : Nat) (ha8 : iv_ty a8 = some 6) (x9 : Int32), hG 3 cd_35 34 [(0, .ref a8), (1, .int x9)] [] M (qB M) := by
    intro a8 ha8 x9
    refine hs (f := dm_push 35 (.int 1)) rfl rfl ?_
    refine hs (f := dm_goto 39) rfl rfl ?_
    exact j39_0 a8 ha8 x9 1 isB_1
  refine hx (t := cd_35) rfl (Nat.le_of_ble_eq_true rfl) (lv := [(0, .ref a1), (1, .int x2)]) rfl ?_
  refine hs (f := dm_ald 1 0) rfl rfl ?_
  refine hs (f := dm_ild 2 1) rfl rfl ?_
  refine v_inv rfl rfl rfl (Nat.le_of_ble_eq_true rfl) hM ha1 (w_B (by decide) (sp_77  hM ha1 x2 ) (fun x10 bx10 => ?_))
  refine h_if_ne (n := 8) (tt := 38) rfl (fun h11 => ?_) (fun h11 => ?_)
  · skip
    exact j38_1 a1 ha1 x2
  · skip
    refine hs (f := dm_ald 9 0) rfl rfl ?_
    refine hs (f := dm_ald 10 0) rfl rfl ?_
    refine hs (f := dm_ild 11 1) rfl rfl ?_
    refine v_inv rfl rfl rfl (Nat.le_of_ble_eq_true rfl) hM ha1 (w_I (by decide) (sp_79  hM ha1 x2 ) (fun x12 => ?_))
    refine hs (f := dm_push 15 (.int 0)) rfl rfl ?_
    refine v_inv rfl rfl rfl (Nat.le_of_ble_eq_true rfl) hM ha1 (w_B (by decide) (sp_78  hM ha1 x12 0 ) (fun x13 bx13 => ?_))
    refine h_if_ne (n := 21) (tt := 34) rfl (fun h14 => ?_) (fun h14 => ?_)
    · skip
      exact j34_2 a1 ha1 x2
    · skip
      refine hs (f := dm_ald 22 0) rfl rfl ?_
      refine hs (f := dm_ald 23 0) rfl rfl ?_
      refine hs (f := dm_ild 24 1) rfl rfl ?_
      refine v_inv rfl rfl rfl (Nat.le_of_ble_eq_true rfl) hM ha1 (w_I (by decide) (sp_80  hM ha1 x2 ) (fun x15 => ?_))
      refine hs (f := dm_push 28 (.int 0)) rfl rfl ?_
      refine v_inv rfl rfl rfl (Nat.le_of_ble_eq_true rfl) hM ha1 (w_B (by decide) (sp_78  hM ha1 x15 0 ) (fun x16 bx16 => ?_))
      refine h_if_eq (n := 34) (tt := 38) rfl (fun h17 => ?_) (fun h17 => ?_)
      · skip
        exact j38_1 a1 ha1 x2
      · skip
        exact j34_2 a1 ha1 x2
theorem rk_37 {p : iv_P} (kk : Nat) : ∀ (M : dm_Mem) (hM : Iv p M) (a1 : Nat) (ha1 : iv_ty a1 = some 6) (x2 : Int32) (x3 : Int32) (x4 : Int32), mR x4 = kk → hT (4 + 1 + kk) 37 [.ref a1, .int x2, .int x3, .int x4] M (pV p) := by
  induction kk using Nat.strongRecOn with
  | ind kk IH =>
    intro M hM a1 ha1 x2 x3 x4 hk
    have j176_0 : ∀ (M : dm_Mem) (hM : Iv p M) (x5 : Int32) (x6 : Int32) (x7 : Int32) (a8 : Nat) (ha8 : iv_ty a8 = some 6) (x9 : Int32) (x10 : Int32) (x11 : Int32), mR x11 = kk → hG (4 + kk) cd_37 176 [(6, .int x5), (5, .int x6), (4, .int x7), (0, .ref a8), (1, .int x9), (2, .int x10), (3, .int x11)] [] M (pV p) := by
      intro M hM x5 x6 x7 a8 ha8 x9 x10 x11 hk
      exact hr (f := dm_vret) rfl rfl ⟨rfl, hM⟩
    have j173_1 : ∀ (M : dm_Mem) (hM : Iv p M) (x12 : Int32) (x13 : Int32) (x14 : Int32) (a15 : Nat) (ha15 : iv_ty a15 = some 6) (x16 : Int32) (x17 : Int32) (x18 : Int32) (a19 : Nat) (ha19 : iv_ty a19 = some 6) (x20 : Int32), mR x18 = kk → mR (x18 + 1) < kk → hG (4 + kk) cd_37 173 [(6, .int x12), (5, .int x13), (4, .int x14), (0, .ref a15), (1, .int x16), (2, .int x17), (3, .int x18)] [.int x20, .ref a19] M (pV p) := by
      intro M hM x12 x13 x14 a15 ha15 x16 x17 x18 a19 ha19 x20 hk hF
      refine v_inv rfl rfl rfl (Nat.le_of_ble_eq_true rfl) hM ha19 (u_V (by omega) (sp_85  hM ha19 x20 ) (fun M21 hM21 => ?_))
      exact j176_0 M21 hM21 x12 x13 x14 a15 ha15 x16 x17 x18 hk
    have j153_2 : ∀ (M : dm_Mem) (hM : Iv p M) (x22 : Int32) (x23 : Int32) (x24 : Int32) (a25 : Nat) (ha25 : iv_ty a25 = some 6) (x26 : Int32) (x27 : Int32) (x28 : Int32) (a29 : Nat) (ha29 : iv_ty a29 = some 6) (x30 : Int32), mR x28 = kk → mR (x28 + 1) < kk → hG (4 + kk) cd_37 153 [(6, .int x22), (5, .int x23), (4, .int x24), (0, .ref a25), (1, .int x26), (2, .int x27), (3, .int x28)] [.int x30, .ref a29] M (pV p) := by
      intro M hM x22 x23 x24 a25 ha25 x26 x27 x28 a29 ha29 x30 hk hF
      refine v_inv rfl rfl rfl (Nat.le_of_ble_eq_true rfl) hM ha29 (u_V (by omega) (sp_85  hM ha29 x30 ) (fun M31 hM31 => ?_))
      refine hs (f := dm_ald 157 0) rfl rfl ?_
      refine hs (f := dm_ild 159 6) rfl rfl ?_
      refine v_inv rfl rfl rfl (Nat.le_of_ble_eq_true rfl) hM31 ha25 (u_V (by omega) (sp_82  hM31 ha25 x22 ) (fun M32 hM32 => ?_))
      refine hs (f := dm_ald 163 0) rfl rfl ?_
      refine hs (f := dm_ild 164 2) rfl rfl ?_
      refine h_if_eq (n := 167) (tt := 172) rfl (fun h33 => ?_) (fun h33 => ?_)
      · skip
        refine hs (f := dm_push 173 (.int 0)) rfl rfl ?_
        exact j173_1 M32 hM32 x22 x23 x24 a25 ha25 x26 x27 x28 a25 ha25 0 hk hF
      · skip
        refine hs (f := dm_ild 169 5) rfl rfl ?_
        refine hs (f := dm_goto 173) rfl rfl ?_
        exact j173_1 M32 hM32 x22 x23 x24 a25 ha25 x26 x27 x28 a25 ha25 x23 hk hF
    have j65_3 : ∀ (M : dm_Mem) (hM : Iv p M) (x34 : Int32) (x35 : Int32) (x36 : Int32) (a37 : Nat) (ha37 : iv_ty a37 = some 6) (x38 : Int32) (x39 : Int32) (x40 : Int32) (a41 : Nat) (ha41 : iv_ty a41 = some 6) (x42 : Int32) (bx42 : isB x42), mR x40 = kk → hG (4 + kk) cd_37 65 [(6, .int x34), (5, .int x35), (4, .int x36), (0, .ref a37), (1, .int x38), (2, .int x39), (3, .int x40)] [.int x42, .ref a41] M (pV p) := by
      intro M hM x34 x35 x36 a37 ha37 x38 x39 x40 a41 ha41 x42 bx42 hk
      refine v_inv rfl rfl rfl (Nat.le_of_ble_eq_true rfl) hM ha41 (u_I (by omega) (sp_81  hM ha41 x42 ) (fun x43 M44 hM44 => ?_))
      refine hs (f := dm_pop 69) (st' := []) rfl rfl ?_
      refine hs (f := dm_goto 176) rfl rfl ?_
      exact j176_0 M44 hM44 x34 x35 x36 a37 ha37 x38 x39 x40 hk
    have j45_4 : ∀ (M : dm_Mem) (hM : Iv p M) (x45 : Int32) (x46 : Int32) (x47 : Int32) (a48 : Nat) (ha48 : iv_ty a48 = some 6) (x49 : Int32) (x50 : Int32) (x51 : Int32) (a52 : Nat) (ha52 : iv_ty a52 = some 6) (x53 : Int32) (bx53 : isB x53), mR x51 = kk → hG (4 + kk) cd_37 45 [(6, .int x45), (5, .int x46), (4, .int x47), (0, .ref a48), (1, .int x49), (2, .int x50), (3, .int x51)] [.int x53, .ref a52] M (pV p) := by
      intro M hM x45 x46 x47 a48 ha48 x49 x50 x51 a52 ha52 x53 bx53 hk
      refine v_inv rfl rfl rfl (Nat.le_of_ble_eq_true rfl) hM ha52 (u_I (by omega) (sp_81  hM ha52 x53 ) (fun x54 M55 hM55 => ?_))
      refine hs (f := dm_pop 49) (st' := []) rfl rfl ?_
      refine hs (f := dm_ald 50 0) rfl rfl ?_
      refine hs (f := dm_ild 52 6) rfl rfl ?_
      refine v_inv rfl rfl rfl (Nat.le_of_ble_eq_true rfl) hM55 ha48 (u_V (by omega) (sp_82  hM55 ha48 x45 ) (fun M56 hM56 => ?_))
      refine hs (f := dm_ald 56 0) rfl rfl ?_
      refine hs (f := dm_ild 57 2) rfl rfl ?_
      refine h_if_eq (n := 60) (tt := 64) rfl (fun h57 => ?_) (fun h57 => ?_)
      · skip
        refine hs (f := dm_push 65 (.int 0)) rfl rfl ?_
        exact j65_3 M56 hM56 x45 x46 x47 a48 ha48 x49 x50 x51 a48 ha48 0 isB_0 hk
      · skip
        refine hs (f := dm_push 61 (.int 1)) rfl rfl ?_
        refine hs (f := dm_goto 65) rfl rfl ?_
        exact j65_3 M56 hM56 x45 x46 x47 a48 ha48 x49 x50 x51 a48 ha48 1 isB_1 hk
    have j35_5 : ∀ (M : dm_Mem) (hM : Iv p M) (x58 : Int32) (x59 : Int32) (x60 : Int32) (a61 : Nat) (ha61 : iv_ty a61 = some 6) (x62 : Int32) (x63 : Int32) (x64 : Int32), mR x64 = kk → hG (4 + kk) cd_37 35 [(6, .int x58), (5, .int x59), (4, .int x60), (0, .ref a61), (1, .int x62), (2, .int x63), (3, .int x64)] [] M (pV p) := by
      intro M hM x58 x59 x60 a61 ha61 x62 x63 x64 hk
      refine hs (f := dm_ald 36 0) rfl rfl ?_
      refine hs (f := dm_ild 37 2) rfl rfl ?_
      refine h_if_eq (n := 40) (tt := 44) rfl (fun h65 => ?_) (fun h65 => ?_)
      · skip
        refine hs (f := dm_push 45 (.int 1)) rfl rfl ?_
        exact j45_4 M hM x58 x59 x60 a61 ha61 x62 x63 x64 a61 ha61 1 isB_1 hk
      · skip
        refine hs (f := dm_push 41 (.int 0)) rfl rfl ?_
        refine hs (f := dm_goto 45) rfl rfl ?_
        exact j45_4 M hM x58 x59 x60 a61 ha61 x62 x63 x64 a61 ha61 0 isB_0 hk
    rw [show 4 + 1 + kk = (4 + kk) + 1 by omega]
    refine hx (t := cd_37) rfl (Nat.le_of_ble_eq_true rfl) (lv := [(0, .ref a1), (1, .int x2), (2, .int x3), (3, .int x4)]) rfl ?_
    refine hs (f := dm_ald 1 0) rfl rfl ?_
    refine hs (f := dm_ild 2 1) rfl rfl ?_
    refine v_inv rfl rfl rfl (Nat.le_of_ble_eq_true rfl) hM ha1 (w_I (by omega) (sp_79  hM ha1 x2 ) (fun x66 => ?_))
    refine hs (f := dm_ist 7 4) (lv' := [(4, .int x66), (0, .ref a1), (1, .int x2), (2, .int x3), (3, .int x4)]) rfl rfl ?_
    refine hs (f := dm_ald 8 0) rfl rfl ?_
    refine hs (f := dm_ild 9 1) rfl rfl ?_
    refine v_inv rfl rfl rfl (Nat.le_of_ble_eq_true rfl) hM ha1 (w_I (by omega) (sp_80  hM ha1 x2 ) (fun x67 => ?_))
    refine hs (f := dm_ist 14 5) (lv' := [(5, .int x67), (4, .int x66), (0, .ref a1), (1, .int x2), (2, .int x3), (3, .int x4)]) rfl rfl ?_
    refine hs (f := dm_ald 15 0) rfl rfl ?_
    refine hs (f := dm_push 16 (.int 0)) rfl rfl ?_
    refine v_inv rfl rfl rfl (Nat.le_of_ble_eq_true rfl) hM ha1 (u_I (by omega) (sp_81  hM ha1 0 ) (fun x68 M69 hM69 => ?_))
    refine hs (f := dm_ist 21 6) (lv' := [(6, .int x68), (5, .int x67), (4, .int x66), (0, .ref a1), (1, .int x2), (2, .int x3), (3, .int x4)]) rfl rfl ?_
    refine hs (f := dm_ald 22 0) rfl rfl ?_
    refine hs (f := dm_ild 23 1) rfl rfl ?_
    refine v_inv rfl rfl rfl (Nat.le_of_ble_eq_true rfl) hM69 ha1 (w_B (by omega) (sp_77  hM69 ha1 x2 ) (fun x70 bx70 => ?_))
    refine h_if_ne (n := 29) (tt := 35) rfl (fun h71 => ?_) (fun h71 => ?_)
    · skip
      exact j35_5 M69 hM69 x68 x67 x66 a1 ha1 x2 x3 x4 hk
    · skip
      refine hs (f := dm_ild 30 3) rfl rfl ?_
      refine hs (f := dm_push 32 (.int 60)) rfl rfl ?_
      refine h_ic_lt (n := 35) (tt := 72) rfl (fun h72 => ?_) (fun h72 => ?_)
      · skip
        have hF : mR (x4 + 1) < kk := hk ▸ mR_lt2 h72
        refine hs (f := dm_ald 73 0) rfl rfl ?_
        refine hs (f := dm_ild 75 4) rfl rfl ?_
        refine hs (f := dm_push 76 (.int 0)) rfl rfl ?_
        refine v_inv rfl rfl rfl (Nat.le_of_ble_eq_true rfl) hM69 ha1 (w_B (by omega) (sp_78  hM69 ha1 x66 0 ) (fun x73 bx73 => ?_))
        refine h_if_eq (n := 82) (tt := 107) rfl (fun h74 => ?_) (fun h74 => ?_)
        · skip
          refine hs (f := dm_ald 108 0) rfl rfl ?_
          refine hs (f := dm_ild 110 5) rfl rfl ?_
          refine hs (f := dm_push 111 (.int 0)) rfl rfl ?_
          refine v_inv rfl rfl rfl (Nat.le_of_ble_eq_true rfl) hM69 ha1 (w_B (by omega) (sp_78  hM69 ha1 x67 0 ) (fun x75 bx75 => ?_))
          refine h_if_eq (n := 117) (tt := 142) rfl (fun h76 => ?_) (fun h76 => ?_)
          · skip
            refine hs (f := dm_ald 143 0) rfl rfl ?_
            refine hs (f := dm_ild 144 2) rfl rfl ?_
            refine h_if_eq (n := 147) (tt := 151) rfl (fun h77 => ?_) (fun h77 => ?_)
            · skip
              refine hs (f := dm_ild 153 4) rfl rfl ?_
              exact j153_2 M69 hM69 x68 x67 x66 a1 ha1 x2 x3 x4 a1 ha1 x66 hk hF
            · skip
              refine hs (f := dm_push 148 (.int 0)) rfl rfl ?_
              refine hs (f := dm_goto 153) rfl rfl ?_
              exact j153_2 M69 hM69 x68 x67 x66 a1 ha1 x2 x3 x4 a1 ha1 0 hk hF
          · skip
            refine hs (f := dm_ald 118 0) rfl rfl ?_
            refine hs (f := dm_ild 120 4) rfl rfl ?_
            refine hs (f := dm_ild 121 2) rfl rfl ?_
            refine hs (f := dm_ild 122 3) rfl rfl ?_
            refine hs (f := dm_push 123 (.int 1)) rfl rfl ?_
            refine hs (f := dm_ii 124 (fun x y => x + y)) (st' := [.int (x4 + (1 : Int32)), .int x3, .int x66, .ref a1]) rfl rfl ?_
            refine hc (f := dm_ins 127 37 4) (as := [.ref a1, .int x66, .int x3, .int (x4 + (1 : Int32))]) rfl rfl (u_V (by omega) (IH _ hF M69 hM69 a1 ha1 x66 x3 (x4 + (1 : Int32)) rfl) (fun M78 hM78 => ?_))
            refine hs (f := dm_ald 128 0) rfl rfl ?_
            refine hs (f := dm_ild 130 6) rfl rfl ?_
            refine v_inv rfl rfl rfl (Nat.le_of_ble_eq_true rfl) hM78 ha1 (u_V (by omega) (sp_82  hM78 ha1 x68 ) (fun M79 hM79 => ?_))
            refine hs (f := dm_ald 134 0) rfl rfl ?_
            refine hs (f := dm_push 135 (.int 0)) rfl rfl ?_
            refine v_inv rfl rfl rfl (Nat.le_of_ble_eq_true rfl) hM79 ha1 (u_I (by omega) (sp_81  hM79 ha1 0 ) (fun x80 M81 hM81 => ?_))
            refine hs (f := dm_pop 139) (st' := []) rfl rfl ?_
            refine hs (f := dm_goto 176) rfl rfl ?_
            exact j176_0 M81 hM81 x68 x67 x66 a1 ha1 x2 x3 x4 hk
        · skip
          refine hs (f := dm_ald 83 0) rfl rfl ?_
          refine hs (f := dm_push 84 (.int 0)) rfl rfl ?_
          refine v_inv rfl rfl rfl (Nat.le_of_ble_eq_true rfl) hM69 ha1 (u_I (by omega) (sp_81  hM69 ha1 0 ) (fun x82 M83 hM83 => ?_))
          refine hs (f := dm_pop 88) (st' := []) rfl rfl ?_
          refine hs (f := dm_ald 89 0) rfl rfl ?_
          refine hs (f := dm_ild 91 6) rfl rfl ?_
          refine v_inv rfl rfl rfl (Nat.le_of_ble_eq_true rfl) hM83 ha1 (u_V (by omega) (sp_82  hM83 ha1 x68 ) (fun M84 hM84 => ?_))
          refine hs (f := dm_ald 95 0) rfl rfl ?_
          refine hs (f := dm_ild 97 5) rfl rfl ?_
          refine hs (f := dm_ild 98 2) rfl rfl ?_
          refine hs (f := dm_ild 99 3) rfl rfl ?_
          refine hs (f := dm_push 100 (.int 1)) rfl rfl ?_
          refine hs (f := dm_ii 101 (fun x y => x + y)) (st' := [.int (x4 + (1 : Int32)), .int x3, .int x67, .ref a1]) rfl rfl ?_
          refine hc (f := dm_ins 104 37 4) (as := [.ref a1, .int x67, .int x3, .int (x4 + (1 : Int32))]) rfl rfl (u_V (by omega) (IH _ hF M84 hM84 a1 ha1 x67 x3 (x4 + (1 : Int32)) rfl) (fun M85 hM85 => ?_))
          refine hs (f := dm_goto 176) rfl rfl ?_
          exact j176_0 M85 hM85 x68 x67 x66 a1 ha1 x2 x3 x4 hk
      · skip
        exact j35_5 M69 hM69 x68 x67 x66 a1 ha1 x2 x3 x4 hk
theorem rk_39 {p : iv_P} (kk : Nat) : ∀ (M : dm_Mem) (hM : Iv p M) (a1 : Nat) (ha1 : iv_ty a1 = some 6) (x2 : Int32) (x3 : Int32) (x4 : Int32) (x5 : Int32) (x6 : Int32), mR x6 = kk → hT (4 + 1 + kk) 39 [.ref a1, .int x2, .int x3, .int x4, .int x5, .int x6] M (pV p) := by
  induction kk using Nat.strongRecOn with
  | ind kk IH =>
    intro M hM a1 ha1 x2 x3 x4 x5 x6 hk
    have j42_0 : ∀ (M : dm_Mem) (hM : Iv p M) (x7 : Int32) (x8 : Int32) (a9 : Nat) (ha9 : iv_ty a9 = some 6) (x10 : Int32) (x11 : Int32) (x12 : Int32) (x13 : Int32) (x14 : Int32), mR x14 = kk → hG (4 + kk) cd_39 42 [(7, .int x7), (6, .int x8), (0, .ref a9), (1, .int x10), (2, .int x11), (3, .int x12), (4, .int x13), (5, .int x14)] [] M (pV p) := by
      intro M hM x7 x8 a9 ha9 x10 x11 x12 x13 x14 hk
      refine hs (f := dm_ald 43 0) rfl rfl ?_
      refine hs (f := dm_ild 45 6) rfl rfl ?_
      refine hs (f := dm_ild 47 7) rfl rfl ?_
      refine hs (f := dm_mx 50) (st' := [.int (if x8 < x7 then x7 else x8), .ref a9]) rfl rfl ?_
      refine v_inv rfl rfl rfl (Nat.le_of_ble_eq_true rfl) hM ha9 (u_I (by omega) (sp_81  hM ha9 (if x8 < x7 then x7 else x8) ) (fun x15 M16 hM16 => ?_))
      refine hs (f := dm_pop 54) (st' := []) rfl rfl ?_
      exact hr (f := dm_vret) rfl rfl ⟨rfl, hM16⟩
    have j35_1 : ∀ (M : dm_Mem) (hM : Iv p M) (x17 : Int32) (x18 : Int32) (a19 : Nat) (ha19 : iv_ty a19 = some 6) (x20 : Int32) (x21 : Int32) (x22 : Int32) (x23 : Int32) (x24 : Int32), mR x24 = kk → hG (4 + kk) cd_39 35 [(7, .int x17), (6, .int x18), (0, .ref a19), (1, .int x20), (2, .int x21), (3, .int x22), (4, .int x23), (5, .int x24)] [] M (pV p) := by
      intro M hM x17 x18 a19 ha19 x20 x21 x22 x23 x24 hk
      refine hs (f := dm_ild 37 5) rfl rfl ?_
      refine hs (f := dm_push 39 (.int 60)) rfl rfl ?_
      refine h_ic_lt (n := 42) (tt := 55) rfl (fun h25 => ?_) (fun h25 => ?_)
      · skip
        have hF : mR (x24 + 1) < kk := hk ▸ mR_lt2 h25
        refine hs (f := dm_ald 56 0) rfl rfl ?_
        refine hs (f := dm_push 57 (.int 0)) rfl rfl ?_
        refine v_inv rfl rfl rfl (Nat.le_of_ble_eq_true rfl) hM ha19 (u_I (by omega) (sp_81  hM ha19 0 ) (fun x26 M27 hM27 => ?_))
        refine hs (f := dm_ist 62 8) (lv' := [(8, .int x26), (7, .int x17), (6, .int x18), (0, .ref a19), (1, .int x20), (2, .int x21), (3, .int x22), (4, .int x23), (5, .int x24)]) rfl rfl ?_
        refine hs (f := dm_ald 63 0) rfl rfl ?_
        refine hs (f := dm_ald 64 0) rfl rfl ?_
        refine hs (f := dm_ild 65 1) rfl rfl ?_
        refine v_inv rfl rfl rfl (Nat.le_of_ble_eq_true rfl) hM27 ha19 (w_I (by omega) (sp_79  hM27 ha19 x20 ) (fun x28 => ?_))
        refine hs (f := dm_ild 70 6) rfl rfl ?_
        refine hs (f := dm_ald 71 0) rfl rfl ?_
        refine hs (f := dm_ild 72 3) rfl rfl ?_
        refine v_inv rfl rfl rfl (Nat.le_of_ble_eq_true rfl) hM27 ha19 (w_I (by omega) (sp_79  hM27 ha19 x22 ) (fun x29 => ?_))
        refine hs (f := dm_ild 77 7) rfl rfl ?_
        refine hs (f := dm_ild 79 5) rfl rfl ?_
        refine hs (f := dm_push 80 (.int 1)) rfl rfl ?_
        refine hs (f := dm_ii 81 (fun x y => x + y)) (st' := [.int (x24 + (1 : Int32)), .int x17, .int x29, .int x18, .int x28, .ref a19]) rfl rfl ?_
        refine hc (f := dm_ins 84 39 6) (as := [.ref a19, .int x28, .int x18, .int x29, .int x17, .int (x24 + (1 : Int32))]) rfl rfl (u_V (by omega) (IH _ hF M27 hM27 a19 ha19 x28 x18 x29 x17 (x24 + (1 : Int32)) rfl) (fun M30 hM30 => ?_))
        refine hs (f := dm_ald 85 0) rfl rfl ?_
        refine hs (f := dm_ild 87 8) rfl rfl ?_
        refine v_inv rfl rfl rfl (Nat.le_of_ble_eq_true rfl) hM30 ha19 (u_V (by omega) (sp_82  hM30 ha19 x26 ) (fun M31 hM31 => ?_))
        refine hs (f := dm_ald 91 0) rfl rfl ?_
        refine hs (f := dm_ald 92 0) rfl rfl ?_
        refine hs (f := dm_ild 93 1) rfl rfl ?_
        refine v_inv rfl rfl rfl (Nat.le_of_ble_eq_true rfl) hM31 ha19 (w_I (by omega) (sp_80  hM31 ha19 x20 ) (fun x32 => ?_))
        refine hs (f := dm_ild 98 6) rfl rfl ?_
        refine hs (f := dm_ald 99 0) rfl rfl ?_
        refine hs (f := dm_ild 100 3) rfl rfl ?_
        refine v_inv rfl rfl rfl (Nat.le_of_ble_eq_true rfl) hM31 ha19 (w_I (by omega) (sp_80  hM31 ha19 x22 ) (fun x33 => ?_))
        refine hs (f := dm_ild 105 7) rfl rfl ?_
        refine hs (f := dm_ild 107 5) rfl rfl ?_
        refine hs (f := dm_push 108 (.int 1)) rfl rfl ?_
        refine hs (f := dm_ii 109 (fun x y => x + y)) (st' := [.int (x24 + (1 : Int32)), .int x17, .int x33, .int x18, .int x32, .ref a19]) rfl rfl ?_
        refine hc (f := dm_ins 112 39 6) (as := [.ref a19, .int x32, .int x18, .int x33, .int x17, .int (x24 + (1 : Int32))]) rfl rfl (u_V (by omega) (IH _ hF M31 hM31 a19 ha19 x32 x18 x33 x17 (x24 + (1 : Int32)) rfl) (fun M34 hM34 => ?_))
        refine hs (f := dm_ald 113 0) rfl rfl ?_
        refine hs (f := dm_ild 115 8) rfl rfl ?_
        refine v_inv rfl rfl rfl (Nat.le_of_ble_eq_true rfl) hM34 ha19 (u_V (by omega) (sp_83  hM34 ha19 x26 ) (fun M35 hM35 => ?_))
        exact hr (f := dm_vret) rfl rfl ⟨rfl, hM35⟩
      · skip
        exact j42_0 M hM x17 x18 a19 ha19 x20 x21 x22 x23 x24 hk
    rw [show 4 + 1 + kk = (4 + kk) + 1 by omega]
    refine hx (t := cd_39) rfl (Nat.le_of_ble_eq_true rfl) (lv := [(0, .ref a1), (1, .int x2), (2, .int x3), (3, .int x4), (4, .int x5), (5, .int x6)]) rfl ?_
    refine hs (f := dm_ild 1 2) rfl rfl ?_
    refine hs (f := dm_ald 2 0) rfl rfl ?_
    refine hs (f := dm_ild 3 1) rfl rfl ?_
    refine v_inv rfl rfl rfl (Nat.le_of_ble_eq_true rfl) hM ha1 (w_I (by omega) (sp_75  hM ha1 x2 ) (fun x36 => ?_))
    refine hs (f := dm_ii 7 (fun x y => x + y)) (st' := [.int (x3 + x36)]) rfl rfl ?_
    refine hs (f := dm_ist 9 6) (lv' := [(6, .int (x3 + x36)), (0, .ref a1), (1, .int x2), (2, .int x3), (3, .int x4), (4, .int x5), (5, .int x6)]) rfl rfl ?_
    refine hs (f := dm_ild 11 4) rfl rfl ?_
    refine hs (f := dm_ald 12 0) rfl rfl ?_
    refine hs (f := dm_ild 13 3) rfl rfl ?_
    refine v_inv rfl rfl rfl (Nat.le_of_ble_eq_true rfl) hM ha1 (w_I (by omega) (sp_75  hM ha1 x4 ) (fun x37 => ?_))
    refine hs (f := dm_ii 17 (fun x y => x + y)) (st' := [.int (x5 + x37)]) rfl rfl ?_
    refine hs (f := dm_ist 19 7) (lv' := [(7, .int (x5 + x37)), (6, .int (x3 + x36)), (0, .ref a1), (1, .int x2), (2, .int x3), (3, .int x4), (4, .int x5), (5, .int x6)]) rfl rfl ?_
    refine hs (f := dm_ald 20 0) rfl rfl ?_
    refine hs (f := dm_ild 21 1) rfl rfl ?_
    refine v_inv rfl rfl rfl (Nat.le_of_ble_eq_true rfl) hM ha1 (w_B (by omega) (sp_77  hM ha1 x2 ) (fun x38 bx38 => ?_))
    refine h_if_eq (n := 27) (tt := 35) rfl (fun h39 => ?_) (fun h39 => ?_)
    · skip
      exact j35_1 M hM (x5 + x37) (x3 + x36) a1 ha1 x2 x3 x4 x5 x6 hk
    · skip
      refine hs (f := dm_ald 28 0) rfl rfl ?_
      refine hs (f := dm_ild 29 3) rfl rfl ?_
      refine v_inv rfl rfl rfl (Nat.le_of_ble_eq_true rfl) hM ha1 (w_B (by omega) (sp_77  hM ha1 x4 ) (fun x40 bx40 => ?_))
      refine h_if_ne (n := 35) (tt := 42) rfl (fun h41 => ?_) (fun h41 => ?_)
      · skip
        exact j42_0 M hM (x5 + x37) (x3 + x36) a1 ha1 x2 x3 x4 x5 x6 hk
      · skip
        exact j35_1 M hM (x5 + x37) (x3 + x36) a1 ha1 x2 x3 x4 x5 x6 hk
theorem rk_43 {p : iv_P} {M : dm_Mem} (hM : Iv p M) (kk : Nat) : ∀ (a1 : Nat) (ha1 : iv_ty a1 = some 6) (x2 : Int32) (x3 : Int32) (x4 : Int32), mR x4 = kk → hT (2 + 1 + kk) 43 [.ref a1, .int x2, .int x3, .int x4] M (qI M) := by
  induction kk using Nat.strongRecOn with
  | ind kk IH =>
    intro a1 ha1 x2 x3 x4 hk
    have j84_0 : ∀ (x5 : Int32) (x6 : Int32) (a7 : Nat) (ha7 : iv_ty a7 = some 6) (x8 : Int32) (x9 : Int32) (x10 : Int32) (x11 : Int32), mR x10 = kk → mR (x10 + 1) < kk → hG (2 + kk) cd_43 84 [(5, .int x5), (4, .int x6), (0, .ref a7), (1, .int x8), (2, .int x9), (3, .int x10)] [.int x11, .int 1] M (qI M) := by
      intro x5 x6 a7 ha7 x8 x9 x10 x11 hk hF
      refine hs (f := dm_ii 85 (fun x y => x + y)) (st' := [.int ((1 : Int32) + x11)]) rfl rfl ?_
      refine hs (f := dm_ild 87 4) rfl rfl ?_
      refine hs (f := dm_ild 89 5) rfl rfl ?_
      refine hs (f := dm_mn 92) (st' := [.int (if x5 < x6 then x5 else x6), .int ((1 : Int32) + x11)]) rfl rfl ?_
      refine hs (f := dm_ii 93 (fun x y => x + y)) (st' := [.int (((1 : Int32) + x11) + (if x5 < x6 then x5 else x6))]) rfl rfl ?_
      exact hr (f := dm_ret .int) rfl rfl ⟨_, rfl, rfl⟩
    have j29_1 : ∀ (a12 : Nat) (ha12 : iv_ty a12 = some 6) (x13 : Int32) (x14 : Int32) (x15 : Int32) (x16 : Int32), mR x15 = kk → hG (2 + kk) cd_43 29 [(0, .ref a12), (1, .int x13), (2, .int x14), (3, .int x15)] [.int x16] M (qI M) := by
      intro a12 ha12 x13 x14 x15 x16 hk
      exact hr (f := dm_ret .int) rfl rfl ⟨_, rfl, rfl⟩
    have j14_2 : ∀ (a17 : Nat) (ha17 : iv_ty a17 = some 6) (x18 : Int32) (x19 : Int32) (x20 : Int32), mR x20 = kk → hG (2 + kk) cd_43 14 [(0, .ref a17), (1, .int x18), (2, .int x19), (3, .int x20)] [] M (qI M) := by
      intro a17 ha17 x18 x19 x20 hk
      refine hs (f := dm_ald 15 0) rfl rfl ?_
      refine hs (f := dm_ild 16 1) rfl rfl ?_
      refine v_inv rfl rfl rfl (Nat.le_of_ble_eq_true rfl) hM ha17 (w_I (by omega) (sp_75  hM ha17 x18 ) (fun x21 => ?_))
      refine hs (f := dm_push 20 (.int 1)) rfl rfl ?_
      refine h_ic_ne (n := 23) (tt := 27) rfl (fun h22 => ?_) (fun h22 => ?_)
      · skip
        refine hs (f := dm_push 29 (.int 1000000)) rfl rfl ?_
        exact j29_1 a17 ha17 x18 x19 x20 1000000 hk
      · skip
        refine hs (f := dm_push 24 (.int 0)) rfl rfl ?_
        refine hs (f := dm_goto 29) rfl rfl ?_
        exact j29_1 a17 ha17 x18 x19 x20 0 hk
    rw [show 2 + 1 + kk = (2 + kk) + 1 by omega]
    refine hx (t := cd_43) rfl (Nat.le_of_ble_eq_true rfl) (lv := [(0, .ref a1), (1, .int x2), (2, .int x3), (3, .int x4)]) rfl ?_
    refine hs (f := dm_ald 1 0) rfl rfl ?_
    refine hs (f := dm_ild 2 1) rfl rfl ?_
    refine v_inv rfl rfl rfl (Nat.le_of_ble_eq_true rfl) hM ha1 (w_B (by omega) (sp_77  hM ha1 x2 ) (fun x23 bx23 => ?_))
    refine h_if_ne (n := 8) (tt := 14) rfl (fun h24 => ?_) (fun h24 => ?_)
    · skip
      exact j14_2 a1 ha1 x2 x3 x4 hk
    · skip
      refine hs (f := dm_ild 9 3) rfl rfl ?_
      refine hs (f := dm_push 11 (.int 60)) rfl rfl ?_
      refine h_ic_lt (n := 14) (tt := 30) rfl (fun h25 => ?_) (fun h25 => ?_)
      · skip
        have hF : mR (x4 + 1) < kk := hk ▸ mR_lt2 h25
        refine hs (f := dm_ald 31 0) rfl rfl ?_
        refine hs (f := dm_ald 32 0) rfl rfl ?_
        refine hs (f := dm_ild 33 1) rfl rfl ?_
        refine v_inv rfl rfl rfl (Nat.le_of_ble_eq_true rfl) hM ha1 (w_I (by omega) (sp_79  hM ha1 x2 ) (fun x26 => ?_))
        refine hs (f := dm_ald 37 0) rfl rfl ?_
        refine hs (f := dm_ild 38 2) rfl rfl ?_
        refine v_inv rfl rfl rfl (Nat.le_of_ble_eq_true rfl) hM ha1 (w_I (by omega) (sp_79  hM ha1 x3 ) (fun x27 => ?_))
        refine hs (f := dm_ild 42 3) rfl rfl ?_
        refine hs (f := dm_push 43 (.int 1)) rfl rfl ?_
        refine hs (f := dm_ii 44 (fun x y => x + y)) (st' := [.int (x4 + (1 : Int32)), .int x27, .int x26, .ref a1]) rfl rfl ?_
        refine hc (f := dm_ins 47 43 4) (as := [.ref a1, .int x26, .int x27, .int (x4 + (1 : Int32))]) rfl rfl (w_I (by omega) (IH _ hF  a1 ha1 x26 x27 (x4 + (1 : Int32)) rfl) (fun x28 => ?_))
        refine hs (f := dm_ist 49 4) (lv' := [(4, .int x28), (0, .ref a1), (1, .int x2), (2, .int x3), (3, .int x4)]) rfl rfl ?_
        refine hs (f := dm_ald 50 0) rfl rfl ?_
        refine hs (f := dm_ald 51 0) rfl rfl ?_
        refine hs (f := dm_ild 52 1) rfl rfl ?_
        refine v_inv rfl rfl rfl (Nat.le_of_ble_eq_true rfl) hM ha1 (w_I (by omega) (sp_80  hM ha1 x2 ) (fun x29 => ?_))
        refine hs (f := dm_ald 56 0) rfl rfl ?_
        refine hs (f := dm_ild 57 2) rfl rfl ?_
        refine v_inv rfl rfl rfl (Nat.le_of_ble_eq_true rfl) hM ha1 (w_I (by omega) (sp_80  hM ha1 x3 ) (fun x30 => ?_))
        refine hs (f := dm_ild 61 3) rfl rfl ?_
        refine hs (f := dm_push 62 (.int 1)) rfl rfl ?_
        refine hs (f := dm_ii 63 (fun x y => x + y)) (st' := [.int (x4 + (1 : Int32)), .int x30, .int x29, .ref a1]) rfl rfl ?_
        refine hc (f := dm_ins 66 43 4) (as := [.ref a1, .int x29, .int x30, .int (x4 + (1 : Int32))]) rfl rfl (w_I (by omega) (IH _ hF  a1 ha1 x29 x30 (x4 + (1 : Int32)) rfl) (fun x31 => ?_))
        refine hs (f := dm_ist 68 5) (lv' := [(5, .int x31), (4, .int x28), (0, .ref a1), (1, .int x2), (2, .int x3), (3, .int x4)]) rfl rfl ?_
        refine hs (f := dm_push 69 (.int 1)) rfl rfl ?_
        refine hs (f := dm_ald 70 0) rfl rfl ?_
        refine hs (f := dm_ild 71 2) rfl rfl ?_
        refine v_inv rfl rfl rfl (Nat.le_of_ble_eq_true rfl) hM ha1 (w_B (by omega) (sp_77  hM ha1 x3 ) (fun x32 bx32 => ?_))
        refine h_if_eq (n := 77) (tt := 83) rfl (fun h33 => ?_) (fun h33 => ?_)
        · skip
          refine hs (f := dm_push 84 (.int 0)) rfl rfl ?_
          exact j84_0 x31 x28 a1 ha1 x2 x3 x4 0 hk hF
        · skip
          refine hs (f := dm_push 80 (.int 1000)) rfl rfl ?_
          refine hs (f := dm_goto 84) rfl rfl ?_
          exact j84_0 x31 x28 a1 ha1 x2 x3 x4 1000 hk hF
      · skip
        exact j14_2 a1 ha1 x2 x3 x4 hk
theorem sp_50 {p : iv_P} {M : dm_Mem} (hM : Iv p M) {a1 : Nat} (ha1 : iv_ty a1 = some 4) {a2 : Nat} (ha2 : iv_ty a2 = some 2) (x3 : Int32) : hT 5 50 [.ref a1, .ref a2, .int x3] M (pI p) := by
  have j24_0 : ∀ (M : dm_Mem) (hM : Iv p M) (a4 : Nat) (ha4 : iv_ty a4 = some 4) (a5 : Nat) (ha5 : iv_ty a5 = some 2) (x6 : Int32) (x7 : Int32), hG 4 cd_50 24 [(0, .ref a4), (1, .ref a5), (2, .int x6)] [.int x7] M (pI p) := by
    intro M hM a4 ha4 a5 ha5 x6 x7
    exact hr (f := dm_ret .int) rfl rfl ⟨_, rfl, hM⟩
  refine hx (t := cd_50) rfl (Nat.le_of_ble_eq_true rfl) (lv := [(0, .ref a1), (1, .ref a2), (2, .int x3)]) rfl ?_
  refine hs (f := dm_ald 1 1) rfl rfl ?_
  refine hs (f := dm_ild 2 2) rfl rfl ?_
  refine hs (f := dm_ald 3 0) rfl rfl ?_
  refine v_geto rfl hM ha1 rfl (fun a8 ha8 => ?_)
  refine hc (f := dm_ins 9 53 3) (as := [.ref a2, .int x3, .ref a8]) rfl rfl (u_B (by decide) (sp_53  hM ha2 x3 ha8 ) (fun x9 bx9 M10 hM10 => ?_))
  refine h_if_eq (n := 12) (tt := 23) rfl (fun h11 => ?_) (fun h11 => ?_)
  · skip
    refine hs (f := dm_push 24 (.int (-1))) rfl rfl ?_
    exact j24_0 M10 hM10 a1 ha1 a2 ha2 x3 (-1)
  · skip
    refine hs (f := dm_ald 13 1) rfl rfl ?_
    refine hs (f := dm_ald 14 0) rfl rfl ?_
    refine v_geto rfl hM10 ha1 rfl (fun a12 ha12 => ?_)
    refine hc (f := dm_ins 20 52 2) (as := [.ref a2, .ref a12]) rfl rfl (w_I (by decide) (sp_52  hM10 ha2 ha12 ) (fun x13 => ?_))
    refine hs (f := dm_goto 24) rfl rfl ?_
    exact j24_0 M10 hM10 a1 ha1 a2 ha2 x3 x13
theorem sp_51 {p : iv_P} {M : dm_Mem} (hM : Iv p M) {a1 : Nat} (ha1 : iv_ty a1 = some 4) {a2 : Nat} (ha2 : iv_ty a2 = some 2) (x3 : Int32) (x4 : Int32) : hT 5 51 [.ref a1, .ref a2, .int x3, .int x4] M (pI p) := by
  have j29_0 : ∀ (nn : Nat) (M : dm_Mem) (hM : Iv p M) (x5 : Int32) (a6 : Nat) (ha6 : iv_ty a6 = some 4) (a7 : Nat) (ha7 : iv_ty a7 = some 2) (x8 : Int32) (x9 : Int32), mU x5 = nn → hG 4 cd_51 29 [(4, .int x5), (0, .ref a6), (1, .ref a7), (2, .int x8), (3, .int x9)] [] M (pI p) := by
    intro nn
    induction nn using Nat.strongRecOn with
    | ind nn IHn =>
      intro M hM x5 a6 ha6 a7 ha7 x8 x9 hn
      have j61_1 : ∀ (M : dm_Mem) (hM : Iv p M) (x10 : Int32) (a11 : Nat) (ha11 : iv_ty a11 = some 4) (a12 : Nat) (ha12 : iv_ty a12 = some 2) (x13 : Int32) (x14 : Int32), mU (x10 + 1) < nn → hG 4 cd_51 61 [(4, .int x10), (0, .ref a11), (1, .ref a12), (2, .int x13), (3, .int x14)] [] M (pI p) := by
        intro M hM x10 a11 ha11 a12 ha12 x13 x14 hF
        refine hs (f := dm_iinc 64 4 1) (lv' := [(4, .int (x10 + 1)), (0, .ref a11), (1, .ref a12), (2, .int x13), (3, .int x14)]) rfl rfl ?_
        refine hs (f := dm_goto 29) rfl rfl ?_
        exact IHn _ hF M hM (x10 + 1) a11 ha11 a12 ha12 x13 x14 rfl
      refine hs (f := dm_ild 31 4) rfl rfl ?_
      refine hs (f := dm_ald 32 1) rfl rfl ?_
      refine v_inv rfl rfl rfl (Nat.le_of_ble_eq_true rfl) hM ha7 (w_I (by decide) (sp_13  hM ha7 ) (fun x15 => ?_))
      refine h_ic_ge (n := 38) (tt := 67) rfl (fun h16 => ?_) (fun h16 => ?_)
      · skip
        refine hs (f := dm_ald 68 1) rfl rfl ?_
        refine hs (f := dm_ald 69 0) rfl rfl ?_
        refine v_geto rfl hM ha6 rfl (fun a17 ha17 => ?_)
        refine hc (f := dm_ins 75 52 2) (as := [.ref a7, .ref a17]) rfl rfl (w_I (by decide) (sp_52  hM ha7 ha17 ) (fun x18 => ?_))
        exact hr (f := dm_ret .int) rfl rfl ⟨_, rfl, hM⟩
      · skip
        have hF : mU (x5 + 1) < nn := hn ▸ mU_lt h16
        refine hs (f := dm_ald 39 0) rfl rfl ?_
        refine v_geto rfl hM ha6 rfl (fun a19 ha19 => ?_)
        refine hs (f := dm_ild 44 4) rfl rfl ?_
        refine v_inv rfl rfl rfl (Nat.le_of_ble_eq_true rfl) hM ha19 (w_I (by decide) (sp_45  hM ha19 x5 ) (fun x20 => ?_))
        refine hs (f := dm_push 48 (.int 1)) rfl rfl ?_
        refine h_ic_ne (n := 51) (tt := 61) rfl (fun h21 => ?_) (fun h21 => ?_)
        · skip
          exact j61_1 M hM x5 a6 ha6 a7 ha7 x8 x9 hF
        · skip
          refine hs (f := dm_ald 52 0) rfl rfl ?_
          refine v_geto rfl hM ha6 rfl (fun a22 ha22 => ?_)
          refine hs (f := dm_ild 57 4) rfl rfl ?_
          refine hs (f := dm_push 58 (.int 0)) rfl rfl ?_
          refine v_inv rfl rfl rfl (Nat.le_of_ble_eq_true rfl) hM ha22 (u_V (by decide) (sp_46  hM ha22 x5 0 ) (fun M23 hM23 => ?_))
          exact j61_1 M23 hM23 x5 a6 ha6 a7 ha7 x8 x9 hF
  have j24_1 : ∀ (M : dm_Mem) (hM : Iv p M) (a24 : Nat) (ha24 : iv_ty a24 = some 4) (a25 : Nat) (ha25 : iv_ty a25 = some 2) (x26 : Int32) (x27 : Int32), hG 4 cd_51 24 [(0, .ref a24), (1, .ref a25), (2, .int x26), (3, .int x27)] [] M (pI p) := by
    intro M hM a24 ha24 a25 ha25 x26 x27
    refine hs (f := dm_push 25 (.int (-1))) rfl rfl ?_
    exact hr (f := dm_ret .int) rfl rfl ⟨_, rfl, hM⟩
  refine hx (t := cd_51) rfl (Nat.le_of_ble_eq_true rfl) (lv := [(0, .ref a1), (1, .ref a2), (2, .int x3), (3, .int x4)]) rfl ?_
  refine hs (f := dm_ald 1 1) rfl rfl ?_
  refine hs (f := dm_ild 2 2) rfl rfl ?_
  refine hs (f := dm_ald 3 0) rfl rfl ?_
  refine v_geto rfl hM ha1 rfl (fun a28 ha28 => ?_)
  refine hc (f := dm_ins 9 53 3) (as := [.ref a2, .int x3, .ref a28]) rfl rfl (u_B (by decide) (sp_53  hM ha2 x3 ha28 ) (fun x29 bx29 M30 hM30 => ?_))
  refine h_if_eq (n := 12) (tt := 24) rfl (fun h31 => ?_) (fun h31 => ?_)
  · skip
    exact j24_1 M30 hM30 a1 ha1 a2 ha2 x3 x4
  · skip
    refine hs (f := dm_ald 13 1) rfl rfl ?_
    refine hs (f := dm_ild 14 3) rfl rfl ?_
    refine hs (f := dm_ald 15 0) rfl rfl ?_
    refine v_geto rfl hM30 ha1 rfl (fun a32 ha32 => ?_)
    refine hc (f := dm_ins 21 53 3) (as := [.ref a2, .int x4, .ref a32]) rfl rfl (u_B (by decide) (sp_53  hM30 ha2 x4 ha32 ) (fun x33 bx33 M34 hM34 => ?_))
    refine h_if_ne (n := 24) (tt := 26) rfl (fun h35 => ?_) (fun h35 => ?_)
    · skip
      refine hs (f := dm_push 27 (.int 0)) rfl rfl ?_
      refine hs (f := dm_ist 29 4) (lv' := [(4, .int 0), (0, .ref a1), (1, .ref a2), (2, .int x3), (3, .int x4)]) rfl rfl ?_
      exact j29_0 _ M34 hM34 0 a1 ha1 a2 ha2 x3 x4 rfl
    · skip
      exact j24_1 M34 hM34 a1 ha1 a2 ha2 x3 x4
theorem sp_64 {p : iv_P} {M : dm_Mem} (hM : Iv p M) {a1 : Nat} (ha1 : iv_ty a1 = some 6) (x2 : Int32) (x3 : Int32) : hT 4 64 [.ref a1, .int x2, .int x3] M (qB M) := by
  have j143_0 : ∀ (x4 : Int32) (bx4 : isB x4) (x5 : Int32) (bx5 : isB x5) (x6 : Int32) (bx6 : isB x6) (x7 : Int32) (bx7 : isB x7) (x8 : Int32) (x9 : Int32) (a10 : Nat) (ha10 : iv_ty a10 = some 6) (x11 : Int32) (x12 : Int32) (x13 : Int32) (bx13 : isB x13), hG 3 cd_64 143 [(8, .int x4), (7, .int x5), (6, .int x6), (5, .int x7), (4, .int x8), (3, .int x9), (0, .ref a10), (1, .int x11), (2, .int x12)] [.int x13] M (qB M) := by
    intro x4 bx4 x5 bx5 x6 bx6 x7 bx7 x8 x9 a10 ha10 x11 x12 x13 bx13
    exact h_retB rfl bx13 ⟨_, bx13, rfl, rfl⟩
  have j142_1 : ∀ (x14 : Int32) (bx14 : isB x14) (x15 : Int32) (bx15 : isB x15) (x16 : Int32) (bx16 : isB x16) (x17 : Int32) (bx17 : isB x17) (x18 : Int32) (x19 : Int32) (a20 : Nat) (ha20 : iv_ty a20 = some 6) (x21 : Int32) (x22 : Int32), hG 3 cd_64 142 [(8, .int x14), (7, .int x15), (6, .int x16), (5, .int x17), (4, .int x18), (3, .int x19), (0, .ref a20), (1, .int x21), (2, .int x22)] [] M (qB M) := by
    intro x14 bx14 x15 bx15 x16 bx16 x17 bx17 x18 x19 a20 ha20 x21 x22
    refine hs (f := dm_push 143 (.int 0)) rfl rfl ?_
    exact j143_0 x14 bx14 x15 bx15 x16 bx16 x17 bx17 x18 x19 a20 ha20 x21 x22 0 isB_0
  have j116_2 : ∀ (x23 : Int32) (bx23 : isB x23) (x24 : Int32) (bx24 : isB x24) (x25 : Int32) (bx25 : isB x25) (x26 : Int32) (x27 : Int32) (a28 : Nat) (ha28 : iv_ty a28 = some 6) (x29 : Int32) (x30 : Int32) (x31 : Int32) (bx31 : isB x31), hG 3 cd_64 116 [(7, .int x23), (6, .int x24), (5, .int x25), (4, .int x26), (3, .int x27), (0, .ref a28), (1, .int x29), (2, .int x30)] [.int x31] M (qB M) := by
    intro x23 bx23 x24 bx24 x25 bx25 x26 x27 a28 ha28 x29 x30 x31 bx31
    refine hs (f := dm_ist 118 8) (lv' := [(8, .int x31), (7, .int x23), (6, .int x24), (5, .int x25), (4, .int x26), (3, .int x27), (0, .ref a28), (1, .int x29), (2, .int x30)]) rfl rfl ?_
    refine hs (f := dm_ild 120 5) rfl rfl ?_
    refine h_if_eq (n := 123) (tt := 142) rfl (fun h32 => ?_) (fun h32 => ?_)
    · skip
      exact j142_1 x31 bx31 x23 bx23 x24 bx24 x25 bx25 x26 x27 a28 ha28 x29 x30
    · skip
      refine hs (f := dm_ild 125 6) rfl rfl ?_
      refine h_if_eq (n := 128) (tt := 142) rfl (fun h33 => ?_) (fun h33 => ?_)
      · skip
        exact j142_1 x31 bx31 x23 bx23 x24 bx24 x25 bx25 x26 x27 a28 ha28 x29 x30
      · skip
        refine hs (f := dm_ild 130 7) rfl rfl ?_
        refine h_if_eq (n := 133) (tt := 142) rfl (fun h34 => ?_) (fun h34 => ?_)
        · skip
          exact j142_1 x31 bx31 x23 bx23 x24 bx24 x25 bx25 x26 x27 a28 ha28 x29 x30
        · skip
          refine hs (f := dm_ild 135 8) rfl rfl ?_
          refine h_if_ne (n := 138) (tt := 142) rfl (fun h35 => ?_) (fun h35 => ?_)
          · skip
            exact j142_1 x31 bx31 x23 bx23 x24 bx24 x25 bx25 x26 x27 a28 ha28 x29 x30
          · skip
            refine hs (f := dm_push 139 (.int 1)) rfl rfl ?_
            refine hs (f := dm_goto 143) rfl rfl ?_
            exact j143_0 x31 bx31 x23 bx23 x24 bx24 x25 bx25 x26 x27 a28 ha28 x29 x30 1 isB_1
  have j115_3 : ∀ (x36 : Int32) (bx36 : isB x36) (x37 : Int32) (bx37 : isB x37) (x38 : Int32) (bx38 : isB x38) (x39 : Int32) (x40 : Int32) (a41 : Nat) (ha41 : iv_ty a41 = some 6) (x42 : Int32) (x43 : Int32), hG 3 cd_64 115 [(7, .int x36), (6, .int x37), (5, .int x38), (4, .int x39), (3, .int x40), (0, .ref a41), (1, .int x42), (2, .int x43)] [] M (qB M) := by
    intro x36 bx36 x37 bx37 x38 bx38 x39 x40 a41 ha41 x42 x43
    refine hs (f := dm_push 116 (.int 0)) rfl rfl ?_
    exact j116_2 x36 bx36 x37 bx37 x38 bx38 x39 x40 a41 ha41 x42 x43 0 isB_0
  have j78_4 : ∀ (x44 : Int32) (bx44 : isB x44) (x45 : Int32) (bx45 : isB x45) (x46 : Int32) (x47 : Int32) (a48 : Nat) (ha48 : iv_ty a48 = some 6) (x49 : Int32) (x50 : Int32) (x51 : Int32) (bx51 : isB x51), hG 3 cd_64 78 [(6, .int x44), (5, .int x45), (4, .int x46), (3, .int x47), (0, .ref a48), (1, .int x49), (2, .int x50)] [.int x51] M (qB M) := by
    intro x44 bx44 x45 bx45 x46 x47 a48 ha48 x49 x50 x51 bx51
    refine hs (f := dm_ist 80 7) (lv' := [(7, .int x51), (6, .int x44), (5, .int x45), (4, .int x46), (3, .int x47), (0, .ref a48), (1, .int x49), (2, .int x50)]) rfl rfl ?_
    refine hs (f := dm_ald 81 0) rfl rfl ?_
    refine hs (f := dm_ild 82 3) rfl rfl ?_
    refine v_inv rfl rfl rfl (Nat.le_of_ble_eq_true rfl) hM ha48 (w_B (by decide) (sp_77  hM ha48 x47 ) (fun x52 bx52 => ?_))
    refine h_if_eq (n := 88) (tt := 115) rfl (fun h53 => ?_) (fun h53 => ?_)
    · skip
      exact j115_3 x51 bx51 x44 bx44 x45 bx45 x46 x47 a48 ha48 x49 x50
    · skip
      refine hs (f := dm_ald 89 0) rfl rfl ?_
      refine hs (f := dm_ild 91 4) rfl rfl ?_
      refine v_inv rfl rfl rfl (Nat.le_of_ble_eq_true rfl) hM ha48 (w_B (by decide) (sp_77  hM ha48 x46 ) (fun x54 bx54 => ?_))
      refine h_if_eq (n := 97) (tt := 115) rfl (fun h55 => ?_) (fun h55 => ?_)
      · skip
        exact j115_3 x51 bx51 x44 bx44 x45 bx45 x46 x47 a48 ha48 x49 x50
      · skip
        refine hs (f := dm_ald 98 0) rfl rfl ?_
        refine hs (f := dm_ild 99 3) rfl rfl ?_
        refine v_inv rfl rfl rfl (Nat.le_of_ble_eq_true rfl) hM ha48 (w_I (by decide) (sp_75  hM ha48 x47 ) (fun x56 => ?_))
        refine hs (f := dm_ald 103 0) rfl rfl ?_
        refine hs (f := dm_ild 105 4) rfl rfl ?_
        refine v_inv rfl rfl rfl (Nat.le_of_ble_eq_true rfl) hM ha48 (w_I (by decide) (sp_75  hM ha48 x46 ) (fun x57 => ?_))
        refine h_ic_ne (n := 111) (tt := 115) rfl (fun h58 => ?_) (fun h58 => ?_)
        · skip
          exact j115_3 x51 bx51 x44 bx44 x45 bx45 x46 x47 a48 ha48 x49 x50
        · skip
          refine hs (f := dm_push 112 (.int 1)) rfl rfl ?_
          refine hs (f := dm_goto 116) rfl rfl ?_
          exact j116_2 x51 bx51 x44 bx44 x45 bx45 x46 x47 a48 ha48 x49 x50 1 isB_1
  have j73_5 : ∀ (x59 : Int32) (bx59 : isB x59) (x60 : Int32) (bx60 : isB x60) (x61 : Int32) (x62 : Int32) (a63 : Nat) (ha63 : iv_ty a63 = some 6) (x64 : Int32) (x65 : Int32), hG 3 cd_64 73 [(6, .int x59), (5, .int x60), (4, .int x61), (3, .int x62), (0, .ref a63), (1, .int x64), (2, .int x65)] [] M (qB M) := by
    intro x59 bx59 x60 bx60 x61 x62 a63 ha63 x64 x65
    refine hs (f := dm_push 74 (.int 1)) rfl rfl ?_
    refine hs (f := dm_goto 78) rfl rfl ?_
    exact j78_4 x59 bx59 x60 bx60 x61 x62 a63 ha63 x64 x65 1 isB_1
  have j54_6 : ∀ (x66 : Int32) (bx66 : isB x66) (x67 : Int32) (x68 : Int32) (a69 : Nat) (ha69 : iv_ty a69 = some 6) (x70 : Int32) (x71 : Int32) (x72 : Int32) (bx72 : isB x72), hG 3 cd_64 54 [(5, .int x66), (4, .int x67), (3, .int x68), (0, .ref a69), (1, .int x70), (2, .int x71)] [.int x72] M (qB M) := by
    intro x66 bx66 x67 x68 a69 ha69 x70 x71 x72 bx72
    refine hs (f := dm_ist 56 6) (lv' := [(6, .int x72), (5, .int x66), (4, .int x67), (3, .int x68), (0, .ref a69), (1, .int x70), (2, .int x71)]) rfl rfl ?_
    refine hs (f := dm_ald 57 0) rfl rfl ?_
    refine hs (f := dm_ild 58 3) rfl rfl ?_
    refine v_inv rfl rfl rfl (Nat.le_of_ble_eq_true rfl) hM ha69 (w_I (by decide) (sp_75  hM ha69 x68 ) (fun x73 => ?_))
    refine h_if_eq (n := 64) (tt := 73) rfl (fun h74 => ?_) (fun h74 => ?_)
    · skip
      exact j73_5 x72 bx72 x66 bx66 x67 x68 a69 ha69 x70 x71
    · skip
      refine hs (f := dm_ald 65 0) rfl rfl ?_
      refine hs (f := dm_ild 67 4) rfl rfl ?_
      refine v_inv rfl rfl rfl (Nat.le_of_ble_eq_true rfl) hM ha69 (w_I (by decide) (sp_75  hM ha69 x67 ) (fun x75 => ?_))
      refine h_if_ne (n := 73) (tt := 77) rfl (fun h76 => ?_) (fun h76 => ?_)
      · skip
        refine hs (f := dm_push 78 (.int 0)) rfl rfl ?_
        exact j78_4 x72 bx72 x66 bx66 x67 x68 a69 ha69 x70 x71 0 isB_0
      · skip
        exact j73_5 x72 bx72 x66 bx66 x67 x68 a69 ha69 x70 x71
  have j49_7 : ∀ (x77 : Int32) (bx77 : isB x77) (x78 : Int32) (x79 : Int32) (a80 : Nat) (ha80 : iv_ty a80 = some 6) (x81 : Int32) (x82 : Int32), hG 3 cd_64 49 [(5, .int x77), (4, .int x78), (3, .int x79), (0, .ref a80), (1, .int x81), (2, .int x82)] [] M (qB M) := by
    intro x77 bx77 x78 x79 a80 ha80 x81 x82
    refine hs (f := dm_push 50 (.int 1)) rfl rfl ?_
    refine hs (f := dm_goto 54) rfl rfl ?_
    exact j54_6 x77 bx77 x78 x79 a80 ha80 x81 x82 1 isB_1
  have j32_8 : ∀ (x83 : Int32) (x84 : Int32) (a85 : Nat) (ha85 : iv_ty a85 = some 6) (x86 : Int32) (x87 : Int32) (x88 : Int32) (bx88 : isB x88), hG 3 cd_64 32 [(4, .int x83), (3, .int x84), (0, .ref a85), (1, .int x86), (2, .int x87)] [.int x88] M (qB M) := by
    intro x83 x84 a85 ha85 x86 x87 x88 bx88
    refine hs (f := dm_ist 34 5) (lv' := [(5, .int x88), (4, .int x83), (3, .int x84), (0, .ref a85), (1, .int x86), (2, .int x87)]) rfl rfl ?_
    refine hs (f := dm_ild 35 2) rfl rfl ?_
    refine hs (f := dm_push 36 (.int 2)) rfl rfl ?_
    refine h_ic_eq (n := 39) (tt := 49) rfl (fun h89 => ?_) (fun h89 => ?_)
    · skip
      exact j49_7 x88 bx88 x83 x84 a85 ha85 x86 x87
    · skip
      refine hs (f := dm_ald 40 0) rfl rfl ?_
      refine hs (f := dm_ild 42 4) rfl rfl ?_
      refine hs (f := dm_push 43 (.int 0)) rfl rfl ?_
      refine v_inv rfl rfl rfl (Nat.le_of_ble_eq_true rfl) hM ha85 (w_B (by decide) (sp_78  hM ha85 x83 0 ) (fun x90 bx90 => ?_))
      refine h_if_ne (n := 49) (tt := 53) rfl (fun h91 => ?_) (fun h91 => ?_)
      · skip
        refine hs (f := dm_push 54 (.int 0)) rfl rfl ?_
        exact j54_6 x88 bx88 x83 x84 a85 ha85 x86 x87 0 isB_0
      · skip
        exact j49_7 x88 bx88 x83 x84 a85 ha85 x86 x87
  have j27_9 : ∀ (x92 : Int32) (x93 : Int32) (a94 : Nat) (ha94 : iv_ty a94 = some 6) (x95 : Int32) (x96 : Int32), hG 3 cd_64 27 [(4, .int x92), (3, .int x93), (0, .ref a94), (1, .int x95), (2, .int x96)] [] M (qB M) := by
    intro x92 x93 a94 ha94 x95 x96
    refine hs (f := dm_push 28 (.int 1)) rfl rfl ?_
    refine hs (f := dm_goto 32) rfl rfl ?_
    exact j32_8 x92 x93 a94 ha94 x95 x96 1 isB_1
  refine hx (t := cd_64) rfl (Nat.le_of_ble_eq_true rfl) (lv := [(0, .ref a1), (1, .int x2), (2, .int x3)]) rfl ?_
  refine hs (f := dm_ald 1 0) rfl rfl ?_
  refine hs (f := dm_ild 2 1) rfl rfl ?_
  refine v_inv rfl rfl rfl (Nat.le_of_ble_eq_true rfl) hM ha1 (w_I (by decide) (sp_79  hM ha1 x2 ) (fun x97 => ?_))
  refine hs (f := dm_ist 6 3) (lv' := [(3, .int x97), (0, .ref a1), (1, .int x2), (2, .int x3)]) rfl rfl ?_
  refine hs (f := dm_ald 7 0) rfl rfl ?_
  refine hs (f := dm_ild 8 1) rfl rfl ?_
  refine v_inv rfl rfl rfl (Nat.le_of_ble_eq_true rfl) hM ha1 (w_I (by decide) (sp_80  hM ha1 x2 ) (fun x98 => ?_))
  refine hs (f := dm_ist 13 4) (lv' := [(4, .int x98), (3, .int x97), (0, .ref a1), (1, .int x2), (2, .int x3)]) rfl rfl ?_
  refine hs (f := dm_ild 14 2) rfl rfl ?_
  refine hs (f := dm_push 15 (.int 1)) rfl rfl ?_
  refine h_ic_eq (n := 18) (tt := 27) rfl (fun h99 => ?_) (fun h99 => ?_)
  · skip
    exact j27_9 x98 x97 a1 ha1 x2 x3
  · skip
    refine hs (f := dm_ald 19 0) rfl rfl ?_
    refine hs (f := dm_ild 20 3) rfl rfl ?_
    refine hs (f := dm_push 21 (.int 0)) rfl rfl ?_
    refine v_inv rfl rfl rfl (Nat.le_of_ble_eq_true rfl) hM ha1 (w_B (by decide) (sp_78  hM ha1 x97 0 ) (fun x100 bx100 => ?_))
    refine h_if_ne (n := 27) (tt := 31) rfl (fun h101 => ?_) (fun h101 => ?_)
    · skip
      refine hs (f := dm_push 32 (.int 0)) rfl rfl ?_
      exact j32_8 x98 x97 a1 ha1 x2 x3 0 isB_0
    · skip
      exact j27_9 x98 x97 a1 ha1 x2 x3
theorem rk_66 {p : iv_P} {M : dm_Mem} (hM : Iv p M) (kk : Nat) : ∀ (a1 : Nat) (ha1 : iv_ty a1 = some 6) (x2 : Int32) (x3 : Int32) (x4 : Int32) (x5 : Int32), mR x5 = kk → hT (2 + 1 + kk) 66 [.ref a1, .int x2, .int x3, .int x4, .int x5] M (qB M) := by
  induction kk using Nat.strongRecOn with
  | ind kk IH =>
    intro a1 ha1 x2 x3 x4 x5 hk
    have j100_0 : ∀ (x6 : Int32) (a7 : Nat) (ha7 : iv_ty a7 = some 6) (x8 : Int32) (x9 : Int32) (x10 : Int32) (x11 : Int32) (x12 : Int32) (bx12 : isB x12), mR x11 = kk → mR (x11 + 1) < kk → hG (2 + kk) cd_66 100 [(5, .int x6), (0, .ref a7), (1, .int x8), (2, .int x9), (3, .int x10), (4, .int x11)] [.int x12] M (qB M) := by
      intro x6 a7 ha7 x8 x9 x10 x11 x12 bx12 hk hF
      exact h_retB rfl bx12 ⟨_, bx12, rfl, rfl⟩
    have j95_1 : ∀ (x13 : Int32) (a14 : Nat) (ha14 : iv_ty a14 = some 6) (x15 : Int32) (x16 : Int32) (x17 : Int32) (x18 : Int32), mR x18 = kk → mR (x18 + 1) < kk → hG (2 + kk) cd_66 95 [(5, .int x13), (0, .ref a14), (1, .int x15), (2, .int x16), (3, .int x17), (4, .int x18)] [] M (qB M) := by
      intro x13 a14 ha14 x15 x16 x17 x18 hk hF
      refine hs (f := dm_push 96 (.int 1)) rfl rfl ?_
      refine hs (f := dm_goto 100) rfl rfl ?_
      exact j100_0 x13 a14 ha14 x15 x16 x17 x18 1 isB_1 hk hF
    have j48_2 : ∀ (x19 : Int32) (a20 : Nat) (ha20 : iv_ty a20 = some 6) (x21 : Int32) (x22 : Int32) (x23 : Int32) (x24 : Int32) (x25 : Int32) (bx25 : isB x25), mR x24 = kk → hG (2 + kk) cd_66 48 [(5, .int x19), (0, .ref a20), (1, .int x21), (2, .int x22), (3, .int x23), (4, .int x24)] [.int x25] M (qB M) := by
      intro x19 a20 ha20 x21 x22 x23 x24 x25 bx25 hk
      exact h_retB rfl bx25 ⟨_, bx25, rfl, rfl⟩
    have j38_3 : ∀ (x26 : Int32) (a27 : Nat) (ha27 : iv_ty a27 = some 6) (x28 : Int32) (x29 : Int32) (x30 : Int32) (x31 : Int32), mR x31 = kk → hG (2 + kk) cd_66 38 [(5, .int x26), (0, .ref a27), (1, .int x28), (2, .int x29), (3, .int x30), (4, .int x31)] [] M (qB M) := by
      intro x26 a27 ha27 x28 x29 x30 x31 hk
      refine hs (f := dm_ild 40 5) rfl rfl ?_
      refine h_if_le (n := 43) (tt := 47) rfl (fun h32 => ?_) (fun h32 => ?_)
      · skip
        refine hs (f := dm_push 48 (.int 0)) rfl rfl ?_
        exact j48_2 x26 a27 ha27 x28 x29 x30 x31 0 isB_0 hk
      · skip
        refine hs (f := dm_push 44 (.int 1)) rfl rfl ?_
        refine hs (f := dm_goto 48) rfl rfl ?_
        exact j48_2 x26 a27 ha27 x28 x29 x30 x31 1 isB_1 hk
    have j31_4 : ∀ (x33 : Int32) (a34 : Nat) (ha34 : iv_ty a34 = some 6) (x35 : Int32) (x36 : Int32) (x37 : Int32) (x38 : Int32), mR x38 = kk → hG (2 + kk) cd_66 31 [(5, .int x33), (0, .ref a34), (1, .int x35), (2, .int x36), (3, .int x37), (4, .int x38)] [] M (qB M) := by
      intro x33 a34 ha34 x35 x36 x37 x38 hk
      refine hs (f := dm_ild 33 4) rfl rfl ?_
      refine hs (f := dm_push 35 (.int 60)) rfl rfl ?_
      refine h_ic_lt (n := 38) (tt := 49) rfl (fun h39 => ?_) (fun h39 => ?_)
      · skip
        have hF : mR (x38 + 1) < kk := hk ▸ mR_lt2 h39
        refine hs (f := dm_ald 50 0) rfl rfl ?_
        refine hs (f := dm_ald 51 0) rfl rfl ?_
        refine hs (f := dm_ild 52 1) rfl rfl ?_
        refine v_inv rfl rfl rfl (Nat.le_of_ble_eq_true rfl) hM ha34 (w_I (by omega) (sp_79  hM ha34 x35 ) (fun x40 => ?_))
        refine hs (f := dm_ald 56 0) rfl rfl ?_
        refine hs (f := dm_ild 57 2) rfl rfl ?_
        refine v_inv rfl rfl rfl (Nat.le_of_ble_eq_true rfl) hM ha34 (w_I (by omega) (sp_79  hM ha34 x36 ) (fun x41 => ?_))
        refine hs (f := dm_ild 62 5) rfl rfl ?_
        refine hs (f := dm_ild 64 4) rfl rfl ?_
        refine hs (f := dm_push 65 (.int 1)) rfl rfl ?_
        refine hs (f := dm_ii 66 (fun x y => x + y)) (st' := [.int (x38 + (1 : Int32)), .int x33, .int x41, .int x40, .ref a34]) rfl rfl ?_
        refine hc (f := dm_ins 69 66 5) (as := [.ref a34, .int x40, .int x41, .int x33, .int (x38 + (1 : Int32))]) rfl rfl (w_B (by omega) (IH _ hF  a34 ha34 x40 x41 x33 (x38 + (1 : Int32)) rfl) (fun x42 bx42 => ?_))
        refine h_if_ne (n := 72) (tt := 95) rfl (fun h43 => ?_) (fun h43 => ?_)
        · skip
          exact j95_1 x33 a34 ha34 x35 x36 x37 x38 hk hF
        · skip
          refine hs (f := dm_ald 73 0) rfl rfl ?_
          refine hs (f := dm_ald 74 0) rfl rfl ?_
          refine hs (f := dm_ild 75 1) rfl rfl ?_
          refine v_inv rfl rfl rfl (Nat.le_of_ble_eq_true rfl) hM ha34 (w_I (by omega) (sp_80  hM ha34 x35 ) (fun x44 => ?_))
          refine hs (f := dm_ald 79 0) rfl rfl ?_
          refine hs (f := dm_ild 80 2) rfl rfl ?_
          refine v_inv rfl rfl rfl (Nat.le_of_ble_eq_true rfl) hM ha34 (w_I (by omega) (sp_80  hM ha34 x36 ) (fun x45 => ?_))
          refine hs (f := dm_ild 85 5) rfl rfl ?_
          refine hs (f := dm_ild 87 4) rfl rfl ?_
          refine hs (f := dm_push 88 (.int 1)) rfl rfl ?_
          refine hs (f := dm_ii 89 (fun x y => x + y)) (st' := [.int (x38 + (1 : Int32)), .int x33, .int x45, .int x44, .ref a34]) rfl rfl ?_
          refine hc (f := dm_ins 92 66 5) (as := [.ref a34, .int x44, .int x45, .int x33, .int (x38 + (1 : Int32))]) rfl rfl (w_B (by omega) (IH _ hF  a34 ha34 x44 x45 x33 (x38 + (1 : Int32)) rfl) (fun x46 bx46 => ?_))
          refine h_if_eq (n := 95) (tt := 99) rfl (fun h47 => ?_) (fun h47 => ?_)
          · skip
            refine hs (f := dm_push 100 (.int 0)) rfl rfl ?_
            exact j100_0 x33 a34 ha34 x35 x36 x37 x38 0 isB_0 hk hF
          · skip
            exact j95_1 x33 a34 ha34 x35 x36 x37 x38 hk hF
      · skip
        exact j38_3 x33 a34 ha34 x35 x36 x37 x38 hk
    rw [show 2 + 1 + kk = (2 + kk) + 1 by omega]
    refine hx (t := cd_66) rfl (Nat.le_of_ble_eq_true rfl) (lv := [(0, .ref a1), (1, .int x2), (2, .int x3), (3, .int x4), (4, .int x5)]) rfl ?_
    refine hs (f := dm_ild 1 3) rfl rfl ?_
    refine hs (f := dm_ald 2 0) rfl rfl ?_
    refine hs (f := dm_ild 3 1) rfl rfl ?_
    refine v_inv rfl rfl rfl (Nat.le_of_ble_eq_true rfl) hM ha1 (w_I (by omega) (sp_75  hM ha1 x2 ) (fun x48 => ?_))
    refine hs (f := dm_ii 7 (fun x y => x + y)) (st' := [.int (x4 + x48)]) rfl rfl ?_
    refine hs (f := dm_ald 8 0) rfl rfl ?_
    refine hs (f := dm_ild 9 2) rfl rfl ?_
    refine v_inv rfl rfl rfl (Nat.le_of_ble_eq_true rfl) hM ha1 (w_I (by omega) (sp_75  hM ha1 x3 ) (fun x49 => ?_))
    refine hs (f := dm_ii 13 (fun x y => x - y)) (st' := [.int ((x4 + x48) - x49)]) rfl rfl ?_
    refine hs (f := dm_ist 15 5) (lv' := [(5, .int ((x4 + x48) - x49)), (0, .ref a1), (1, .int x2), (2, .int x3), (3, .int x4), (4, .int x5)]) rfl rfl ?_
    refine hs (f := dm_ald 16 0) rfl rfl ?_
    refine hs (f := dm_ild 17 1) rfl rfl ?_
    refine v_inv rfl rfl rfl (Nat.le_of_ble_eq_true rfl) hM ha1 (w_B (by omega) (sp_77  hM ha1 x2 ) (fun x50 bx50 => ?_))
    refine h_if_eq (n := 23) (tt := 31) rfl (fun h51 => ?_) (fun h51 => ?_)
    · skip
      exact j31_4 ((x4 + x48) - x49) a1 ha1 x2 x3 x4 x5 hk
    · skip
      refine hs (f := dm_ald 24 0) rfl rfl ?_
      refine hs (f := dm_ild 25 2) rfl rfl ?_
      refine v_inv rfl rfl rfl (Nat.le_of_ble_eq_true rfl) hM ha1 (w_B (by omega) (sp_77  hM ha1 x3 ) (fun x52 bx52 => ?_))
      refine h_if_ne (n := 31) (tt := 38) rfl (fun h53 => ?_) (fun h53 => ?_)
      · skip
        exact j38_3 ((x4 + x48) - x49) a1 ha1 x2 x3 x4 x5 hk
      · skip
        exact j31_4 ((x4 + x48) - x49) a1 ha1 x2 x3 x4 x5 hk
theorem rk_68 {p : iv_P} {M : dm_Mem} (hM : Iv p M) (kk : Nat) : ∀ (a1 : Nat) (ha1 : iv_ty a1 = some 6) (x2 : Int32) (x3 : Int32) (x4 : Int32) (x5 : Int64) (x6 : Int32), mR x6 = kk → hT (2 + 1 + kk) 68 [.ref a1, .int x2, .int x3, .int x4, .long x5, .int x6] M (qJ M) := by
  induction kk using Nat.strongRecOn with
  | ind kk IH =>
    intro a1 ha1 x2 x3 x4 x5 x6 hk
    have j181_0 : ∀ (x7 : Int64) (x8 : Int64) (x9 : Int32) (a10 : Nat) (ha10 : iv_ty a10 = some 6) (x11 : Int32) (x12 : Int32) (x13 : Int32) (x14 : Int64) (x15 : Int32) (x16 : Int64), mR x15 = kk → mR (x15 + 1) < kk → hG (2 + kk) cd_68 181 [(10, .long x7), (8, .long x8), (7, .int x9), (0, .ref a10), (1, .int x11), (2, .int x12), (3, .int x13), (4, .long x14), (6, .int x15)] [.long x16] M (qJ M) := by
      intro x7 x8 x9 a10 ha10 x11 x12 x13 x14 x15 x16 hk hF
      exact hr (f := dm_lret) rfl rfl ⟨_, rfl, rfl⟩
    have j158_1 : ∀ (x17 : Int64) (x18 : Int64) (x19 : Int32) (a20 : Nat) (ha20 : iv_ty a20 = some 6) (x21 : Int32) (x22 : Int32) (x23 : Int32) (x24 : Int64) (x25 : Int32) (x26 : Int64), mR x25 = kk → mR (x25 + 1) < kk → hG (2 + kk) cd_68 158 [(10, .long x17), (8, .long x18), (7, .int x19), (0, .ref a20), (1, .int x21), (2, .int x22), (3, .int x23), (4, .long x24), (6, .int x25)] [.long x26] M (qJ M) := by
      intro x17 x18 x19 a20 ha20 x21 x22 x23 x24 x25 x26 hk hF
      exact hr (f := dm_lret) rfl rfl ⟨_, rfl, rfl⟩
    have j98_2 : ∀ (x27 : Int64) (x28 : Int32) (a29 : Nat) (ha29 : iv_ty a29 = some 6) (x30 : Int32) (x31 : Int32) (x32 : Int32) (x33 : Int64) (x34 : Int32), mR x34 = kk → mR (x34 + 1) < kk → hG (2 + kk) cd_68 98 [(8, .long x27), (7, .int x28), (0, .ref a29), (1, .int x30), (2, .int x31), (3, .int x32), (4, .long x33), (6, .int x34)] [] M (qJ M) := by
      intro x27 x28 a29 ha29 x30 x31 x32 x33 x34 hk hF
      refine hs (f := dm_ald 99 0) rfl rfl ?_
      refine hs (f := dm_ald 100 0) rfl rfl ?_
      refine hs (f := dm_ild 101 1) rfl rfl ?_
      refine v_inv rfl rfl rfl (Nat.le_of_ble_eq_true rfl) hM ha29 (w_I (by omega) (sp_80  hM ha29 x30 ) (fun x35 => ?_))
      refine hs (f := dm_ald 105 0) rfl rfl ?_
      refine hs (f := dm_ild 106 2) rfl rfl ?_
      refine v_inv rfl rfl rfl (Nat.le_of_ble_eq_true rfl) hM ha29 (w_I (by omega) (sp_80  hM ha29 x31 ) (fun x36 => ?_))
      refine hs (f := dm_ild 111 7) rfl rfl ?_
      refine hs (f := dm_push 114 (.long 2)) rfl rfl ?_
      refine hs (f := dm_lld 116 4) rfl rfl ?_
      refine hs (f := dm_ll 117 (fun x y => x * y)) (st' := [.long ((2 : Int64) * x33), .int x28, .int x36, .int x35, .ref a29]) rfl rfl ?_
      refine hs (f := dm_push 118 (.long 1)) rfl rfl ?_
      refine hs (f := dm_ll 119 (fun x y => x + y)) (st' := [.long (((2 : Int64) * x33) + (1 : Int64)), .int x28, .int x36, .int x35, .ref a29]) rfl rfl ?_
      refine hs (f := dm_ild 121 6) rfl rfl ?_
      refine hs (f := dm_push 122 (.int 1)) rfl rfl ?_
      refine hs (f := dm_ii 123 (fun x y => x + y)) (st' := [.int (x34 + (1 : Int32)), .long (((2 : Int64) * x33) + (1 : Int64)), .int x28, .int x36, .int x35, .ref a29]) rfl rfl ?_
      refine hc (f := dm_ins 126 68 6) (as := [.ref a29, .int x35, .int x36, .int x28, .long (((2 : Int64) * x33) + (1 : Int64)), .int (x34 + (1 : Int32))]) rfl rfl (w_J (by omega) (IH _ hF  a29 ha29 x35 x36 x28 (((2 : Int64) * x33) + (1 : Int64)) (x34 + (1 : Int32)) rfl) (fun x37 => ?_))
      refine hs (f := dm_lst 128 10) (lv' := [(10, .long x37), (8, .long x27), (7, .int x28), (0, .ref a29), (1, .int x30), (2, .int x31), (3, .int x32), (4, .long x33), (6, .int x34)]) rfl rfl ?_
      refine hs (f := dm_lld 130 8) rfl rfl ?_
      refine hs (f := dm_push 133 (.long (-1))) rfl rfl ?_
      refine hs (f := dm_lc 134) (st' := [.int (lg_cmp x27 (-1))]) rfl rfl ?_
      refine h_if_ne (n := 137) (tt := 159) rfl (fun h38 => ?_) (fun h38 => ?_)
      · skip
        refine hs (f := dm_lld 161 10) rfl rfl ?_
        refine hs (f := dm_push 164 (.long (-1))) rfl rfl ?_
        refine hs (f := dm_lc 165) (st' := [.int (lg_cmp x37 (-1))]) rfl rfl ?_
        refine h_if_ne (n := 168) (tt := 179) rfl (fun h39 => ?_) (fun h39 => ?_)
        · skip
          refine hs (f := dm_lld 181 10) rfl rfl ?_
          exact j181_0 x37 x27 x28 a29 ha29 x30 x31 x32 x33 x34 x37 hk hF
        · skip
          refine hs (f := dm_push 171 (.long 2)) rfl rfl ?_
          refine hs (f := dm_lld 173 4) rfl rfl ?_
          refine hs (f := dm_ll 174 (fun x y => x * y)) (st' := [.long ((2 : Int64) * x33)]) rfl rfl ?_
          refine hs (f := dm_push 175 (.long 1)) rfl rfl ?_
          refine hs (f := dm_ll 176 (fun x y => x + y)) (st' := [.long (((2 : Int64) * x33) + (1 : Int64))]) rfl rfl ?_
          refine hs (f := dm_goto 181) rfl rfl ?_
          exact j181_0 x37 x27 x28 a29 ha29 x30 x31 x32 x33 x34 (((2 : Int64) * x33) + (1 : Int64)) hk hF
      · skip
        refine hs (f := dm_lld 139 10) rfl rfl ?_
        refine hs (f := dm_push 142 (.long (-1))) rfl rfl ?_
        refine hs (f := dm_lc 143) (st' := [.int (lg_cmp x37 (-1))]) rfl rfl ?_
        refine h_if_ne (n := 146) (tt := 152) rfl (fun h40 => ?_) (fun h40 => ?_)
        · skip
          refine hs (f := dm_push 155 (.long 2)) rfl rfl ?_
          refine hs (f := dm_lld 157 4) rfl rfl ?_
          refine hs (f := dm_ll 158 (fun x y => x * y)) (st' := [.long ((2 : Int64) * x33)]) rfl rfl ?_
          exact j158_1 x37 x27 x28 a29 ha29 x30 x31 x32 x33 x34 ((2 : Int64) * x33) hk hF
        · skip
          refine hs (f := dm_push 149 (.long (-1))) rfl rfl ?_
          refine hs (f := dm_goto 158) rfl rfl ?_
          exact j158_1 x37 x27 x28 a29 ha29 x30 x31 x32 x33 x34 (-1) hk hF
    have j50_3 : ∀ (x41 : Int32) (a42 : Nat) (ha42 : iv_ty a42 = some 6) (x43 : Int32) (x44 : Int32) (x45 : Int32) (x46 : Int64) (x47 : Int32) (x48 : Int64), mR x47 = kk → hG (2 + kk) cd_68 50 [(7, .int x41), (0, .ref a42), (1, .int x43), (2, .int x44), (3, .int x45), (4, .long x46), (6, .int x47)] [.long x48] M (qJ M) := by
      intro x41 a42 ha42 x43 x44 x45 x46 x47 x48 hk
      exact hr (f := dm_lret) rfl rfl ⟨_, rfl, rfl⟩
    have j38_4 : ∀ (x49 : Int32) (a50 : Nat) (ha50 : iv_ty a50 = some 6) (x51 : Int32) (x52 : Int32) (x53 : Int32) (x54 : Int64) (x55 : Int32), mR x55 = kk → hG (2 + kk) cd_68 38 [(7, .int x49), (0, .ref a50), (1, .int x51), (2, .int x52), (3, .int x53), (4, .long x54), (6, .int x55)] [] M (qJ M) := by
      intro x49 a50 ha50 x51 x52 x53 x54 x55 hk
      refine hs (f := dm_ild 40 7) rfl rfl ?_
      refine h_if_le (n := 43) (tt := 49) rfl (fun h56 => ?_) (fun h56 => ?_)
      · skip
        refine hs (f := dm_push 50 (.long 0)) rfl rfl ?_
        exact j50_3 x49 a50 ha50 x51 x52 x53 x54 x55 0 hk
      · skip
        refine hs (f := dm_push 46 (.long (-1))) rfl rfl ?_
        refine hs (f := dm_goto 50) rfl rfl ?_
        exact j50_3 x49 a50 ha50 x51 x52 x53 x54 x55 (-1) hk
    have j31_5 : ∀ (x57 : Int32) (a58 : Nat) (ha58 : iv_ty a58 = some 6) (x59 : Int32) (x60 : Int32) (x61 : Int32) (x62 : Int64) (x63 : Int32), mR x63 = kk → hG (2 + kk) cd_68 31 [(7, .int x57), (0, .ref a58), (1, .int x59), (2, .int x60), (3, .int x61), (4, .long x62), (6, .int x63)] [] M (qJ M) := by
      intro x57 a58 ha58 x59 x60 x61 x62 x63 hk
      refine hs (f := dm_ild 33 6) rfl rfl ?_
      refine hs (f := dm_push 35 (.int 60)) rfl rfl ?_
      refine h_ic_lt (n := 38) (tt := 51) rfl (fun h64 => ?_) (fun h64 => ?_)
      · skip
        have hF : mR (x63 + 1) < kk := hk ▸ mR_lt2 h64
        refine hs (f := dm_ald 52 0) rfl rfl ?_
        refine hs (f := dm_ald 53 0) rfl rfl ?_
        refine hs (f := dm_ild 54 1) rfl rfl ?_
        refine v_inv rfl rfl rfl (Nat.le_of_ble_eq_true rfl) hM ha58 (w_I (by omega) (sp_79  hM ha58 x59 ) (fun x65 => ?_))
        refine hs (f := dm_ald 58 0) rfl rfl ?_
        refine hs (f := dm_ild 59 2) rfl rfl ?_
        refine v_inv rfl rfl rfl (Nat.le_of_ble_eq_true rfl) hM ha58 (w_I (by omega) (sp_79  hM ha58 x60 ) (fun x66 => ?_))
        refine hs (f := dm_ild 64 7) rfl rfl ?_
        refine hs (f := dm_push 67 (.long 2)) rfl rfl ?_
        refine hs (f := dm_lld 69 4) rfl rfl ?_
        refine hs (f := dm_ll 70 (fun x y => x * y)) (st' := [.long ((2 : Int64) * x62), .int x57, .int x66, .int x65, .ref a58]) rfl rfl ?_
        refine hs (f := dm_ild 72 6) rfl rfl ?_
        refine hs (f := dm_push 73 (.int 1)) rfl rfl ?_
        refine hs (f := dm_ii 74 (fun x y => x + y)) (st' := [.int (x63 + (1 : Int32)), .long ((2 : Int64) * x62), .int x57, .int x66, .int x65, .ref a58]) rfl rfl ?_
        refine hc (f := dm_ins 77 68 6) (as := [.ref a58, .int x65, .int x66, .int x57, .long ((2 : Int64) * x62), .int (x63 + (1 : Int32))]) rfl rfl (w_J (by omega) (IH _ hF  a58 ha58 x65 x66 x57 ((2 : Int64) * x62) (x63 + (1 : Int32)) rfl) (fun x67 => ?_))
        refine hs (f := dm_lst 79 8) (lv' := [(8, .long x67), (7, .int x57), (0, .ref a58), (1, .int x59), (2, .int x60), (3, .int x61), (4, .long x62), (6, .int x63)]) rfl rfl ?_
        refine hs (f := dm_lld 81 8) rfl rfl ?_
        refine hs (f := dm_push 84 (.long (-1))) rfl rfl ?_
        refine hs (f := dm_lc 85) (st' := [.int (lg_cmp x67 (-1))]) rfl rfl ?_
        refine h_if_eq (n := 88) (tt := 98) rfl (fun h68 => ?_) (fun h68 => ?_)
        · skip
          exact j98_2 x67 x57 a58 ha58 x59 x60 x61 x62 x63 hk hF
        · skip
          refine hs (f := dm_lld 90 8) rfl rfl ?_
          refine hs (f := dm_push 91 (.long 0)) rfl rfl ?_
          refine hs (f := dm_lc 92) (st' := [.int (lg_cmp x67 0)]) rfl rfl ?_
          refine h_if_eq (n := 95) (tt := 98) rfl (fun h69 => ?_) (fun h69 => ?_)
          · skip
            exact j98_2 x67 x57 a58 ha58 x59 x60 x61 x62 x63 hk hF
          · skip
            refine hs (f := dm_lld 97 8) rfl rfl ?_
            exact hr (f := dm_lret) rfl rfl ⟨_, rfl, rfl⟩
      · skip
        exact j38_4 x57 a58 ha58 x59 x60 x61 x62 x63 hk
    rw [show 2 + 1 + kk = (2 + kk) + 1 by omega]
    refine hx (t := cd_68) rfl (Nat.le_of_ble_eq_true rfl) (lv := [(0, .ref a1), (1, .int x2), (2, .int x3), (3, .int x4), (4, .long x5), (6, .int x6)]) rfl ?_
    refine hs (f := dm_ild 1 3) rfl rfl ?_
    refine hs (f := dm_ald 2 0) rfl rfl ?_
    refine hs (f := dm_ild 3 1) rfl rfl ?_
    refine v_inv rfl rfl rfl (Nat.le_of_ble_eq_true rfl) hM ha1 (w_I (by omega) (sp_75  hM ha1 x2 ) (fun x70 => ?_))
    refine hs (f := dm_ii 7 (fun x y => x + y)) (st' := [.int (x4 + x70)]) rfl rfl ?_
    refine hs (f := dm_ald 8 0) rfl rfl ?_
    refine hs (f := dm_ild 9 2) rfl rfl ?_
    refine v_inv rfl rfl rfl (Nat.le_of_ble_eq_true rfl) hM ha1 (w_I (by omega) (sp_75  hM ha1 x3 ) (fun x71 => ?_))
    refine hs (f := dm_ii 13 (fun x y => x - y)) (st' := [.int ((x4 + x70) - x71)]) rfl rfl ?_
    refine hs (f := dm_ist 15 7) (lv' := [(7, .int ((x4 + x70) - x71)), (0, .ref a1), (1, .int x2), (2, .int x3), (3, .int x4), (4, .long x5), (6, .int x6)]) rfl rfl ?_
    refine hs (f := dm_ald 16 0) rfl rfl ?_
    refine hs (f := dm_ild 17 1) rfl rfl ?_
    refine v_inv rfl rfl rfl (Nat.le_of_ble_eq_true rfl) hM ha1 (w_B (by omega) (sp_77  hM ha1 x2 ) (fun x72 bx72 => ?_))
    refine h_if_eq (n := 23) (tt := 31) rfl (fun h73 => ?_) (fun h73 => ?_)
    · skip
      exact j31_5 ((x4 + x70) - x71) a1 ha1 x2 x3 x4 x5 x6 hk
    · skip
      refine hs (f := dm_ald 24 0) rfl rfl ?_
      refine hs (f := dm_ild 25 2) rfl rfl ?_
      refine v_inv rfl rfl rfl (Nat.le_of_ble_eq_true rfl) hM ha1 (w_B (by omega) (sp_77  hM ha1 x3 ) (fun x74 bx74 => ?_))
      refine h_if_ne (n := 31) (tt := 38) rfl (fun h75 => ?_) (fun h75 => ?_)
      · skip
        exact j38_4 ((x4 + x70) - x71) a1 ha1 x2 x3 x4 x5 x6 hk
      · skip
        exact j31_5 ((x4 + x70) - x71) a1 ha1 x2 x3 x4 x5 x6 hk
theorem rk_70 {p : iv_P} {M : dm_Mem} (hM : Iv p M) (kk : Nat) : ∀ (a1 : Nat) (ha1 : iv_ty a1 = some 6) (x2 : Int32) (x3 : Int32) (x4 : Int32), mR x4 = kk → hT (3 + 1 + kk) 70 [.ref a1, .int x2, .int x3, .int x4] M (qB M) := by
  induction kk using Nat.strongRecOn with
  | ind kk IH =>
    intro a1 ha1 x2 x3 x4 hk
    have j89_0 : ∀ (a5 : Nat) (ha5 : iv_ty a5 = some 6) (x6 : Int32) (x7 : Int32) (x8 : Int32) (x9 : Int32) (bx9 : isB x9), mR x8 = kk → mR (x8 + 1) < kk → hG (3 + kk) cd_70 89 [(0, .ref a5), (1, .int x6), (2, .int x7), (3, .int x8)] [.int x9] M (qB M) := by
      intro a5 ha5 x6 x7 x8 x9 bx9 hk hF
      exact h_retB rfl bx9 ⟨_, bx9, rfl, rfl⟩
    have j84_1 : ∀ (a10 : Nat) (ha10 : iv_ty a10 = some 6) (x11 : Int32) (x12 : Int32) (x13 : Int32), mR x13 = kk → mR (x13 + 1) < kk → hG (3 + kk) cd_70 84 [(0, .ref a10), (1, .int x11), (2, .int x12), (3, .int x13)] [] M (qB M) := by
      intro a10 ha10 x11 x12 x13 hk hF
      refine hs (f := dm_push 85 (.int 1)) rfl rfl ?_
      refine hs (f := dm_goto 89) rfl rfl ?_
      exact j89_0 a10 ha10 x11 x12 x13 1 isB_1 hk hF
    have j42_2 : ∀ (a14 : Nat) (ha14 : iv_ty a14 = some 6) (x15 : Int32) (x16 : Int32) (x17 : Int32), mR x17 = kk → hG (3 + kk) cd_70 42 [(0, .ref a14), (1, .int x15), (2, .int x16), (3, .int x17)] [] M (qB M) := by
      intro a14 ha14 x15 x16 x17 hk
      refine hs (f := dm_push 43 (.int 1)) rfl rfl ?_
      exact h_retB rfl isB_1 ⟨_, isB_1, rfl, rfl⟩
    have j18_3 : ∀ (a18 : Nat) (ha18 : iv_ty a18 = some 6) (x19 : Int32) (x20 : Int32) (x21 : Int32), mR x21 = kk → hG (3 + kk) cd_70 18 [(0, .ref a18), (1, .int x19), (2, .int x20), (3, .int x21)] [] M (qB M) := by
      intro a18 ha18 x19 x20 x21 hk
      refine hs (f := dm_push 19 (.int 0)) rfl rfl ?_
      exact h_retB rfl isB_0 ⟨_, isB_0, rfl, rfl⟩
    rw [show 3 + 1 + kk = (3 + kk) + 1 by omega]
    refine hx (t := cd_70) rfl (Nat.le_of_ble_eq_true rfl) (lv := [(0, .ref a1), (1, .int x2), (2, .int x3), (3, .int x4)]) rfl ?_
    refine hs (f := dm_ald 1 0) rfl rfl ?_
    refine hs (f := dm_ild 2 1) rfl rfl ?_
    refine hs (f := dm_push 3 (.int 0)) rfl rfl ?_
    refine v_inv rfl rfl rfl (Nat.le_of_ble_eq_true rfl) hM ha1 (w_B (by omega) (sp_78  hM ha1 x2 0 ) (fun x22 bx22 => ?_))
    refine h_if_ne (n := 9) (tt := 18) rfl (fun h23 => ?_) (fun h23 => ?_)
    · skip
      exact j18_3 a1 ha1 x2 x3 x4 hk
    · skip
      refine hs (f := dm_ald 10 0) rfl rfl ?_
      refine hs (f := dm_ild 11 2) rfl rfl ?_
      refine hs (f := dm_push 12 (.int 0)) rfl rfl ?_
      refine v_inv rfl rfl rfl (Nat.le_of_ble_eq_true rfl) hM ha1 (w_B (by omega) (sp_78  hM ha1 x3 0 ) (fun x24 bx24 => ?_))
      refine h_if_eq (n := 18) (tt := 20) rfl (fun h25 => ?_) (fun h25 => ?_)
      · skip
        refine hs (f := dm_ald 21 0) rfl rfl ?_
        refine hs (f := dm_ild 22 1) rfl rfl ?_
        refine v_inv rfl rfl rfl (Nat.le_of_ble_eq_true rfl) hM ha1 (w_B (by omega) (sp_77  hM ha1 x2 ) (fun x26 bx26 => ?_))
        refine h_if_ne (n := 28) (tt := 42) rfl (fun h27 => ?_) (fun h27 => ?_)
        · skip
          exact j42_2 a1 ha1 x2 x3 x4 hk
        · skip
          refine hs (f := dm_ald 29 0) rfl rfl ?_
          refine hs (f := dm_ild 30 2) rfl rfl ?_
          refine v_inv rfl rfl rfl (Nat.le_of_ble_eq_true rfl) hM ha1 (w_B (by omega) (sp_77  hM ha1 x3 ) (fun x28 bx28 => ?_))
          refine h_if_ne (n := 36) (tt := 42) rfl (fun h29 => ?_) (fun h29 => ?_)
          · skip
            exact j42_2 a1 ha1 x2 x3 x4 hk
          · skip
            refine hs (f := dm_ild 37 3) rfl rfl ?_
            refine hs (f := dm_push 39 (.int 60)) rfl rfl ?_
            refine h_ic_lt (n := 42) (tt := 44) rfl (fun h30 => ?_) (fun h30 => ?_)
            · skip
              have hF : mR (x4 + 1) < kk := hk ▸ mR_lt2 h30
              refine hs (f := dm_ald 45 0) rfl rfl ?_
              refine hs (f := dm_ald 46 0) rfl rfl ?_
              refine hs (f := dm_ild 47 1) rfl rfl ?_
              refine v_inv rfl rfl rfl (Nat.le_of_ble_eq_true rfl) hM ha1 (w_I (by omega) (sp_79  hM ha1 x2 ) (fun x31 => ?_))
              refine hs (f := dm_ald 51 0) rfl rfl ?_
              refine hs (f := dm_ild 52 2) rfl rfl ?_
              refine v_inv rfl rfl rfl (Nat.le_of_ble_eq_true rfl) hM ha1 (w_I (by omega) (sp_79  hM ha1 x3 ) (fun x32 => ?_))
              refine hs (f := dm_ild 56 3) rfl rfl ?_
              refine hs (f := dm_push 57 (.int 1)) rfl rfl ?_
              refine hs (f := dm_ii 58 (fun x y => x + y)) (st' := [.int (x4 + (1 : Int32)), .int x32, .int x31, .ref a1]) rfl rfl ?_
              refine hc (f := dm_ins 61 70 4) (as := [.ref a1, .int x31, .int x32, .int (x4 + (1 : Int32))]) rfl rfl (w_B (by omega) (IH _ hF  a1 ha1 x31 x32 (x4 + (1 : Int32)) rfl) (fun x33 bx33 => ?_))
              refine h_if_ne (n := 64) (tt := 84) rfl (fun h34 => ?_) (fun h34 => ?_)
              · skip
                exact j84_1 a1 ha1 x2 x3 x4 hk hF
              · skip
                refine hs (f := dm_ald 65 0) rfl rfl ?_
                refine hs (f := dm_ald 66 0) rfl rfl ?_
                refine hs (f := dm_ild 67 1) rfl rfl ?_
                refine v_inv rfl rfl rfl (Nat.le_of_ble_eq_true rfl) hM ha1 (w_I (by omega) (sp_80  hM ha1 x2 ) (fun x35 => ?_))
                refine hs (f := dm_ald 71 0) rfl rfl ?_
                refine hs (f := dm_ild 72 2) rfl rfl ?_
                refine v_inv rfl rfl rfl (Nat.le_of_ble_eq_true rfl) hM ha1 (w_I (by omega) (sp_80  hM ha1 x3 ) (fun x36 => ?_))
                refine hs (f := dm_ild 76 3) rfl rfl ?_
                refine hs (f := dm_push 77 (.int 1)) rfl rfl ?_
                refine hs (f := dm_ii 78 (fun x y => x + y)) (st' := [.int (x4 + (1 : Int32)), .int x36, .int x35, .ref a1]) rfl rfl ?_
                refine hc (f := dm_ins 81 70 4) (as := [.ref a1, .int x35, .int x36, .int (x4 + (1 : Int32))]) rfl rfl (w_B (by omega) (IH _ hF  a1 ha1 x35 x36 (x4 + (1 : Int32)) rfl) (fun x37 bx37 => ?_))
                refine h_if_eq (n := 84) (tt := 88) rfl (fun h38 => ?_) (fun h38 => ?_)
                · skip
                  refine hs (f := dm_push 89 (.int 0)) rfl rfl ?_
                  exact j89_0 a1 ha1 x2 x3 x4 0 isB_0 hk hF
                · skip
                  exact j84_1 a1 ha1 x2 x3 x4 hk hF
            · skip
              exact j42_2 a1 ha1 x2 x3 x4 hk
      · skip
        exact j18_3 a1 ha1 x2 x3 x4 hk
theorem sp_72 {p : iv_P} {M : dm_Mem} (hM : Iv p M) {a1 : Nat} (ha1 : iv_ty a1 = some 6) : hT 5 72 [.ref a1] M (pV p) := by
  refine hx (t := cd_72) rfl (Nat.le_of_ble_eq_true rfl) (lv := [(0, .ref a1)]) rfl ?_
  refine hs (f := dm_ald 1 0) rfl rfl ?_
  refine hs (f := dm_push 2 (.int 0)) rfl rfl ?_
  refine v_puti rfl hM ha1 rfl (fun M2 hM2 => ?_)
  refine hs (f := dm_ald 6 0) rfl rfl ?_
  refine hs (f := dm_push 7 (.int 0)) rfl rfl ?_
  refine v_inv rfl rfl rfl (Nat.le_of_ble_eq_true rfl) hM2 ha1 (u_I (by decide) (sp_81  hM2 ha1 0 ) (fun x3 M4 hM4 => ?_))
  refine hs (f := dm_pop 11) (st' := []) rfl rfl ?_
  refine hs (f := dm_ald 12 0) rfl rfl ?_
  refine hs (f := dm_push 13 (.int 1)) rfl rfl ?_
  refine v_inv rfl rfl rfl (Nat.le_of_ble_eq_true rfl) hM4 ha1 (u_I (by decide) (sp_81  hM4 ha1 1 ) (fun x5 M6 hM6 => ?_))
  refine hs (f := dm_pop 17) (st' := []) rfl rfl ?_
  exact hr (f := dm_vret) rfl rfl ⟨rfl, hM6⟩
theorem sp_88 {p : iv_P} {M : dm_Mem} (hM : Iv p M) {a1 : Nat} (ha1 : iv_ty a1 = some 6) (x2 : Int32) : hT 64 88 [.ref a1, .int x2] M (qI M) := by
  refine hx (t := cd_88) rfl (Nat.le_of_ble_eq_true rfl) (lv := [(0, .ref a1), (1, .int x2)]) rfl ?_
  refine hs (f := dm_ald 1 0) rfl rfl ?_
  refine hs (f := dm_ild 2 1) rfl rfl ?_
  refine hs (f := dm_push 3 (.int 0)) rfl rfl ?_
  refine hc (f := dm_ins 6 89 3) (as := [.ref a1, .int x2, .int 0]) rfl rfl (w_I (by decide) (rk_89  hM 60  a1 ha1 x2 0 mR_0) (fun x3 => ?_))
  exact hr (f := dm_ret .int) rfl rfl ⟨_, rfl, rfl⟩
theorem rk_92 {p : iv_P} (hp : p.2.2.1 = none) (kk : Nat) : ∀ (M : dm_Mem) (hM : Iv p M) (a1 : Nat) (ha1 : iv_ty a1 = some 6) (x2 : Int32) (a3 : Nat) (ha3 : iv_ty a3 = some 1) (x4 : Int32), mR x4 = kk → hT (5 + 1 + kk) 92 [.ref a1, .int x2, .ref a3, .int x4] M (pV p) := by
  induction kk using Nat.strongRecOn with
  | ind kk IH =>
    intro M hM a1 ha1 x2 a3 ha3 x4 hk
    have j169_0 : ∀ (M : dm_Mem) (hM : Iv p M) (x5 : Int32) (bx5 : isB x5) (x6 : Int32) (bx6 : isB x6) (x7 : Int32) (a8 : Nat) (ha8 : iv_ty a8 = some 6) (x9 : Int32) (a10 : Nat) (ha10 : iv_ty a10 = some 1) (x11 : Int32), mR x11 = kk → mR (x11 + 1) < kk → hG (5 + kk) cd_92 169 [(6, .int x5), (5, .int x6), (4, .int x7), (0, .ref a8), (1, .int x9), (2, .ref a10), (3, .int x11)] [] M (pV p) := by
      intro M hM x5 bx5 x6 bx6 x7 a8 ha8 x9 a10 ha10 x11 hk hF
      exact hr (f := dm_vret) rfl rfl ⟨rfl, hM⟩
    have j151_1 : ∀ (M : dm_Mem) (hM : Iv p M) (x12 : Int32) (bx12 : isB x12) (x13 : Int32) (bx13 : isB x13) (x14 : Int32) (a15 : Nat) (ha15 : iv_ty a15 = some 6) (x16 : Int32) (a17 : Nat) (ha17 : iv_ty a17 = some 1) (x18 : Int32), mR x18 = kk → mR (x18 + 1) < kk → hG (5 + kk) cd_92 151 [(6, .int x12), (5, .int x13), (4, .int x14), (0, .ref a15), (1, .int x16), (2, .ref a17), (3, .int x18)] [] M (pV p) := by
      intro M hM x12 bx12 x13 bx13 x14 a15 ha15 x16 a17 ha17 x18 hk hF
      refine hs (f := dm_ild 153 6) rfl rfl ?_
      refine h_if_eq (n := 156) (tt := 169) rfl (fun h19 => ?_) (fun h19 => ?_)
      · skip
        exact j169_0 M hM x12 bx12 x13 bx13 x14 a15 ha15 x16 a17 ha17 x18 hk hF
      · skip
        refine hs (f := dm_ald 157 0) rfl rfl ?_
        refine hs (f := dm_ald 158 0) rfl rfl ?_
        refine hs (f := dm_ild 159 1) rfl rfl ?_
        refine v_inv rfl rfl rfl (Nat.le_of_ble_eq_true rfl) hM ha15 (w_I (by omega) (sp_80  hM ha15 x16 ) (fun x20 => ?_))
        refine hs (f := dm_ald 163 2) rfl rfl ?_
        refine hs (f := dm_ild 164 3) rfl rfl ?_
        refine hs (f := dm_push 165 (.int 1)) rfl rfl ?_
        refine hs (f := dm_ii 166 (fun x y => x + y)) (st' := [.int (x18 + (1 : Int32)), .ref a17, .int x20, .ref a15]) rfl rfl ?_
        refine hc (f := dm_ins 169 92 4) (as := [.ref a15, .int x20, .ref a17, .int (x18 + (1 : Int32))]) rfl rfl (u_V (by omega) (IH _ hF M hM a15 ha15 x20 a17 ha17 (x18 + (1 : Int32)) rfl) (fun M21 hM21 => ?_))
        exact j169_0 M21 hM21 x12 bx12 x13 bx13 x14 a15 ha15 x16 a17 ha17 x18 hk hF
    have j127_2 : ∀ (M : dm_Mem) (hM : Iv p M) (x22 : Int32) (bx22 : isB x22) (x23 : Int32) (bx23 : isB x23) (x24 : Int32) (a25 : Nat) (ha25 : iv_ty a25 = some 6) (x26 : Int32) (a27 : Nat) (ha27 : iv_ty a27 = some 1) (x28 : Int32) (a29 : Nat) (ha29 : iv_ty a29 = some 1) (x30 : Int32) (x31 : Int32) (bx31 : isB x31), mR x28 = kk → mR (x28 + 1) < kk → hG (5 + kk) cd_92 127 [(6, .int x22), (5, .int x23), (4, .int x24), (0, .ref a25), (1, .int x26), (2, .ref a27), (3, .int x28)] [.int x31, .int x30, .ref a29] M (pV p) := by
      intro M hM x22 bx22 x23 bx23 x24 a25 ha25 x26 a27 ha27 x28 a29 ha29 x30 x31 bx31 hk hF
      refine hs (f := dm_ii 128 (fun x y => x + y)) (st' := [.int (x30 + x31), .ref a29]) rfl rfl ?_
      refine hs (f := dm_i1 129 (fun x => .long x.toInt64)) (st' := [.long ((x30 + x31).toInt64), .ref a29]) rfl rfl ?_
      refine hs (f := dm_push 130 (.int 2)) rfl rfl ?_
      refine v_inv rfl rfl rfl (Nat.le_of_ble_eq_true rfl) hM ha29 (u_V (by omega) (sp_8 hp hM ha29 ((x30 + x31).toInt64) 2 ) (fun M32 hM32 => ?_))
      refine hs (f := dm_ild 135 5) rfl rfl ?_
      refine h_if_eq (n := 138) (tt := 151) rfl (fun h33 => ?_) (fun h33 => ?_)
      · skip
        exact j151_1 M32 hM32 x22 bx22 x23 bx23 x24 a25 ha25 x26 a27 ha27 x28 hk hF
      · skip
        refine hs (f := dm_ald 139 0) rfl rfl ?_
        refine hs (f := dm_ald 140 0) rfl rfl ?_
        refine hs (f := dm_ild 141 1) rfl rfl ?_
        refine v_inv rfl rfl rfl (Nat.le_of_ble_eq_true rfl) hM32 ha25 (w_I (by omega) (sp_79  hM32 ha25 x26 ) (fun x34 => ?_))
        refine hs (f := dm_ald 145 2) rfl rfl ?_
        refine hs (f := dm_ild 146 3) rfl rfl ?_
        refine hs (f := dm_push 147 (.int 1)) rfl rfl ?_
        refine hs (f := dm_ii 148 (fun x y => x + y)) (st' := [.int (x28 + (1 : Int32)), .ref a27, .int x34, .ref a25]) rfl rfl ?_
        refine hc (f := dm_ins 151 92 4) (as := [.ref a25, .int x34, .ref a27, .int (x28 + (1 : Int32))]) rfl rfl (u_V (by omega) (IH _ hF M32 hM32 a25 ha25 x34 a27 ha27 (x28 + (1 : Int32)) rfl) (fun M35 hM35 => ?_))
        exact j151_1 M35 hM35 x22 bx22 x23 bx23 x24 a25 ha25 x26 a27 ha27 x28 hk hF
    have j117_3 : ∀ (M : dm_Mem) (hM : Iv p M) (x36 : Int32) (bx36 : isB x36) (x37 : Int32) (bx37 : isB x37) (x38 : Int32) (a39 : Nat) (ha39 : iv_ty a39 = some 6) (x40 : Int32) (a41 : Nat) (ha41 : iv_ty a41 = some 1) (x42 : Int32) (a43 : Nat) (ha43 : iv_ty a43 = some 1) (x44 : Int32), mR x42 = kk → mR (x42 + 1) < kk → hG (5 + kk) cd_92 117 [(6, .int x36), (5, .int x37), (4, .int x38), (0, .ref a39), (1, .int x40), (2, .ref a41), (3, .int x42)] [.int x44, .ref a43] M (pV p) := by
      intro M hM x36 bx36 x37 bx37 x38 a39 ha39 x40 a41 ha41 x42 a43 ha43 x44 hk hF
      refine hs (f := dm_ild 119 5) rfl rfl ?_
      refine h_if_eq (n := 122) (tt := 126) rfl (fun h45 => ?_) (fun h45 => ?_)
      · skip
        refine hs (f := dm_push 127 (.int 1)) rfl rfl ?_
        exact j127_2 M hM x36 bx36 x37 bx37 x38 a39 ha39 x40 a41 ha41 x42 a43 ha43 x44 1 isB_1 hk hF
      · skip
        refine hs (f := dm_push 123 (.int 0)) rfl rfl ?_
        refine hs (f := dm_goto 127) rfl rfl ?_
        exact j127_2 M hM x36 bx36 x37 bx37 x38 a39 ha39 x40 a41 ha41 x42 a43 ha43 x44 0 isB_0 hk hF
    have j104_4 : ∀ (M : dm_Mem) (hM : Iv p M) (x46 : Int32) (bx46 : isB x46) (x47 : Int32) (a48 : Nat) (ha48 : iv_ty a48 = some 6) (x49 : Int32) (a50 : Nat) (ha50 : iv_ty a50 = some 1) (x51 : Int32) (x52 : Int32) (bx52 : isB x52), mR x51 = kk → mR (x51 + 1) < kk → hG (5 + kk) cd_92 104 [(5, .int x46), (4, .int x47), (0, .ref a48), (1, .int x49), (2, .ref a50), (3, .int x51)] [.int x52] M (pV p) := by
      intro M hM x46 bx46 x47 a48 ha48 x49 a50 ha50 x51 x52 bx52 hk hF
      refine hs (f := dm_ist 106 6) (lv' := [(6, .int x52), (5, .int x46), (4, .int x47), (0, .ref a48), (1, .int x49), (2, .ref a50), (3, .int x51)]) rfl rfl ?_
      refine hs (f := dm_ald 107 2) rfl rfl ?_
      refine hs (f := dm_ild 109 6) rfl rfl ?_
      refine h_if_eq (n := 112) (tt := 116) rfl (fun h53 => ?_) (fun h53 => ?_)
      · skip
        refine hs (f := dm_push 117 (.int 2)) rfl rfl ?_
        exact j117_3 M hM x52 bx52 x46 bx46 x47 a48 ha48 x49 a50 ha50 x51 a50 ha50 2 hk hF
      · skip
        refine hs (f := dm_push 113 (.int 0)) rfl rfl ?_
        refine hs (f := dm_goto 117) rfl rfl ?_
        exact j117_3 M hM x52 bx52 x46 bx46 x47 a48 ha48 x49 a50 ha50 x51 a50 ha50 0 hk hF
    have j84_5 : ∀ (M : dm_Mem) (hM : Iv p M) (x54 : Int32) (a55 : Nat) (ha55 : iv_ty a55 = some 6) (x56 : Int32) (a57 : Nat) (ha57 : iv_ty a57 = some 1) (x58 : Int32) (x59 : Int32) (bx59 : isB x59), mR x58 = kk → mR (x58 + 1) < kk → hG (5 + kk) cd_92 84 [(4, .int x54), (0, .ref a55), (1, .int x56), (2, .ref a57), (3, .int x58)] [.int x59] M (pV p) := by
      intro M hM x54 a55 ha55 x56 a57 ha57 x58 x59 bx59 hk hF
      refine hs (f := dm_ist 86 5) (lv' := [(5, .int x59), (4, .int x54), (0, .ref a55), (1, .int x56), (2, .ref a57), (3, .int x58)]) rfl rfl ?_
      refine hs (f := dm_ald 87 0) rfl rfl ?_
      refine hs (f := dm_ald 88 0) rfl rfl ?_
      refine hs (f := dm_ild 89 1) rfl rfl ?_
      refine v_inv rfl rfl rfl (Nat.le_of_ble_eq_true rfl) hM ha55 (w_I (by omega) (sp_80  hM ha55 x56 ) (fun x60 => ?_))
      refine hs (f := dm_push 93 (.int 0)) rfl rfl ?_
      refine v_inv rfl rfl rfl (Nat.le_of_ble_eq_true rfl) hM ha55 (w_B (by omega) (sp_78  hM ha55 x60 0 ) (fun x61 bx61 => ?_))
      refine h_if_ne (n := 99) (tt := 103) rfl (fun h62 => ?_) (fun h62 => ?_)
      · skip
        refine hs (f := dm_push 104 (.int 0)) rfl rfl ?_
        exact j104_4 M hM x59 bx59 x54 a55 ha55 x56 a57 ha57 x58 0 isB_0 hk hF
      · skip
        refine hs (f := dm_push 100 (.int 1)) rfl rfl ?_
        refine hs (f := dm_goto 104) rfl rfl ?_
        exact j104_4 M hM x59 bx59 x54 a55 ha55 x56 a57 ha57 x58 1 isB_1 hk hF
    have j66_6 : ∀ (M : dm_Mem) (hM : Iv p M) (x63 : Int32) (a64 : Nat) (ha64 : iv_ty a64 = some 6) (x65 : Int32) (a66 : Nat) (ha66 : iv_ty a66 = some 1) (x67 : Int32), mR x67 = kk → mR (x67 + 1) < kk → hG (5 + kk) cd_92 66 [(4, .int x63), (0, .ref a64), (1, .int x65), (2, .ref a66), (3, .int x67)] [] M (pV p) := by
      intro M hM x63 a64 ha64 x65 a66 ha66 x67 hk hF
      refine hs (f := dm_ald 67 0) rfl rfl ?_
      refine hs (f := dm_ald 68 0) rfl rfl ?_
      refine hs (f := dm_ild 69 1) rfl rfl ?_
      refine v_inv rfl rfl rfl (Nat.le_of_ble_eq_true rfl) hM ha64 (w_I (by omega) (sp_79  hM ha64 x65 ) (fun x68 => ?_))
      refine hs (f := dm_push 73 (.int 0)) rfl rfl ?_
      refine v_inv rfl rfl rfl (Nat.le_of_ble_eq_true rfl) hM ha64 (w_B (by omega) (sp_78  hM ha64 x68 0 ) (fun x69 bx69 => ?_))
      refine h_if_ne (n := 79) (tt := 83) rfl (fun h70 => ?_) (fun h70 => ?_)
      · skip
        refine hs (f := dm_push 84 (.int 0)) rfl rfl ?_
        exact j84_5 M hM x63 a64 ha64 x65 a66 ha66 x67 0 isB_0 hk hF
      · skip
        refine hs (f := dm_push 80 (.int 1)) rfl rfl ?_
        refine hs (f := dm_goto 84) rfl rfl ?_
        exact j84_5 M hM x63 a64 ha64 x65 a66 ha66 x67 1 isB_1 hk hF
    have j51_7 : ∀ (M : dm_Mem) (hM : Iv p M) (x71 : Int32) (a72 : Nat) (ha72 : iv_ty a72 = some 6) (x73 : Int32) (a74 : Nat) (ha74 : iv_ty a74 = some 1) (x75 : Int32) (a76 : Nat) (ha76 : iv_ty a76 = some 1) (x77 : Int64), mR x75 = kk → mR (x75 + 1) < kk → hG (5 + kk) cd_92 51 [(4, .int x71), (0, .ref a72), (1, .int x73), (2, .ref a74), (3, .int x75)] [.long x77, .ref a76] M (pV p) := by
      intro M hM x71 a72 ha72 x73 a74 ha74 x75 a76 ha76 x77 hk hF
      refine hs (f := dm_push 52 (.int 1)) rfl rfl ?_
      refine v_inv rfl rfl rfl (Nat.le_of_ble_eq_true rfl) hM ha76 (u_V (by omega) (sp_8 hp hM ha76 x77 1 ) (fun M78 hM78 => ?_))
      refine hs (f := dm_ild 57 4) rfl rfl ?_
      refine h_if_eq (n := 60) (tt := 66) rfl (fun h79 => ?_) (fun h79 => ?_)
      · skip
        exact j66_6 M78 hM78 x71 a72 ha72 x73 a74 ha74 x75 hk hF
      · skip
        refine hs (f := dm_ild 62 4) rfl rfl ?_
        refine hs (f := dm_ald 63 2) rfl rfl ?_
        refine hc (f := dm_ins 66 93 2) (as := [.int x71, .ref a74]) rfl rfl (u_V (by omega) (sp_93 hp hM78 x71 ha74 ) (fun M80 hM80 => ?_))
        exact j66_6 M80 hM80 x71 a72 ha72 x73 a74 ha74 x75 hk hF
    have j21_8 : ∀ (M : dm_Mem) (hM : Iv p M) (x81 : Int32) (a82 : Nat) (ha82 : iv_ty a82 = some 6) (x83 : Int32) (a84 : Nat) (ha84 : iv_ty a84 = some 1) (x85 : Int32), mR x85 = kk → hG (5 + kk) cd_92 21 [(4, .int x81), (0, .ref a82), (1, .int x83), (2, .ref a84), (3, .int x85)] [] M (pV p) := by
      intro M hM x81 a82 ha82 x83 a84 ha84 x85 hk
      refine hs (f := dm_ald 22 2) rfl rfl ?_
      refine hs (f := dm_push 23 (.long 1)) rfl rfl ?_
      refine hs (f := dm_push 24 (.int 1)) rfl rfl ?_
      refine v_inv rfl rfl rfl (Nat.le_of_ble_eq_true rfl) hM ha84 (u_V (by omega) (sp_8 hp hM ha84 1 1 ) (fun M86 hM86 => ?_))
      refine hs (f := dm_ild 29 4) rfl rfl ?_
      refine hs (f := dm_ald 30 2) rfl rfl ?_
      refine hc (f := dm_ins 33 93 2) (as := [.int x81, .ref a84]) rfl rfl (u_V (by omega) (sp_93 hp hM86 x81 ha84 ) (fun M87 hM87 => ?_))
      exact hr (f := dm_vret) rfl rfl ⟨rfl, hM87⟩
    rw [show 5 + 1 + kk = (5 + kk) + 1 by omega]
    refine hx (t := cd_92) rfl (Nat.le_of_ble_eq_true rfl) (lv := [(0, .ref a1), (1, .int x2), (2, .ref a3), (3, .int x4)]) rfl ?_
    refine hs (f := dm_ald 1 0) rfl rfl ?_
    refine hs (f := dm_ild 2 1) rfl rfl ?_
    refine v_inv rfl rfl rfl (Nat.le_of_ble_eq_true rfl) hM ha1 (w_I (by omega) (sp_75  hM ha1 x2 ) (fun x88 => ?_))
    refine hs (f := dm_ist 7 4) (lv' := [(4, .int x88), (0, .ref a1), (1, .int x2), (2, .ref a3), (3, .int x4)]) rfl rfl ?_
    refine hs (f := dm_ald 8 0) rfl rfl ?_
    refine hs (f := dm_ild 9 1) rfl rfl ?_
    refine v_inv rfl rfl rfl (Nat.le_of_ble_eq_true rfl) hM ha1 (w_B (by omega) (sp_77  hM ha1 x2 ) (fun x89 bx89 => ?_))
    refine h_if_ne (n := 15) (tt := 21) rfl (fun h90 => ?_) (fun h90 => ?_)
    · skip
      exact j21_8 M hM x88 a1 ha1 x2 a3 ha3 x4 hk
    · skip
      refine hs (f := dm_ild 16 3) rfl rfl ?_
      refine hs (f := dm_push 18 (.int 60)) rfl rfl ?_
      refine h_ic_lt (n := 21) (tt := 34) rfl (fun h91 => ?_) (fun h91 => ?_)
      · skip
        have hF : mR (x4 + 1) < kk := hk ▸ mR_lt2 h91
        refine hs (f := dm_ald 35 2) rfl rfl ?_
        refine hs (f := dm_push 36 (.long 0)) rfl rfl ?_
        refine hs (f := dm_push 37 (.int 1)) rfl rfl ?_
        refine v_inv rfl rfl rfl (Nat.le_of_ble_eq_true rfl) hM ha3 (u_V (by omega) (sp_8 hp hM ha3 0 1 ) (fun M92 hM92 => ?_))
        refine hs (f := dm_ald 41 2) rfl rfl ?_
        refine hs (f := dm_ild 43 4) rfl rfl ?_
        refine h_if_ne (n := 46) (tt := 50) rfl (fun h93 => ?_) (fun h93 => ?_)
        · skip
          refine hs (f := dm_push 51 (.long 1)) rfl rfl ?_
          exact j51_7 M92 hM92 x88 a1 ha1 x2 a3 ha3 x4 a3 ha3 1 hk hF
        · skip
          refine hs (f := dm_push 47 (.long 0)) rfl rfl ?_
          refine hs (f := dm_goto 51) rfl rfl ?_
          exact j51_7 M92 hM92 x88 a1 ha1 x2 a3 ha3 x4 a3 ha3 0 hk hF
      · skip
        exact j21_8 M hM x88 a1 ha1 x2 a3 ha3 x4 hk
theorem sp_102 {p : iv_P} {M : dm_Mem} (hM : Iv p M) {a1 : Nat} (ha1 : iv_ty a1 = some 7) (x2 : Int32) : hT 6 102 [.ref a1, .int x2] M (pB p) := by
  refine hx (t := cd_102) rfl (Nat.le_of_ble_eq_true rfl) (lv := [(0, .ref a1), (1, .int x2)]) rfl ?_
  refine hs (f := dm_ald 1 0) rfl rfl ?_
  refine v_geto rfl hM ha1 rfl (fun a3 ha3 => ?_)
  refine hs (f := dm_ild 5 1) rfl rfl ?_
  refine v_inv rfl rfl rfl (Nat.le_of_ble_eq_true rfl) hM ha3 (w_B (by decide) (sp_27  hM ha3 x2 ) (fun x4 bx4 => ?_))
  refine h_if_ne (n := 11) (tt := 13) rfl (fun h5 => ?_) (fun h5 => ?_)
  · skip
    refine hs (f := dm_ald 14 0) rfl rfl ?_
    refine v_geto rfl hM ha1 rfl (fun a6 ha6 => ?_)
    refine hs (f := dm_ald 18 0) rfl rfl ?_
    refine v_geto rfl hM ha1 rfl (fun a7 ha7 => ?_)
    refine hs (f := dm_ald 22 0) rfl rfl ?_
    refine v_geto rfl hM ha1 rfl (fun a8 ha8 => ?_)
    refine v_inv rfl rfl rfl (Nat.le_of_ble_eq_true rfl) hM ha8 (w_I (by decide) (sp_13  hM ha8 ) (fun x9 => ?_))
    refine hs (f := dm_ild 29 1) rfl rfl ?_
    refine hs (f := dm_push 30 (.int (-1))) rfl rfl ?_
    refine v_inv rfl rfl rfl (Nat.le_of_ble_eq_true rfl) hM ha6 (u_V (by decide) (sp_3  hM ha6 ha7 x9 x2 (-1) ) (fun M10 hM10 => ?_))
    refine hs (f := dm_ald 34 0) rfl rfl ?_
    refine v_geto rfl hM10 ha1 rfl (fun a11 ha11 => ?_)
    refine hs (f := dm_ild 38 1) rfl rfl ?_
    refine hs (f := dm_push 39 (.int 2)) rfl rfl ?_
    refine v_inv rfl rfl rfl (Nat.le_of_ble_eq_true rfl) hM10 ha11 (u_V (by decide) (sp_24  hM10 ha11 x2 2 ) (fun M12 hM12 => ?_))
    refine hs (f := dm_push 43 (.int 1)) rfl rfl ?_
    exact h_retB rfl isB_1 ⟨_, isB_1, rfl, hM12⟩
  · skip
    refine hs (f := dm_push 12 (.int 0)) rfl rfl ?_
    exact h_retB rfl isB_0 ⟨_, isB_0, rfl, hM⟩
theorem sp_106 {p : iv_P} {M : dm_Mem} (hM : Iv p M) {a1 : Nat} (ha1 : iv_ty a1 = some 7) (x2 : Int32) (x3 : Int32) : hT 6 106 [.ref a1, .int x2, .int x3] M (pI p) := by
  have j39_0 : ∀ (M : dm_Mem) (hM : Iv p M) (a4 : Nat) (ha4 : iv_ty a4 = some 7) (x5 : Int32) (x6 : Int32) (x7 : Int32), hG 5 cd_106 39 [(0, .ref a4), (1, .int x5), (2, .int x6)] [.int x7] M (pI p) := by
    intro M hM a4 ha4 x5 x6 x7
    exact hr (f := dm_ret .int) rfl rfl ⟨_, rfl, hM⟩
  have j38_1 : ∀ (M : dm_Mem) (hM : Iv p M) (a8 : Nat) (ha8 : iv_ty a8 = some 7) (x9 : Int32) (x10 : Int32), hG 5 cd_106 38 [(0, .ref a8), (1, .int x9), (2, .int x10)] [] M (pI p) := by
    intro M hM a8 ha8 x9 x10
    refine hs (f := dm_push 39 (.int (-1))) rfl rfl ?_
    exact j39_0 M hM a8 ha8 x9 x10 (-1)
  refine hx (t := cd_106) rfl (Nat.le_of_ble_eq_true rfl) (lv := [(0, .ref a1), (1, .int x2), (2, .int x3)]) rfl ?_
  refine hs (f := dm_ald 1 0) rfl rfl ?_
  refine v_geto rfl hM ha1 rfl (fun a11 ha11 => ?_)
  refine hs (f := dm_ild 5 1) rfl rfl ?_
  refine v_inv rfl rfl rfl (Nat.le_of_ble_eq_true rfl) hM ha11 (w_B (by decide) (sp_17  hM ha11 x2 ) (fun x12 bx12 => ?_))
  refine h_if_eq (n := 11) (tt := 38) rfl (fun h13 => ?_) (fun h13 => ?_)
  · skip
    exact j38_1 M hM a1 ha1 x2 x3
  · skip
    refine hs (f := dm_ald 12 0) rfl rfl ?_
    refine v_geto rfl hM ha1 rfl (fun a14 ha14 => ?_)
    refine hs (f := dm_ild 16 2) rfl rfl ?_
    refine v_inv rfl rfl rfl (Nat.le_of_ble_eq_true rfl) hM ha14 (w_B (by decide) (sp_17  hM ha14 x3 ) (fun x15 bx15 => ?_))
    refine h_if_eq (n := 22) (tt := 38) rfl (fun h16 => ?_) (fun h16 => ?_)
    · skip
      exact j38_1 M hM a1 ha1 x2 x3
    · skip
      refine hs (f := dm_ald 23 0) rfl rfl ?_
      refine v_geto rfl hM ha1 rfl (fun a17 ha17 => ?_)
      refine hs (f := dm_ald 27 0) rfl rfl ?_
      refine v_geto rfl hM ha1 rfl (fun a18 ha18 => ?_)
      refine hs (f := dm_ild 31 1) rfl rfl ?_
      refine hs (f := dm_ild 32 2) rfl rfl ?_
      refine v_inv rfl rfl rfl (Nat.le_of_ble_eq_true rfl) hM ha17 (u_I (by decide) (sp_51  hM ha17 ha18 x2 x3 ) (fun x19 M20 hM20 => ?_))
      refine hs (f := dm_goto 39) rfl rfl ?_
      exact j39_0 M20 hM20 a1 ha1 x2 x3 x19
theorem sp_123 {p : iv_P} {M : dm_Mem} (hM : Iv p M) {a1 : Nat} (ha1 : iv_ty a1 = some 7) (x2 : Int32) : hT 7 123 [.ref a1, .int x2] M (qI M) := by
  refine hx (t := cd_123) rfl (Nat.le_of_ble_eq_true rfl) (lv := [(0, .ref a1), (1, .int x2)]) rfl ?_
  refine hs (f := dm_ild 1 1) rfl rfl ?_
  refine h_tsw rfl (by decide) ?_ (hal_c ?_ (hal_c ?_ (hal_c ?_ (hal_c ?_ (hal_c ?_ (hal_c ?_ (hal_c ?_ hal_n)))))))
  · skip
    refine hs (f := dm_push 101 (.int (-1))) rfl rfl ?_
    exact hr (f := dm_ret .int) rfl rfl ⟨_, rfl, rfl⟩
  · skip
    refine hs (f := dm_ald 45 0) rfl rfl ?_
    refine v_geto rfl hM ha1 rfl (fun a3 ha3 => ?_)
    refine v_inv rfl rfl rfl (Nat.le_of_ble_eq_true rfl) hM ha3 (w_I (by decide) (sp_13  hM ha3 ) (fun x4 => ?_))
    exact hr (f := dm_ret .int) rfl rfl ⟨_, rfl, rfl⟩
  · skip
    refine hs (f := dm_ald 53 0) rfl rfl ?_
    refine v_geto rfl hM ha1 rfl (fun a5 ha5 => ?_)
    refine v_inv rfl rfl rfl (Nat.le_of_ble_eq_true rfl) hM ha5 (w_I (by decide) (sp_30  hM ha5 ) (fun x6 => ?_))
    exact hr (f := dm_ret .int) rfl rfl ⟨_, rfl, rfl⟩
  · skip
    refine hs (f := dm_ald 61 0) rfl rfl ?_
    refine v_geto rfl hM ha1 rfl (fun a7 ha7 => ?_)
    refine v_inv rfl rfl rfl (Nat.le_of_ble_eq_true rfl) hM ha7 (w_I (by decide) (sp_31  hM ha7 ) (fun x8 => ?_))
    exact hr (f := dm_ret .int) rfl rfl ⟨_, rfl, rfl⟩
  · skip
    refine hs (f := dm_ald 69 0) rfl rfl ?_
    refine v_geto rfl hM ha1 rfl (fun a9 ha9 => ?_)
    refine v_inv rfl rfl rfl (Nat.le_of_ble_eq_true rfl) hM ha9 (w_I (by decide) (sp_32  hM ha9 ) (fun x10 => ?_))
    exact hr (f := dm_ret .int) rfl rfl ⟨_, rfl, rfl⟩
  · skip
    refine hs (f := dm_ald 77 0) rfl rfl ?_
    refine v_geto rfl hM ha1 rfl (fun a11 ha11 => ?_)
    refine v_inv rfl rfl rfl (Nat.le_of_ble_eq_true rfl) hM ha11 (w_I (by decide) (sp_14  hM ha11 ) (fun x12 => ?_))
    exact hr (f := dm_ret .int) rfl rfl ⟨_, rfl, rfl⟩
  · skip
    refine hs (f := dm_ald 85 0) rfl rfl ?_
    refine v_geto rfl hM ha1 rfl (fun a13 ha13 => ?_)
    refine v_inv rfl rfl rfl (Nat.le_of_ble_eq_true rfl) hM ha13 (w_I (by decide) (sp_6  hM ha13 ) (fun x14 => ?_))
    exact hr (f := dm_ret .int) rfl rfl ⟨_, rfl, rfl⟩
  · skip
    refine hs (f := dm_ald 93 0) rfl rfl ?_
    refine v_geto rfl hM ha1 rfl (fun a15 ha15 => ?_)
    refine v_inv rfl rfl rfl (Nat.le_of_ble_eq_true rfl) hM ha15 (w_I (by decide) (sp_2  hM ha15 ) (fun x16 => ?_))
    exact hr (f := dm_ret .int) rfl rfl ⟨_, rfl, rfl⟩
theorem sp_125 {p : iv_P} {M : dm_Mem} (hM : Iv p M) {a1 : Nat} (ha1 : iv_ty a1 = some 7) (x2 : Int32) (x3 : Int32) (x4 : Int32) (x5 : Int32) : hT 6 125 [.ref a1, .int x2, .int x3, .int x4, .int x5] M (pB p) := by
  refine hx (t := cd_125) rfl (Nat.le_of_ble_eq_true rfl) (lv := [(0, .ref a1), (1, .int x2), (2, .int x3), (3, .int x4), (4, .int x5)]) rfl ?_
  refine hs (f := dm_ald 1 0) rfl rfl ?_
  refine v_geto rfl hM ha1 rfl (fun a6 ha6 => ?_)
  refine v_inv rfl rfl rfl (Nat.le_of_ble_eq_true rfl) hM ha6 (w_I (by decide) (sp_13  hM ha6 ) (fun x7 => ?_))
  refine hs (f := dm_ild 8 1) rfl rfl ?_
  refine hs (f := dm_ild 9 2) rfl rfl ?_
  refine hs (f := dm_ii 10 (fun x y => x + y)) (st' := [.int (x2 + x3), .int x7]) rfl rfl ?_
  refine h_ic_eq (n := 13) (tt := 23) rfl (fun h8 => ?_) (fun h8 => ?_)
  · skip
    refine hs (f := dm_ald 24 0) rfl rfl ?_
    refine v_geto rfl hM ha1 rfl (fun a9 ha9 => ?_)
    refine hs (f := dm_ald 28 0) rfl rfl ?_
    refine v_geto rfl hM ha1 rfl (fun a10 ha10 => ?_)
    refine hs (f := dm_ild 32 1) rfl rfl ?_
    refine hs (f := dm_ild 33 3) rfl rfl ?_
    refine hs (f := dm_ild 35 4) rfl rfl ?_
    refine v_inv rfl rfl rfl (Nat.le_of_ble_eq_true rfl) hM ha9 (u_V (by decide) (sp_3  hM ha9 ha10 x2 x4 x5 ) (fun M11 hM11 => ?_))
    refine hs (f := dm_ald 39 0) rfl rfl ?_
    refine v_geto rfl hM11 ha1 rfl (fun a12 ha12 => ?_)
    refine hs (f := dm_ild 43 3) rfl rfl ?_
    refine v_inv rfl rfl rfl (Nat.le_of_ble_eq_true rfl) hM11 ha12 (u_V (by decide) (sp_29  hM11 ha12 x4 ) (fun M13 hM13 => ?_))
    refine hs (f := dm_ald 47 0) rfl rfl ?_
    refine v_geto rfl hM13 ha1 rfl (fun a14 ha14 => ?_)
    refine hs (f := dm_ild 52 4) rfl rfl ?_
    refine v_inv rfl rfl rfl (Nat.le_of_ble_eq_true rfl) hM13 ha14 (u_V (by decide) (sp_29  hM13 ha14 x5 ) (fun M15 hM15 => ?_))
    refine hs (f := dm_push 56 (.int 1)) rfl rfl ?_
    exact h_retB rfl isB_1 ⟨_, isB_1, rfl, hM15⟩
  · skip
    refine hs (f := dm_ald 14 0) rfl rfl ?_
    refine v_geto rfl hM ha1 rfl (fun a16 ha16 => ?_)
    refine hs (f := dm_ild 18 1) rfl rfl ?_
    refine v_inv rfl rfl rfl (Nat.le_of_ble_eq_true rfl) hM ha16 (u_V (by decide) (sp_16  hM ha16 x2 ) (fun M17 hM17 => ?_))
    refine hs (f := dm_push 22 (.int 0)) rfl rfl ?_
    exact h_retB rfl isB_0 ⟨_, isB_0, rfl, hM17⟩
theorem sp_130 {p : iv_P} {M : dm_Mem} (hM : Iv p M) {a1 : Nat} (ha1 : iv_ty a1 = some 7) (x2 : Int32) : hT 5 130 [.ref a1, .int x2] M (pI p) := by
  refine hx (t := cd_130) rfl (Nat.le_of_ble_eq_true rfl) (lv := [(0, .ref a1), (1, .int x2)]) rfl ?_
  refine hs (f := dm_ald 1 0) rfl rfl ?_
  refine v_geto rfl hM ha1 rfl (fun a3 ha3 => ?_)
  refine hs (f := dm_push 5 (.int 0)) rfl rfl ?_
  refine hs (f := dm_ald 6 0) rfl rfl ?_
  refine v_geto rfl hM ha1 rfl (fun a4 ha4 => ?_)
  refine hs (f := dm_ild 10 1) rfl rfl ?_
  refine v_inv rfl rfl rfl (Nat.le_of_ble_eq_true rfl) hM ha4 (w_I (by decide) (sp_19  hM ha4 x2 ) (fun x5 => ?_))
  refine hs (f := dm_push 14 (.int 4)) rfl rfl ?_
  refine hs (f := dm_ild 15 1) rfl rfl ?_
  refine hs (f := dm_push 16 (.int (-1))) rfl rfl ?_
  refine v_inv rfl rfl rfl (Nat.le_of_ble_eq_true rfl) hM ha3 (u_I (by decide) (sp_15  hM ha3 0 x5 4 x2 (-1) ) (fun x6 M7 hM7 => ?_))
  exact hr (f := dm_ret .int) rfl rfl ⟨_, rfl, hM7⟩
theorem sp_132 {p : iv_P} (hp : p.2.2.1 = none) {M : dm_Mem} (hM : Iv p M) {a1 : Nat} (ha1 : iv_ty a1 = some 7) (x2 : Int32) : hT 67 132 [.ref a1, .int x2] M (pI p) := by
  refine hx (t := cd_132) rfl (Nat.le_of_ble_eq_true rfl) (lv := [(0, .ref a1), (1, .int x2)]) rfl ?_
  refine hs (f := dm_ald 1 0) rfl rfl ?_
  refine v_geto rfl hM ha1 rfl (fun a3 ha3 => ?_)
  refine hs (f := dm_push 5 (.int 0)) rfl rfl ?_
  refine v_inv rfl rfl rfl (Nat.le_of_ble_eq_true rfl) hM ha3 (u_B (by decide) (sp_9 hp hM ha3 0 ) (fun x4 bx4 M5 hM5 => ?_))
  refine hs (f := dm_pop 9) (st' := []) rfl rfl ?_
  refine hs (f := dm_ald 10 0) rfl rfl ?_
  refine v_geto rfl hM5 ha1 rfl (fun a6 ha6 => ?_)
  refine v_geto rfl hM5 ha6 rfl (fun a7 ha7 => ?_)
  refine hs (f := dm_ald 17 0) rfl rfl ?_
  refine v_geto rfl hM5 ha1 rfl (fun a8 ha8 => ?_)
  refine hs (f := dm_ild 21 1) rfl rfl ?_
  refine v_inv rfl rfl rfl (Nat.le_of_ble_eq_true rfl) hM5 ha8 (w_I (by decide) (sp_18  hM5 ha8 x2 ) (fun x9 => ?_))
  refine hs (f := dm_ald 25 0) rfl rfl ?_
  refine v_geto rfl hM5 ha1 rfl (fun a10 ha10 => ?_)
  refine hs (f := dm_push 29 (.int 0)) rfl rfl ?_
  refine hc (f := dm_ins 32 91 4) (as := [.ref a7, .int x9, .ref a10, .int 0]) rfl rfl (u_V (by decide) (rk_91 hp  60 M5 hM5 a7 ha7 x9 a10 ha10 0 mR_0) (fun M11 hM11 => ?_))
  refine hs (f := dm_ald 33 0) rfl rfl ?_
  refine v_geto rfl hM11 ha1 rfl (fun a12 ha12 => ?_)
  refine v_geto rfl hM11 ha12 rfl (fun a13 ha13 => ?_)
  refine hs (f := dm_ald 40 0) rfl rfl ?_
  refine v_geto rfl hM11 ha1 rfl (fun a14 ha14 => ?_)
  refine hs (f := dm_ild 44 1) rfl rfl ?_
  refine v_inv rfl rfl rfl (Nat.le_of_ble_eq_true rfl) hM11 ha14 (w_I (by decide) (sp_19  hM11 ha14 x2 ) (fun x15 => ?_))
  refine hs (f := dm_ald 48 0) rfl rfl ?_
  refine v_geto rfl hM11 ha1 rfl (fun a16 ha16 => ?_)
  refine hs (f := dm_push 52 (.int 0)) rfl rfl ?_
  refine hc (f := dm_ins 55 92 4) (as := [.ref a13, .int x15, .ref a16, .int 0]) rfl rfl (u_V (by decide) (rk_92 hp  60 M11 hM11 a13 ha13 x15 a16 ha16 0 mR_0) (fun M17 hM17 => ?_))
  refine hs (f := dm_ald 56 0) rfl rfl ?_
  refine v_geto rfl hM17 ha1 rfl (fun a18 ha18 => ?_)
  refine v_inv rfl rfl rfl (Nat.le_of_ble_eq_true rfl) hM17 ha18 (w_I (by decide) (sp_6  hM17 ha18 ) (fun x19 => ?_))
  exact hr (f := dm_ret .int) rfl rfl ⟨_, rfl, hM17⟩
theorem sp_4 {p : iv_P} {M : dm_Mem} (hM : Iv p M) {a1 : Nat} (ha1 : iv_ty a1 = some 0) {a2 : Nat} (ha2 : iv_ty a2 = some 2) : hT 5 4 [.ref a1, .ref a2] M (pB p) := by
  refine hx (t := cd_4) rfl (Nat.le_of_ble_eq_true rfl) (lv := [(0, .ref a1), (1, .ref a2)]) rfl ?_
  refine hs (f := dm_ald 1 0) rfl rfl ?_
  refine v_geti rfl hM ha1 rfl (fun x3 _ => ?_)
  refine h_if_ne (n := 7) (tt := 9) rfl (fun h4 => ?_) (fun h4 => ?_)
  · skip
    refine hs (f := dm_ald 10 0) rfl rfl ?_
    refine hs (f := dm_dup 11) (st' := [.ref a1, .ref a1]) rfl rfl ?_
    refine v_geti rfl hM ha1 rfl (fun x5 _ => ?_)
    refine hs (f := dm_push 15 (.int 1)) rfl rfl ?_
    refine hs (f := dm_ii 16 (fun x y => x - y)) (st' := [.int (x5 - (1 : Int32)), .ref a1]) rfl rfl ?_
    refine v_puti rfl hM ha1 rfl (fun M6 hM6 => ?_)
    refine hs (f := dm_ald 20 1) rfl rfl ?_
    refine hs (f := dm_ald 21 0) rfl rfl ?_
    refine v_geto rfl hM6 ha1 rfl (fun a7 ha7 => ?_)
    refine hs (f := dm_ald 25 0) rfl rfl ?_
    refine v_geti rfl hM6 ha1 rfl (fun x8 _ => ?_)
    refine v_inv rfl rfl rfl (Nat.le_of_ble_eq_true rfl) hM6 ha7 (w_I (by decide) (sp_45  hM6 ha7 x8 ) (fun x9 => ?_))
    refine v_inv rfl rfl rfl (Nat.le_of_ble_eq_true rfl) hM6 ha2 (u_V (by decide) (sp_16  hM6 ha2 x9 ) (fun M10 hM10 => ?_))
    refine hs (f := dm_ald 35 1) rfl rfl ?_
    refine hs (f := dm_ald 36 0) rfl rfl ?_
    refine v_geto rfl hM10 ha1 rfl (fun a11 ha11 => ?_)
    refine hs (f := dm_ald 40 0) rfl rfl ?_
    refine v_geti rfl hM10 ha1 rfl (fun x12 _ => ?_)
    refine v_inv rfl rfl rfl (Nat.le_of_ble_eq_true rfl) hM10 ha11 (w_I (by decide) (sp_45  hM10 ha11 x12 ) (fun x13 => ?_))
    refine hs (f := dm_ald 47 0) rfl rfl ?_
    refine v_geto rfl hM10 ha1 rfl (fun a14 ha14 => ?_)
    refine hs (f := dm_ald 51 0) rfl rfl ?_
    refine v_geti rfl hM10 ha1 rfl (fun x15 _ => ?_)
    refine v_inv rfl rfl rfl (Nat.le_of_ble_eq_true rfl) hM10 ha14 (w_I (by decide) (sp_45  hM10 ha14 x15 ) (fun x16 => ?_))
    refine v_inv rfl rfl rfl (Nat.le_of_ble_eq_true rfl) hM10 ha2 (u_V (by decide) (sp_24  hM10 ha2 x13 x16 ) (fun M17 hM17 => ?_))
    refine hs (f := dm_ald 61 1) rfl rfl ?_
    refine hs (f := dm_ald 62 0) rfl rfl ?_
    refine v_geto rfl hM17 ha1 rfl (fun a18 ha18 => ?_)
    refine hs (f := dm_ald 66 0) rfl rfl ?_
    refine v_geti rfl hM17 ha1 rfl (fun x19 _ => ?_)
    refine v_inv rfl rfl rfl (Nat.le_of_ble_eq_true rfl) hM17 ha18 (w_I (by decide) (sp_45  hM17 ha18 x19 ) (fun x20 => ?_))
    refine hs (f := dm_ald 73 0) rfl rfl ?_
    refine v_geto rfl hM17 ha1 rfl (fun a21 ha21 => ?_)
    refine hs (f := dm_ald 77 0) rfl rfl ?_
    refine v_geti rfl hM17 ha1 rfl (fun x22 _ => ?_)
    refine v_inv rfl rfl rfl (Nat.le_of_ble_eq_true rfl) hM17 ha21 (w_I (by decide) (sp_45  hM17 ha21 x22 ) (fun x23 => ?_))
    refine v_inv rfl rfl rfl (Nat.le_of_ble_eq_true rfl) hM17 ha2 (u_V (by decide) (sp_24  hM17 ha2 x20 x23 ) (fun M24 hM24 => ?_))
    refine hs (f := dm_push 87 (.int 1)) rfl rfl ?_
    exact h_retB rfl isB_1 ⟨_, isB_1, rfl, hM24⟩
  · skip
    refine hs (f := dm_push 8 (.int 0)) rfl rfl ?_
    exact h_retB rfl isB_0 ⟨_, isB_0, rfl, hM⟩
theorem sp_12 {p : iv_P} {M : dm_Mem} (hM : Iv p M) {a1 : Nat} (ha1 : iv_ty a1 = some 2) : hT 6 12 [.ref a1] M (pV p) := by
  refine hx (t := cd_12) rfl (Nat.le_of_ble_eq_true rfl) (lv := [(0, .ref a1)]) rfl ?_
  refine hs (f := dm_ald 1 0) rfl rfl ?_
  refine hs (f := dm_push 2 (.int 0)) rfl rfl ?_
  refine v_puti rfl hM ha1 rfl (fun M2 hM2 => ?_)
  refine hs (f := dm_ald 6 0) rfl rfl ?_
  refine v_geto rfl hM2 ha1 rfl (fun a3 ha3 => ?_)
  refine v_inv rfl rfl rfl (Nat.le_of_ble_eq_true rfl) hM2 ha3 (u_V (by decide) (sp_72  hM2 ha3 ) (fun M4 hM4 => ?_))
  refine hs (f := dm_ald 13 0) rfl rfl ?_
  refine hs (f := dm_push 14 (.int 1)) rfl rfl ?_
  refine hs (f := dm_push 15 (.int 0)) rfl rfl ?_
  refine hs (f := dm_push 16 (.int 0)) rfl rfl ?_
  refine hs (f := dm_push 17 (.int (-1))) rfl rfl ?_
  refine hs (f := dm_push 18 (.int (-1))) rfl rfl ?_
  refine v_inv rfl rfl rfl (Nat.le_of_ble_eq_true rfl) hM4 ha1 (u_I (by decide) (sp_15  hM4 ha1 1 0 0 (-1) (-1) ) (fun x5 M6 hM6 => ?_))
  refine hs (f := dm_pop 22) (st' := []) rfl rfl ?_
  exact hr (f := dm_vret) rfl rfl ⟨rfl, hM6⟩
theorem sp_34 {p : iv_P} {M : dm_Mem} (hM : Iv p M) {a1 : Nat} (ha1 : iv_ty a1 = some 6) (x2 : Int32) : hT 5 34 [.ref a1, .int x2] M (qB M) := by
  have j62_0 : ∀ (x3 : Int32) (x4 : Int32) (a5 : Nat) (ha5 : iv_ty a5 = some 6) (x6 : Int32) (x7 : Int32) (bx7 : isB x7), hG 4 cd_34 62 [(3, .int x3), (2, .int x4), (0, .ref a5), (1, .int x6)] [.int x7] M (qB M) := by
    intro x3 x4 a5 ha5 x6 x7 bx7
    exact h_retB rfl bx7 ⟨_, bx7, rfl, rfl⟩
  have j51_1 : ∀ (x8 : Int32) (x9 : Int32) (a10 : Nat) (ha10 : iv_ty a10 = some 6) (x11 : Int32), hG 4 cd_34 51 [(3, .int x8), (2, .int x9), (0, .ref a10), (1, .int x11)] [] M (qB M) := by
    intro x8 x9 a10 ha10 x11
    refine hs (f := dm_ild 52 3) rfl rfl ?_
    refine hs (f := dm_push 54 (.int 60)) rfl rfl ?_
    refine h_ic_ge (n := 57) (tt := 61) rfl (fun h12 => ?_) (fun h12 => ?_)
    · skip
      refine hs (f := dm_push 62 (.int 0)) rfl rfl ?_
      exact j62_0 x8 x9 a10 ha10 x11 0 isB_0
    · skip
      refine hs (f := dm_push 58 (.int 1)) rfl rfl ?_
      refine hs (f := dm_goto 62) rfl rfl ?_
      exact j62_0 x8 x9 a10 ha10 x11 1 isB_1
  have j4_2 : ∀ (nn : Nat) (x13 : Int32) (x14 : Int32) (a15 : Nat) (ha15 : iv_ty a15 = some 6) (x16 : Int32), mU x13 = nn → hG 4 cd_34 4 [(3, .int x13), (2, .int x14), (0, .ref a15), (1, .int x16)] [] M (qB M) := by
    intro nn
    induction nn using Nat.strongRecOn with
    | ind nn IHn =>
      intro x13 x14 a15 ha15 x16 hn
      have j44_3 : ∀ (x17 : Int32) (x18 : Int32) (a19 : Nat) (ha19 : iv_ty a19 = some 6) (x20 : Int32) (x21 : Int32), mU (x17 + 1) < nn → hG 4 cd_34 44 [(3, .int x17), (2, .int x18), (0, .ref a19), (1, .int x20)] [.int x21] M (qB M) := by
        intro x17 x18 a19 ha19 x20 x21 hF
        refine hs (f := dm_ist 45 2) (lv' := [(2, .int x21), (3, .int x17), (0, .ref a19), (1, .int x20)]) rfl rfl ?_
        refine hs (f := dm_iinc 48 3 1) (lv' := [(3, .int (x17 + 1)), (2, .int x21), (0, .ref a19), (1, .int x20)]) rfl rfl ?_
        refine hs (f := dm_goto 4) rfl rfl ?_
        exact IHn _ hF (x17 + 1) x21 a19 ha19 x20 rfl
      refine hs (f := dm_ild 5 3) rfl rfl ?_
      refine hs (f := dm_push 7 (.int 60)) rfl rfl ?_
      refine h_ic_ge (n := 10) (tt := 51) rfl (fun h22 => ?_) (fun h22 => ?_)
      · skip
        exact j51_1 x13 x14 a15 ha15 x16
      · skip
        have hF : mU (x13 + 1) < nn := hn ▸ mU_lt h22
        refine hs (f := dm_ald 11 0) rfl rfl ?_
        refine hs (f := dm_ild 12 2) rfl rfl ?_
        refine hc (f := dm_ins 15 35 2) (as := [.ref a15, .int x14]) rfl rfl (w_B (by decide) (sp_35  hM ha15 x14 ) (fun x23 bx23 => ?_))
        refine h_if_eq (n := 18) (tt := 51) rfl (fun h24 => ?_) (fun h24 => ?_)
        · skip
          exact j51_1 x13 x14 a15 ha15 x16
        · skip
          refine hs (f := dm_ald 19 0) rfl rfl ?_
          refine hs (f := dm_ald 20 0) rfl rfl ?_
          refine hs (f := dm_ild 21 2) rfl rfl ?_
          refine v_inv rfl rfl rfl (Nat.le_of_ble_eq_true rfl) hM ha15 (w_I (by decide) (sp_79  hM ha15 x14 ) (fun x25 => ?_))
          refine hs (f := dm_push 25 (.int 0)) rfl rfl ?_
          refine v_inv rfl rfl rfl (Nat.le_of_ble_eq_true rfl) hM ha15 (w_B (by decide) (sp_78  hM ha15 x25 0 ) (fun x26 bx26 => ?_))
          refine h_if_eq (n := 31) (tt := 39) rfl (fun h27 => ?_) (fun h27 => ?_)
          · skip
            refine hs (f := dm_ald 40 0) rfl rfl ?_
            refine hs (f := dm_ild 41 2) rfl rfl ?_
            refine v_inv rfl rfl rfl (Nat.le_of_ble_eq_true rfl) hM ha15 (w_I (by decide) (sp_79  hM ha15 x14 ) (fun x28 => ?_))
            exact j44_3 x13 x14 a15 ha15 x16 x28 hF
          · skip
            refine hs (f := dm_ald 32 0) rfl rfl ?_
            refine hs (f := dm_ild 33 2) rfl rfl ?_
            refine v_inv rfl rfl rfl (Nat.le_of_ble_eq_true rfl) hM ha15 (w_I (by decide) (sp_80  hM ha15 x14 ) (fun x29 => ?_))
            refine hs (f := dm_goto 44) rfl rfl ?_
            exact j44_3 x13 x14 a15 ha15 x16 x29 hF
  refine hx (t := cd_34) rfl (Nat.le_of_ble_eq_true rfl) (lv := [(0, .ref a1), (1, .int x2)]) rfl ?_
  refine hs (f := dm_ild 1 1) rfl rfl ?_
  refine hs (f := dm_ist 2 2) (lv' := [(2, .int x2), (0, .ref a1), (1, .int x2)]) rfl rfl ?_
  refine hs (f := dm_push 3 (.int 0)) rfl rfl ?_
  refine hs (f := dm_ist 4 3) (lv' := [(3, .int 0), (2, .int x2), (0, .ref a1), (1, .int x2)]) rfl rfl ?_
  exact j4_2 _ 0 x2 a1 ha1 x2 rfl
theorem sp_36 {p : iv_P} {M : dm_Mem} (hM : Iv p M) {a1 : Nat} (ha1 : iv_ty a1 = some 6) (x2 : Int32) (x3 : Int32) : hT 66 36 [.ref a1, .int x2, .int x3] M (pI p) := by
  refine hx (t := cd_36) rfl (Nat.le_of_ble_eq_true rfl) (lv := [(0, .ref a1), (1, .int x2), (2, .int x3)]) rfl ?_
  refine hs (f := dm_ald 1 0) rfl rfl ?_
  refine v_inv rfl rfl rfl (Nat.le_of_ble_eq_true rfl) hM ha1 (w_I (by decide) (sp_73  hM ha1 ) (fun x4 => ?_))
  refine hs (f := dm_ist 5 3) (lv' := [(3, .int x4), (0, .ref a1), (1, .int x2), (2, .int x3)]) rfl rfl ?_
  refine hs (f := dm_ald 6 0) rfl rfl ?_
  refine hs (f := dm_ild 7 1) rfl rfl ?_
  refine hs (f := dm_ild 8 2) rfl rfl ?_
  refine hs (f := dm_push 9 (.int 0)) rfl rfl ?_
  refine hc (f := dm_ins 12 37 4) (as := [.ref a1, .int x2, .int x3, .int 0]) rfl rfl (u_V (by decide) (rk_37   60 M hM a1 ha1 x2 x3 0 mR_0) (fun M5 hM5 => ?_))
  refine hs (f := dm_ild 13 3) rfl rfl ?_
  exact hr (f := dm_ret .int) rfl rfl ⟨_, rfl, hM5⟩
theorem sp_38 {p : iv_P} {M : dm_Mem} (hM : Iv p M) {a1 : Nat} (ha1 : iv_ty a1 = some 6) (x2 : Int32) (x3 : Int32) : hT 66 38 [.ref a1, .int x2, .int x3] M (pI p) := by
  refine hx (t := cd_38) rfl (Nat.le_of_ble_eq_true rfl) (lv := [(0, .ref a1), (1, .int x2), (2, .int x3)]) rfl ?_
  refine hs (f := dm_ald 1 0) rfl rfl ?_
  refine v_inv rfl rfl rfl (Nat.le_of_ble_eq_true rfl) hM ha1 (w_I (by decide) (sp_73  hM ha1 ) (fun x4 => ?_))
  refine hs (f := dm_ist 5 3) (lv' := [(3, .int x4), (0, .ref a1), (1, .int x2), (2, .int x3)]) rfl rfl ?_
  refine hs (f := dm_ald 6 0) rfl rfl ?_
  refine hs (f := dm_ild 7 1) rfl rfl ?_
  refine hs (f := dm_push 8 (.int 0)) rfl rfl ?_
  refine hs (f := dm_ild 9 2) rfl rfl ?_
  refine hs (f := dm_push 10 (.int 0)) rfl rfl ?_
  refine hs (f := dm_push 11 (.int 0)) rfl rfl ?_
  refine hc (f := dm_ins 14 39 6) (as := [.ref a1, .int x2, .int 0, .int x3, .int 0, .int 0]) rfl rfl (u_V (by decide) (rk_39   60 M hM a1 ha1 x2 0 x3 0 0 mR_0) (fun M5 hM5 => ?_))
  refine hs (f := dm_ild 15 3) rfl rfl ?_
  exact hr (f := dm_ret .int) rfl rfl ⟨_, rfl, hM5⟩
theorem rk_41 {p : iv_P} (kk : Nat) : ∀ (M : dm_Mem) (hM : Iv p M) (a1 : Nat) (ha1 : iv_ty a1 = some 6) (x2 : Int32) (x3 : Int32) (x4 : Int32), mR x4 = kk → hT (64 + 1 + kk) 41 [.ref a1, .int x2, .int x3, .int x4] M (pV p) := by
  induction kk using Nat.strongRecOn with
  | ind kk IH =>
    intro M hM a1 ha1 x2 x3 x4 hk
    have j214_0 : ∀ (M : dm_Mem) (hM : Iv p M) (x5 : Int32) (x6 : Int32) (x7 : Int32) (a8 : Nat) (ha8 : iv_ty a8 = some 6) (x9 : Int32) (x10 : Int32) (x11 : Int32), mR x11 = kk → mR (x11 + 1) < kk → hG (64 + kk) cd_41 214 [(6, .int x5), (5, .int x6), (4, .int x7), (0, .ref a8), (1, .int x9), (2, .int x10), (3, .int x11)] [] M (pV p) := by
      intro M hM x5 x6 x7 a8 ha8 x9 x10 x11 hk hF
      refine hs (f := dm_ald 215 0) rfl rfl ?_
      refine hs (f := dm_ild 217 4) rfl rfl ?_
      refine v_inv rfl rfl rfl (Nat.le_of_ble_eq_true rfl) hM ha8 (u_V (by omega) (sp_83  hM ha8 x7 ) (fun M12 hM12 => ?_))
      exact hr (f := dm_vret) rfl rfl ⟨rfl, hM12⟩
    have j180_1 : ∀ (M : dm_Mem) (hM : Iv p M) (x13 : Int32) (x14 : Int32) (x15 : Int32) (a16 : Nat) (ha16 : iv_ty a16 = some 6) (x17 : Int32) (x18 : Int32) (x19 : Int32), mR x19 = kk → mR (x19 + 1) < kk → hG (64 + kk) cd_41 180 [(6, .int x13), (5, .int x14), (4, .int x15), (0, .ref a16), (1, .int x17), (2, .int x18), (3, .int x19)] [] M (pV p) := by
      intro M hM x13 x14 x15 a16 ha16 x17 x18 x19 hk hF
      refine hs (f := dm_ald 181 0) rfl rfl ?_
      refine hs (f := dm_ald 182 0) rfl rfl ?_
      refine hs (f := dm_ild 183 1) rfl rfl ?_
      refine v_inv rfl rfl rfl (Nat.le_of_ble_eq_true rfl) hM ha16 (w_I (by omega) (sp_79  hM ha16 x17 ) (fun x20 => ?_))
      refine hs (f := dm_push 187 (.int 1)) rfl rfl ?_
      refine v_inv rfl rfl rfl (Nat.le_of_ble_eq_true rfl) hM ha16 (w_B (by omega) (sp_78  hM ha16 x20 1 ) (fun x21 bx21 => ?_))
      refine h_if_eq (n := 193) (tt := 214) rfl (fun h22 => ?_) (fun h22 => ?_)
      · skip
        exact j214_0 M hM x13 x14 x15 a16 ha16 x17 x18 x19 hk hF
      · skip
        refine hs (f := dm_ald 194 0) rfl rfl ?_
        refine hs (f := dm_ild 196 5) rfl rfl ?_
        refine hs (f := dm_ald 197 0) rfl rfl ?_
        refine hs (f := dm_ild 199 5) rfl rfl ?_
        refine v_inv rfl rfl rfl (Nat.le_of_ble_eq_true rfl) hM ha16 (w_I (by omega) (sp_75  hM ha16 x14 ) (fun x23 => ?_))
        refine hs (f := dm_ald 203 0) rfl rfl ?_
        refine hs (f := dm_ild 205 6) rfl rfl ?_
        refine v_inv rfl rfl rfl (Nat.le_of_ble_eq_true rfl) hM ha16 (w_I (by omega) (sp_75  hM ha16 x13 ) (fun x24 => ?_))
        refine hs (f := dm_mx 211) (st' := [.int (if x23 < x24 then x24 else x23), .int x14, .ref a16]) rfl rfl ?_
        refine v_inv rfl rfl rfl (Nat.le_of_ble_eq_true rfl) hM ha16 (u_V (by omega) (sp_76  hM ha16 x14 (if x23 < x24 then x24 else x23) ) (fun M25 hM25 => ?_))
        exact j214_0 M25 hM25 x13 x14 x15 a16 ha16 x17 x18 x19 hk hF
    have j112_2 : ∀ (M : dm_Mem) (hM : Iv p M) (x26 : Int32) (x27 : Int32) (a28 : Nat) (ha28 : iv_ty a28 = some 6) (x29 : Int32) (x30 : Int32) (x31 : Int32), mR x31 = kk → mR (x31 + 1) < kk → hG (64 + kk) cd_41 112 [(5, .int x26), (4, .int x27), (0, .ref a28), (1, .int x29), (2, .int x30), (3, .int x31)] [] M (pV p) := by
      intro M hM x26 x27 a28 ha28 x29 x30 x31 hk hF
      refine hs (f := dm_ald 113 0) rfl rfl ?_
      refine hs (f := dm_ild 115 4) rfl rfl ?_
      refine v_inv rfl rfl rfl (Nat.le_of_ble_eq_true rfl) hM ha28 (u_V (by omega) (sp_82  hM ha28 x27 ) (fun M32 hM32 => ?_))
      refine hs (f := dm_ald 119 0) rfl rfl ?_
      refine v_inv rfl rfl rfl (Nat.le_of_ble_eq_true rfl) hM32 ha28 (w_I (by omega) (sp_73  hM32 ha28 ) (fun x33 => ?_))
      refine hs (f := dm_ist 124 6) (lv' := [(6, .int x33), (5, .int x26), (4, .int x27), (0, .ref a28), (1, .int x29), (2, .int x30), (3, .int x31)]) rfl rfl ?_
      refine hs (f := dm_ald 125 0) rfl rfl ?_
      refine hs (f := dm_ald 126 0) rfl rfl ?_
      refine hs (f := dm_ild 127 1) rfl rfl ?_
      refine v_inv rfl rfl rfl (Nat.le_of_ble_eq_true rfl) hM32 ha28 (w_I (by omega) (sp_80  hM32 ha28 x29 ) (fun x34 => ?_))
      refine hs (f := dm_push 131 (.int 1)) rfl rfl ?_
      refine v_inv rfl rfl rfl (Nat.le_of_ble_eq_true rfl) hM32 ha28 (w_B (by omega) (sp_78  hM32 ha28 x34 1 ) (fun x35 bx35 => ?_))
      refine h_if_eq (n := 137) (tt := 163) rfl (fun h36 => ?_) (fun h36 => ?_)
      · skip
        refine hs (f := dm_ald 164 0) rfl rfl ?_
        refine hs (f := dm_ald 165 0) rfl rfl ?_
        refine hs (f := dm_ild 166 1) rfl rfl ?_
        refine v_inv rfl rfl rfl (Nat.le_of_ble_eq_true rfl) hM32 ha28 (w_I (by omega) (sp_80  hM32 ha28 x29 ) (fun x37 => ?_))
        refine hs (f := dm_ald 170 0) rfl rfl ?_
        refine hs (f := dm_ild 171 2) rfl rfl ?_
        refine v_inv rfl rfl rfl (Nat.le_of_ble_eq_true rfl) hM32 ha28 (w_I (by omega) (sp_80  hM32 ha28 x30 ) (fun x38 => ?_))
        refine hs (f := dm_ild 175 3) rfl rfl ?_
        refine hs (f := dm_push 176 (.int 1)) rfl rfl ?_
        refine hs (f := dm_ii 177 (fun x y => x + y)) (st' := [.int (x31 + (1 : Int32)), .int x38, .int x37, .ref a28]) rfl rfl ?_
        refine hc (f := dm_ins 180 41 4) (as := [.ref a28, .int x37, .int x38, .int (x31 + (1 : Int32))]) rfl rfl (u_V (by omega) (IH _ hF M32 hM32 a28 ha28 x37 x38 (x31 + (1 : Int32)) rfl) (fun M39 hM39 => ?_))
        exact j180_1 M39 hM39 x33 x26 x27 a28 ha28 x29 x30 x31 hk hF
      · skip
        refine hs (f := dm_ald 138 0) rfl rfl ?_
        refine hs (f := dm_ald 139 0) rfl rfl ?_
        refine hs (f := dm_ald 140 0) rfl rfl ?_
        refine hs (f := dm_ild 141 2) rfl rfl ?_
        refine v_inv rfl rfl rfl (Nat.le_of_ble_eq_true rfl) hM32 ha28 (w_I (by omega) (sp_80  hM32 ha28 x30 ) (fun x40 => ?_))
        refine v_inv rfl rfl rfl (Nat.le_of_ble_eq_true rfl) hM32 ha28 (w_I (by omega) (sp_88  hM32 ha28 x40 ) (fun x41 => ?_))
        refine hs (f := dm_ald 148 0) rfl rfl ?_
        refine hs (f := dm_ild 150 5) rfl rfl ?_
        refine v_inv rfl rfl rfl (Nat.le_of_ble_eq_true rfl) hM32 ha28 (w_I (by omega) (sp_75  hM32 ha28 x26 ) (fun x42 => ?_))
        refine hs (f := dm_mx 156) (st' := [.int (if x41 < x42 then x42 else x41), .ref a28]) rfl rfl ?_
        refine v_inv rfl rfl rfl (Nat.le_of_ble_eq_true rfl) hM32 ha28 (u_I (by omega) (sp_81  hM32 ha28 (if x41 < x42 then x42 else x41) ) (fun x43 M44 hM44 => ?_))
        refine hs (f := dm_pop 160) (st' := []) rfl rfl ?_
        refine hs (f := dm_goto 180) rfl rfl ?_
        exact j180_1 M44 hM44 x33 x26 x27 a28 ha28 x29 x30 x31 hk hF
    have j42_3 : ∀ (M : dm_Mem) (hM : Iv p M) (a45 : Nat) (ha45 : iv_ty a45 = some 6) (x46 : Int32) (x47 : Int32) (x48 : Int32), mR x48 = kk → hG (64 + kk) cd_41 42 [(0, .ref a45), (1, .int x46), (2, .int x47), (3, .int x48)] [] M (pV p) := by
      intro M hM a45 ha45 x46 x47 x48 hk
      refine hs (f := dm_ald 43 0) rfl rfl ?_
      refine hs (f := dm_ild 44 2) rfl rfl ?_
      refine v_inv rfl rfl rfl (Nat.le_of_ble_eq_true rfl) hM ha45 (u_V (by omega) (sp_85  hM ha45 x47 ) (fun M49 hM49 => ?_))
      exact hr (f := dm_vret) rfl rfl ⟨rfl, hM49⟩
    rw [show 64 + 1 + kk = (64 + kk) + 1 by omega]
    refine hx (t := cd_41) rfl (Nat.le_of_ble_eq_true rfl) (lv := [(0, .ref a1), (1, .int x2), (2, .int x3), (3, .int x4)]) rfl ?_
    refine hs (f := dm_ald 1 0) rfl rfl ?_
    refine hs (f := dm_ild 2 1) rfl rfl ?_
    refine hs (f := dm_push 3 (.int 1)) rfl rfl ?_
    refine v_inv rfl rfl rfl (Nat.le_of_ble_eq_true rfl) hM ha1 (w_B (by omega) (sp_78  hM ha1 x2 1 ) (fun x50 bx50 => ?_))
    refine h_if_eq (n := 9) (tt := 20) rfl (fun h51 => ?_) (fun h51 => ?_)
    · skip
      refine hs (f := dm_ald 21 0) rfl rfl ?_
      refine hs (f := dm_ild 22 1) rfl rfl ?_
      refine v_inv rfl rfl rfl (Nat.le_of_ble_eq_true rfl) hM ha1 (w_B (by omega) (sp_77  hM ha1 x2 ) (fun x52 bx52 => ?_))
      refine h_if_ne (n := 28) (tt := 42) rfl (fun h53 => ?_) (fun h53 => ?_)
      · skip
        exact j42_3 M hM a1 ha1 x2 x3 x4 hk
      · skip
        refine hs (f := dm_ald 29 0) rfl rfl ?_
        refine hs (f := dm_ild 30 2) rfl rfl ?_
        refine v_inv rfl rfl rfl (Nat.le_of_ble_eq_true rfl) hM ha1 (w_B (by omega) (sp_77  hM ha1 x3 ) (fun x54 bx54 => ?_))
        refine h_if_ne (n := 36) (tt := 42) rfl (fun h55 => ?_) (fun h55 => ?_)
        · skip
          exact j42_3 M hM a1 ha1 x2 x3 x4 hk
        · skip
          refine hs (f := dm_ild 37 3) rfl rfl ?_
          refine hs (f := dm_push 39 (.int 60)) rfl rfl ?_
          refine h_ic_lt (n := 42) (tt := 48) rfl (fun h56 => ?_) (fun h56 => ?_)
          · skip
            have hF : mR (x4 + 1) < kk := hk ▸ mR_lt2 h56
            refine hs (f := dm_ald 49 0) rfl rfl ?_
            refine hs (f := dm_ald 50 0) rfl rfl ?_
            refine hs (f := dm_ild 51 2) rfl rfl ?_
            refine v_inv rfl rfl rfl (Nat.le_of_ble_eq_true rfl) hM ha1 (w_I (by omega) (sp_75  hM ha1 x3 ) (fun x57 => ?_))
            refine v_inv rfl rfl rfl (Nat.le_of_ble_eq_true rfl) hM ha1 (u_I (by omega) (sp_81  hM ha1 x57 ) (fun x58 M59 hM59 => ?_))
            refine hs (f := dm_ist 59 4) (lv' := [(4, .int x58), (0, .ref a1), (1, .int x2), (2, .int x3), (3, .int x4)]) rfl rfl ?_
            refine hs (f := dm_ald 60 0) rfl rfl ?_
            refine v_inv rfl rfl rfl (Nat.le_of_ble_eq_true rfl) hM59 ha1 (w_I (by omega) (sp_73  hM59 ha1 ) (fun x60 => ?_))
            refine hs (f := dm_ist 65 5) (lv' := [(5, .int x60), (4, .int x58), (0, .ref a1), (1, .int x2), (2, .int x3), (3, .int x4)]) rfl rfl ?_
            refine hs (f := dm_ald 66 0) rfl rfl ?_
            refine hs (f := dm_ald 67 0) rfl rfl ?_
            refine hs (f := dm_ild 68 1) rfl rfl ?_
            refine v_inv rfl rfl rfl (Nat.le_of_ble_eq_true rfl) hM59 ha1 (w_I (by omega) (sp_79  hM59 ha1 x2 ) (fun x61 => ?_))
            refine hs (f := dm_push 72 (.int 1)) rfl rfl ?_
            refine v_inv rfl rfl rfl (Nat.le_of_ble_eq_true rfl) hM59 ha1 (w_B (by omega) (sp_78  hM59 ha1 x61 1 ) (fun x62 bx62 => ?_))
            refine h_if_eq (n := 78) (tt := 95) rfl (fun h63 => ?_) (fun h63 => ?_)
            · skip
              refine hs (f := dm_ald 96 0) rfl rfl ?_
              refine hs (f := dm_ald 97 0) rfl rfl ?_
              refine hs (f := dm_ild 98 1) rfl rfl ?_
              refine v_inv rfl rfl rfl (Nat.le_of_ble_eq_true rfl) hM59 ha1 (w_I (by omega) (sp_79  hM59 ha1 x2 ) (fun x64 => ?_))
              refine hs (f := dm_ald 102 0) rfl rfl ?_
              refine hs (f := dm_ild 103 2) rfl rfl ?_
              refine v_inv rfl rfl rfl (Nat.le_of_ble_eq_true rfl) hM59 ha1 (w_I (by omega) (sp_79  hM59 ha1 x3 ) (fun x65 => ?_))
              refine hs (f := dm_ild 107 3) rfl rfl ?_
              refine hs (f := dm_push 108 (.int 1)) rfl rfl ?_
              refine hs (f := dm_ii 109 (fun x y => x + y)) (st' := [.int (x4 + (1 : Int32)), .int x65, .int x64, .ref a1]) rfl rfl ?_
              refine hc (f := dm_ins 112 41 4) (as := [.ref a1, .int x64, .int x65, .int (x4 + (1 : Int32))]) rfl rfl (u_V (by omega) (IH _ hF M59 hM59 a1 ha1 x64 x65 (x4 + (1 : Int32)) rfl) (fun M66 hM66 => ?_))
              exact j112_2 M66 hM66 x60 x58 a1 ha1 x2 x3 x4 hk hF
            · skip
              refine hs (f := dm_ald 79 0) rfl rfl ?_
              refine hs (f := dm_ald 80 0) rfl rfl ?_
              refine hs (f := dm_ald 81 0) rfl rfl ?_
              refine hs (f := dm_ild 82 2) rfl rfl ?_
              refine v_inv rfl rfl rfl (Nat.le_of_ble_eq_true rfl) hM59 ha1 (w_I (by omega) (sp_79  hM59 ha1 x3 ) (fun x67 => ?_))
              refine v_inv rfl rfl rfl (Nat.le_of_ble_eq_true rfl) hM59 ha1 (w_I (by omega) (sp_88  hM59 ha1 x67 ) (fun x68 => ?_))
              refine v_inv rfl rfl rfl (Nat.le_of_ble_eq_true rfl) hM59 ha1 (u_I (by omega) (sp_81  hM59 ha1 x68 ) (fun x69 M70 hM70 => ?_))
              refine hs (f := dm_pop 92) (st' := []) rfl rfl ?_
              refine hs (f := dm_goto 112) rfl rfl ?_
              exact j112_2 M70 hM70 x60 x58 a1 ha1 x2 x3 x4 hk hF
          · skip
            exact j42_3 M hM a1 ha1 x2 x3 x4 hk
    · skip
      refine hs (f := dm_ald 10 0) rfl rfl ?_
      refine hs (f := dm_ald 11 0) rfl rfl ?_
      refine hs (f := dm_ild 12 2) rfl rfl ?_
      refine v_inv rfl rfl rfl (Nat.le_of_ble_eq_true rfl) hM ha1 (w_I (by omega) (sp_88  hM ha1 x3 ) (fun x71 => ?_))
      refine v_inv rfl rfl rfl (Nat.le_of_ble_eq_true rfl) hM ha1 (u_I (by omega) (sp_81  hM ha1 x71 ) (fun x72 M73 hM73 => ?_))
      refine hs (f := dm_pop 19) (st' := []) rfl rfl ?_
      exact hr (f := dm_vret) rfl rfl ⟨rfl, hM73⟩
theorem rk_42 {p : iv_P} (kk : Nat) : ∀ (M : dm_Mem) (hM : Iv p M) (a1 : Nat) (ha1 : iv_ty a1 = some 6) (x2 : Int32) (x3 : Int32) (x4 : Int32), mR x4 = kk → hT (63 + 1 + kk) 42 [.ref a1, .int x2, .int x3, .int x4] M (pV p) := by
  induction kk using Nat.strongRecOn with
  | ind kk IH =>
    intro M hM a1 ha1 x2 x3 x4 hk
    have j150_0 : ∀ (M : dm_Mem) (hM : Iv p M) (x5 : Int32) (x6 : Int32) (x7 : Int32) (a8 : Nat) (ha8 : iv_ty a8 = some 6) (x9 : Int32) (x10 : Int32) (x11 : Int32), mR x11 = kk → mR (x11 + 1) < kk → hG (63 + kk) cd_42 150 [(6, .int x5), (5, .int x6), (4, .int x7), (0, .ref a8), (1, .int x9), (2, .int x10), (3, .int x11)] [] M (pV p) := by
      intro M hM x5 x6 x7 a8 ha8 x9 x10 x11 hk hF
      refine hs (f := dm_ald 151 0) rfl rfl ?_
      refine hs (f := dm_ild 153 6) rfl rfl ?_
      refine v_inv rfl rfl rfl (Nat.le_of_ble_eq_true rfl) hM ha8 (u_V (by omega) (sp_83  hM ha8 x5 ) (fun M12 hM12 => ?_))
      exact hr (f := dm_vret) rfl rfl ⟨rfl, hM12⟩
    have j14_1 : ∀ (M : dm_Mem) (hM : Iv p M) (a13 : Nat) (ha13 : iv_ty a13 = some 6) (x14 : Int32) (x15 : Int32) (x16 : Int32), mR x16 = kk → hG (63 + kk) cd_42 14 [(0, .ref a13), (1, .int x14), (2, .int x15), (3, .int x16)] [] M (pV p) := by
      intro M hM a13 ha13 x14 x15 x16 hk
      refine hs (f := dm_ald 15 0) rfl rfl ?_
      refine hs (f := dm_ald 16 0) rfl rfl ?_
      refine hs (f := dm_ild 17 2) rfl rfl ?_
      refine v_inv rfl rfl rfl (Nat.le_of_ble_eq_true rfl) hM ha13 (w_I (by omega) (sp_75  hM ha13 x15 ) (fun x17 => ?_))
      refine hs (f := dm_push 21 (.int 1)) rfl rfl ?_
      refine hs (f := dm_ii 22 (fun x y => x + y)) (st' := [.int (x17 + (1 : Int32)), .ref a13]) rfl rfl ?_
      refine v_inv rfl rfl rfl (Nat.le_of_ble_eq_true rfl) hM ha13 (u_I (by omega) (sp_81  hM ha13 (x17 + (1 : Int32)) ) (fun x18 M19 hM19 => ?_))
      refine hs (f := dm_pop 26) (st' := []) rfl rfl ?_
      exact hr (f := dm_vret) rfl rfl ⟨rfl, hM19⟩
    rw [show 63 + 1 + kk = (63 + kk) + 1 by omega]
    refine hx (t := cd_42) rfl (Nat.le_of_ble_eq_true rfl) (lv := [(0, .ref a1), (1, .int x2), (2, .int x3), (3, .int x4)]) rfl ?_
    refine hs (f := dm_ald 1 0) rfl rfl ?_
    refine hs (f := dm_ild 2 1) rfl rfl ?_
    refine v_inv rfl rfl rfl (Nat.le_of_ble_eq_true rfl) hM ha1 (w_B (by omega) (sp_77  hM ha1 x2 ) (fun x20 bx20 => ?_))
    refine h_if_ne (n := 8) (tt := 14) rfl (fun h21 => ?_) (fun h21 => ?_)
    · skip
      exact j14_1 M hM a1 ha1 x2 x3 x4 hk
    · skip
      refine hs (f := dm_ild 9 3) rfl rfl ?_
      refine hs (f := dm_push 11 (.int 60)) rfl rfl ?_
      refine h_ic_lt (n := 14) (tt := 27) rfl (fun h22 => ?_) (fun h22 => ?_)
      · skip
        have hF : mR (x4 + 1) < kk := hk ▸ mR_lt2 h22
        refine hs (f := dm_ald 28 0) rfl rfl ?_
        refine hs (f := dm_ald 29 0) rfl rfl ?_
        refine hs (f := dm_ild 30 1) rfl rfl ?_
        refine v_inv rfl rfl rfl (Nat.le_of_ble_eq_true rfl) hM ha1 (w_I (by omega) (sp_79  hM ha1 x2 ) (fun x23 => ?_))
        refine hs (f := dm_ald 34 0) rfl rfl ?_
        refine hs (f := dm_ild 35 2) rfl rfl ?_
        refine v_inv rfl rfl rfl (Nat.le_of_ble_eq_true rfl) hM ha1 (w_I (by omega) (sp_79  hM ha1 x3 ) (fun x24 => ?_))
        refine hs (f := dm_ild 39 3) rfl rfl ?_
        refine hs (f := dm_push 40 (.int 1)) rfl rfl ?_
        refine hs (f := dm_ii 41 (fun x y => x + y)) (st' := [.int (x4 + (1 : Int32)), .int x24, .int x23, .ref a1]) rfl rfl ?_
        refine hc (f := dm_ins 44 43 4) (as := [.ref a1, .int x23, .int x24, .int (x4 + (1 : Int32))]) rfl rfl (w_I (by omega) (rk_43  hM _  a1 ha1 x23 x24 (x4 + (1 : Int32)) rfl) (fun x25 => ?_))
        refine hs (f := dm_ist 46 4) (lv' := [(4, .int x25), (0, .ref a1), (1, .int x2), (2, .int x3), (3, .int x4)]) rfl rfl ?_
        refine hs (f := dm_ald 47 0) rfl rfl ?_
        refine hs (f := dm_ald 48 0) rfl rfl ?_
        refine hs (f := dm_ild 49 1) rfl rfl ?_
        refine v_inv rfl rfl rfl (Nat.le_of_ble_eq_true rfl) hM ha1 (w_I (by omega) (sp_80  hM ha1 x2 ) (fun x26 => ?_))
        refine hs (f := dm_ald 53 0) rfl rfl ?_
        refine hs (f := dm_ild 54 2) rfl rfl ?_
        refine v_inv rfl rfl rfl (Nat.le_of_ble_eq_true rfl) hM ha1 (w_I (by omega) (sp_80  hM ha1 x3 ) (fun x27 => ?_))
        refine hs (f := dm_ild 58 3) rfl rfl ?_
        refine hs (f := dm_push 59 (.int 1)) rfl rfl ?_
        refine hs (f := dm_ii 60 (fun x y => x + y)) (st' := [.int (x4 + (1 : Int32)), .int x27, .int x26, .ref a1]) rfl rfl ?_
        refine hc (f := dm_ins 63 43 4) (as := [.ref a1, .int x26, .int x27, .int (x4 + (1 : Int32))]) rfl rfl (w_I (by omega) (rk_43  hM _  a1 ha1 x26 x27 (x4 + (1 : Int32)) rfl) (fun x28 => ?_))
        refine hs (f := dm_ist 65 5) (lv' := [(5, .int x28), (4, .int x25), (0, .ref a1), (1, .int x2), (2, .int x3), (3, .int x4)]) rfl rfl ?_
        refine hs (f := dm_ald 66 0) rfl rfl ?_
        refine hs (f := dm_ald 67 0) rfl rfl ?_
        refine hs (f := dm_ild 68 2) rfl rfl ?_
        refine v_inv rfl rfl rfl (Nat.le_of_ble_eq_true rfl) hM ha1 (w_I (by omega) (sp_75  hM ha1 x3 ) (fun x29 => ?_))
        refine v_inv rfl rfl rfl (Nat.le_of_ble_eq_true rfl) hM ha1 (u_I (by omega) (sp_81  hM ha1 x29 ) (fun x30 M31 hM31 => ?_))
        refine hs (f := dm_ist 76 6) (lv' := [(6, .int x30), (5, .int x28), (4, .int x25), (0, .ref a1), (1, .int x2), (2, .int x3), (3, .int x4)]) rfl rfl ?_
        refine hs (f := dm_ild 78 4) rfl rfl ?_
        refine hs (f := dm_ild 80 5) rfl rfl ?_
        refine h_ic_ge (n := 83) (tt := 118) rfl (fun h32 => ?_) (fun h32 => ?_)
        · skip
          refine hs (f := dm_ald 119 0) rfl rfl ?_
          refine hs (f := dm_ald 120 0) rfl rfl ?_
          refine hs (f := dm_ild 121 2) rfl rfl ?_
          refine v_inv rfl rfl rfl (Nat.le_of_ble_eq_true rfl) hM31 ha1 (w_I (by omega) (sp_79  hM31 ha1 x3 ) (fun x33 => ?_))
          refine v_inv rfl rfl rfl (Nat.le_of_ble_eq_true rfl) hM31 ha1 (u_V (by omega) (sp_85  hM31 ha1 x33 ) (fun M34 hM34 => ?_))
          refine hs (f := dm_ald 128 0) rfl rfl ?_
          refine hs (f := dm_ild 130 6) rfl rfl ?_
          refine v_inv rfl rfl rfl (Nat.le_of_ble_eq_true rfl) hM34 ha1 (u_V (by omega) (sp_82  hM34 ha1 x30 ) (fun M35 hM35 => ?_))
          refine hs (f := dm_ald 134 0) rfl rfl ?_
          refine hs (f := dm_ald 135 0) rfl rfl ?_
          refine hs (f := dm_ild 136 1) rfl rfl ?_
          refine v_inv rfl rfl rfl (Nat.le_of_ble_eq_true rfl) hM35 ha1 (w_I (by omega) (sp_80  hM35 ha1 x2 ) (fun x36 => ?_))
          refine hs (f := dm_ald 140 0) rfl rfl ?_
          refine hs (f := dm_ild 141 2) rfl rfl ?_
          refine v_inv rfl rfl rfl (Nat.le_of_ble_eq_true rfl) hM35 ha1 (w_I (by omega) (sp_80  hM35 ha1 x3 ) (fun x37 => ?_))
          refine hs (f := dm_ild 145 3) rfl rfl ?_
          refine hs (f := dm_push 146 (.int 1)) rfl rfl ?_
          refine hs (f := dm_ii 147 (fun x y => x + y)) (st' := [.int (x4 + (1 : Int32)), .int x37, .int x36, .ref a1]) rfl rfl ?_
          refine hc (f := dm_ins 150 42 4) (as := [.ref a1, .int x36, .int x37, .int (x4 + (1 : Int32))]) rfl rfl (u_V (by omega) (IH _ hF M35 hM35 a1 ha1 x36 x37 (x4 + (1 : Int32)) rfl) (fun M38 hM38 => ?_))
          exact j150_0 M38 hM38 x30 x28 x25 a1 ha1 x2 x3 x4 hk hF
        · skip
          refine hs (f := dm_ald 84 0) rfl rfl ?_
          refine hs (f := dm_ald 85 0) rfl rfl ?_
          refine hs (f := dm_ild 86 1) rfl rfl ?_
          refine v_inv rfl rfl rfl (Nat.le_of_ble_eq_true rfl) hM31 ha1 (w_I (by omega) (sp_79  hM31 ha1 x2 ) (fun x39 => ?_))
          refine hs (f := dm_ald 90 0) rfl rfl ?_
          refine hs (f := dm_ild 91 2) rfl rfl ?_
          refine v_inv rfl rfl rfl (Nat.le_of_ble_eq_true rfl) hM31 ha1 (w_I (by omega) (sp_79  hM31 ha1 x3 ) (fun x40 => ?_))
          refine hs (f := dm_ild 95 3) rfl rfl ?_
          refine hs (f := dm_push 96 (.int 1)) rfl rfl ?_
          refine hs (f := dm_ii 97 (fun x y => x + y)) (st' := [.int (x4 + (1 : Int32)), .int x40, .int x39, .ref a1]) rfl rfl ?_
          refine hc (f := dm_ins 100 42 4) (as := [.ref a1, .int x39, .int x40, .int (x4 + (1 : Int32))]) rfl rfl (u_V (by omega) (IH _ hF M31 hM31 a1 ha1 x39 x40 (x4 + (1 : Int32)) rfl) (fun M41 hM41 => ?_))
          refine hs (f := dm_ald 101 0) rfl rfl ?_
          refine hs (f := dm_ild 103 6) rfl rfl ?_
          refine v_inv rfl rfl rfl (Nat.le_of_ble_eq_true rfl) hM41 ha1 (u_V (by omega) (sp_82  hM41 ha1 x30 ) (fun M42 hM42 => ?_))
          refine hs (f := dm_ald 107 0) rfl rfl ?_
          refine hs (f := dm_ald 108 0) rfl rfl ?_
          refine hs (f := dm_ild 109 2) rfl rfl ?_
          refine v_inv rfl rfl rfl (Nat.le_of_ble_eq_true rfl) hM42 ha1 (w_I (by omega) (sp_80  hM42 ha1 x3 ) (fun x43 => ?_))
          refine v_inv rfl rfl rfl (Nat.le_of_ble_eq_true rfl) hM42 ha1 (u_V (by omega) (sp_85  hM42 ha1 x43 ) (fun M44 hM44 => ?_))
          refine hs (f := dm_goto 150) rfl rfl ?_
          exact j150_0 M44 hM44 x30 x28 x25 a1 ha1 x2 x3 x4 hk hF
      · skip
        exact j14_1 M hM a1 ha1 x2 x3 x4 hk
theorem sp_65 {p : iv_P} {M : dm_Mem} (hM : Iv p M) {a1 : Nat} (ha1 : iv_ty a1 = some 6) (x2 : Int32) (x3 : Int32) : hT 64 65 [.ref a1, .int x2, .int x3] M (qB M) := by
  refine hx (t := cd_65) rfl (Nat.le_of_ble_eq_true rfl) (lv := [(0, .ref a1), (1, .int x2), (2, .int x3)]) rfl ?_
  refine hs (f := dm_ald 1 0) rfl rfl ?_
  refine hs (f := dm_ild 2 1) rfl rfl ?_
  refine hs (f := dm_ild 3 2) rfl rfl ?_
  refine hs (f := dm_push 4 (.int 0)) rfl rfl ?_
  refine hs (f := dm_push 5 (.int 0)) rfl rfl ?_
  refine hc (f := dm_ins 8 66 5) (as := [.ref a1, .int x2, .int x3, .int 0, .int 0]) rfl rfl (w_B (by decide) (rk_66  hM 60  a1 ha1 x2 x3 0 0 mR_0) (fun x4 bx4 => ?_))
  exact h_retB rfl bx4 ⟨_, bx4, rfl, rfl⟩
theorem sp_67 {p : iv_P} {M : dm_Mem} (hM : Iv p M) {a1 : Nat} (ha1 : iv_ty a1 = some 6) (x2 : Int32) (x3 : Int32) : hT 64 67 [.ref a1, .int x2, .int x3] M (qJ M) := by
  refine hx (t := cd_67) rfl (Nat.le_of_ble_eq_true rfl) (lv := [(0, .ref a1), (1, .int x2), (2, .int x3)]) rfl ?_
  refine hs (f := dm_ald 1 0) rfl rfl ?_
  refine hs (f := dm_ild 2 1) rfl rfl ?_
  refine hs (f := dm_ild 3 2) rfl rfl ?_
  refine hs (f := dm_push 4 (.int 0)) rfl rfl ?_
  refine hs (f := dm_push 5 (.long 1)) rfl rfl ?_
  refine hs (f := dm_push 6 (.int 0)) rfl rfl ?_
  refine hc (f := dm_ins 9 68 6) (as := [.ref a1, .int x2, .int x3, .int 0, .long 1, .int 0]) rfl rfl (w_J (by decide) (rk_68  hM 60  a1 ha1 x2 x3 0 1 0 mR_0) (fun x4 => ?_))
  exact hr (f := dm_lret) rfl rfl ⟨_, rfl, rfl⟩
theorem sp_69 {p : iv_P} {M : dm_Mem} (hM : Iv p M) {a1 : Nat} (ha1 : iv_ty a1 = some 6) (x2 : Int32) (x3 : Int32) : hT 65 69 [.ref a1, .int x2, .int x3] M (qB M) := by
  refine hx (t := cd_69) rfl (Nat.le_of_ble_eq_true rfl) (lv := [(0, .ref a1), (1, .int x2), (2, .int x3)]) rfl ?_
  refine hs (f := dm_ald 1 0) rfl rfl ?_
  refine hs (f := dm_ild 2 1) rfl rfl ?_
  refine hs (f := dm_ild 3 2) rfl rfl ?_
  refine hs (f := dm_push 4 (.int 0)) rfl rfl ?_
  refine hc (f := dm_ins 7 70 4) (as := [.ref a1, .int x2, .int x3, .int 0]) rfl rfl (w_B (by decide) (rk_70  hM 60  a1 ha1 x2 x3 0 mR_0) (fun x4 bx4 => ?_))
  exact h_retB rfl bx4 ⟨_, bx4, rfl, rfl⟩
theorem sp_96 {p : iv_P} {M : dm_Mem} (hM : Iv p M) {a1 : Nat} (ha1 : iv_ty a1 = some 7) (x2 : Int32) : hT 67 96 [.ref a1, .int x2] M (pI p) := by
  have j135_0 : ∀ (M : dm_Mem) (hM : Iv p M) (x3 : Int32) (x4 : Int32) (x5 : Int32) (x6 : Int32) (a7 : Nat) (ha7 : iv_ty a7 = some 7) (x8 : Int32) (x9 : Int32), hG 66 cd_96 135 [(5, .int x3), (4, .int x4), (3, .int x5), (2, .int x6), (0, .ref a7), (1, .int x8)] [.int x9] M (pI p) := by
    intro M hM x3 x4 x5 x6 a7 ha7 x8 x9
    exact hr (f := dm_ret .int) rfl rfl ⟨_, rfl, hM⟩
  have j118_1 : ∀ (M : dm_Mem) (hM : Iv p M) (x10 : Int32) (x11 : Int32) (x12 : Int32) (x13 : Int32) (a14 : Nat) (ha14 : iv_ty a14 = some 7) (x15 : Int32), hG 66 cd_96 118 [(5, .int x10), (4, .int x11), (3, .int x12), (2, .int x13), (0, .ref a14), (1, .int x15)] [] M (pI p) := by
    intro M hM x10 x11 x12 x13 a14 ha14 x15
    refine hs (f := dm_ald 119 0) rfl rfl ?_
    refine hs (f := dm_ild 120 2) rfl rfl ?_
    refine hs (f := dm_push 121 (.int 2)) rfl rfl ?_
    refine hs (f := dm_ild 122 1) rfl rfl ?_
    refine hs (f := dm_push 123 (.int (-1))) rfl rfl ?_
    refine v_inv rfl rfl rfl (Nat.le_of_ble_eq_true rfl) hM ha14 (u_B (by decide) (sp_125  hM ha14 x13 2 x15 (-1) ) (fun x16 bx16 M17 hM17 => ?_))
    refine h_if_eq (n := 129) (tt := 134) rfl (fun h18 => ?_) (fun h18 => ?_)
    · skip
      refine hs (f := dm_push 135 (.int (-1))) rfl rfl ?_
      exact j135_0 M17 hM17 x10 x11 x12 x13 a14 ha14 x15 (-1)
    · skip
      refine hs (f := dm_ild 131 5) rfl rfl ?_
      refine hs (f := dm_goto 135) rfl rfl ?_
      exact j135_0 M17 hM17 x10 x11 x12 x13 a14 ha14 x15 x10
  have j32_2 : ∀ (M : dm_Mem) (hM : Iv p M) (a19 : Nat) (ha19 : iv_ty a19 = some 7) (x20 : Int32), hG 66 cd_96 32 [(0, .ref a19), (1, .int x20)] [] M (pI p) := by
    intro M hM a19 ha19 x20
    refine hs (f := dm_push 33 (.int (-1))) rfl rfl ?_
    exact hr (f := dm_ret .int) rfl rfl ⟨_, rfl, hM⟩
  refine hx (t := cd_96) rfl (Nat.le_of_ble_eq_true rfl) (lv := [(0, .ref a1), (1, .int x2)]) rfl ?_
  refine hs (f := dm_ald 1 0) rfl rfl ?_
  refine v_geto rfl hM ha1 rfl (fun a21 ha21 => ?_)
  refine hs (f := dm_ild 5 1) rfl rfl ?_
  refine v_inv rfl rfl rfl (Nat.le_of_ble_eq_true rfl) hM ha21 (w_B (by decide) (sp_27  hM ha21 x2 ) (fun x22 bx22 => ?_))
  refine h_if_eq (n := 11) (tt := 32) rfl (fun h23 => ?_) (fun h23 => ?_)
  · skip
    exact j32_2 M hM a1 ha1 x2
  · skip
    refine hs (f := dm_ald 12 0) rfl rfl ?_
    refine v_geto rfl hM ha1 rfl (fun a24 ha24 => ?_)
    refine v_geto rfl hM ha24 rfl (fun a25 ha25 => ?_)
    refine hs (f := dm_ald 19 0) rfl rfl ?_
    refine v_geto rfl hM ha1 rfl (fun a26 ha26 => ?_)
    refine hs (f := dm_ild 23 1) rfl rfl ?_
    refine v_inv rfl rfl rfl (Nat.le_of_ble_eq_true rfl) hM ha26 (w_I (by decide) (sp_18  hM ha26 x2 ) (fun x27 => ?_))
    refine hc (f := dm_ins 29 34 2) (as := [.ref a25, .int x27]) rfl rfl (w_B (by decide) (sp_34  hM ha25 x27 ) (fun x28 bx28 => ?_))
    refine h_if_ne (n := 32) (tt := 34) rfl (fun h29 => ?_) (fun h29 => ?_)
    · skip
      refine hs (f := dm_ald 35 0) rfl rfl ?_
      refine v_geto rfl hM ha1 rfl (fun a30 ha30 => ?_)
      refine v_inv rfl rfl rfl (Nat.le_of_ble_eq_true rfl) hM ha30 (w_I (by decide) (sp_13  hM ha30 ) (fun x31 => ?_))
      refine hs (f := dm_ist 42 2) (lv' := [(2, .int x31), (0, .ref a1), (1, .int x2)]) rfl rfl ?_
      refine hs (f := dm_ald 43 0) rfl rfl ?_
      refine v_geto rfl hM ha1 rfl (fun a32 ha32 => ?_)
      refine hs (f := dm_ild 47 1) rfl rfl ?_
      refine v_inv rfl rfl rfl (Nat.le_of_ble_eq_true rfl) hM ha32 (w_I (by decide) (sp_18  hM ha32 x2 ) (fun x33 => ?_))
      refine hs (f := dm_ist 51 3) (lv' := [(3, .int x33), (2, .int x31), (0, .ref a1), (1, .int x2)]) rfl rfl ?_
      refine hs (f := dm_ald 52 0) rfl rfl ?_
      refine v_geto rfl hM ha1 rfl (fun a34 ha34 => ?_)
      refine hs (f := dm_ild 56 1) rfl rfl ?_
      refine v_inv rfl rfl rfl (Nat.le_of_ble_eq_true rfl) hM ha34 (w_I (by decide) (sp_19  hM ha34 x2 ) (fun x35 => ?_))
      refine hs (f := dm_ist 61 4) (lv' := [(4, .int x35), (3, .int x33), (2, .int x31), (0, .ref a1), (1, .int x2)]) rfl rfl ?_
      refine hs (f := dm_ald 62 0) rfl rfl ?_
      refine v_geto rfl hM ha1 rfl (fun a36 ha36 => ?_)
      refine hs (f := dm_ald 66 0) rfl rfl ?_
      refine v_geto rfl hM ha1 rfl (fun a37 ha37 => ?_)
      refine v_geto rfl hM ha37 rfl (fun a38 ha38 => ?_)
      refine hs (f := dm_ild 73 3) rfl rfl ?_
      refine hs (f := dm_push 74 (.int 0)) rfl rfl ?_
      refine hc (f := dm_ins 77 36 3) (as := [.ref a38, .int x33, .int 0]) rfl rfl (u_I (by decide) (sp_36  hM ha38 x33 0 ) (fun x39 M40 hM40 => ?_))
      refine hs (f := dm_ild 79 4) rfl rfl ?_
      refine hs (f := dm_push 80 (.int 1)) rfl rfl ?_
      refine hs (f := dm_ild 81 1) rfl rfl ?_
      refine hs (f := dm_push 82 (.int (-1))) rfl rfl ?_
      refine v_inv rfl rfl rfl (Nat.le_of_ble_eq_true rfl) hM40 ha36 (u_I (by decide) (sp_15  hM40 ha36 x39 x35 1 x2 (-1) ) (fun x41 M42 hM42 => ?_))
      refine hs (f := dm_ist 87 5) (lv' := [(5, .int x41), (4, .int x35), (3, .int x33), (2, .int x31), (0, .ref a1), (1, .int x2)]) rfl rfl ?_
      refine hs (f := dm_ild 89 5) rfl rfl ?_
      refine hs (f := dm_push 90 (.int (-1))) rfl rfl ?_
      refine h_ic_eq (n := 93) (tt := 118) rfl (fun h43 => ?_) (fun h43 => ?_)
      · skip
        exact j118_1 M42 hM42 x41 x35 x33 x31 a1 ha1 x2
      · skip
        refine hs (f := dm_ald 94 0) rfl rfl ?_
        refine v_geto rfl hM42 ha1 rfl (fun a44 ha44 => ?_)
        refine hs (f := dm_ald 98 0) rfl rfl ?_
        refine v_geto rfl hM42 ha1 rfl (fun a45 ha45 => ?_)
        refine v_geto rfl hM42 ha45 rfl (fun a46 ha46 => ?_)
        refine hs (f := dm_ild 105 3) rfl rfl ?_
        refine hs (f := dm_push 106 (.int 1)) rfl rfl ?_
        refine hc (f := dm_ins 109 36 3) (as := [.ref a46, .int x33, .int 1]) rfl rfl (u_I (by decide) (sp_36  hM42 ha46 x33 1 ) (fun x47 M48 hM48 => ?_))
        refine hs (f := dm_ild 111 4) rfl rfl ?_
        refine hs (f := dm_push 112 (.int 1)) rfl rfl ?_
        refine hs (f := dm_ild 113 1) rfl rfl ?_
        refine hs (f := dm_push 114 (.int (-1))) rfl rfl ?_
        refine v_inv rfl rfl rfl (Nat.le_of_ble_eq_true rfl) hM48 ha44 (u_I (by decide) (sp_15  hM48 ha44 x47 x35 1 x2 (-1) ) (fun x49 M50 hM50 => ?_))
        refine hs (f := dm_pop 118) (st' := []) rfl rfl ?_
        exact j118_1 M50 hM50 x41 x35 x33 x31 a1 ha1 x2
    · skip
      exact j32_2 M hM a1 ha1 x2
theorem sp_99 {p : iv_P} {M : dm_Mem} (hM : Iv p M) {a1 : Nat} (ha1 : iv_ty a1 = some 7) (x2 : Int32) : hT 7 99 [.ref a1, .int x2] M (pI p) := by
  have j43_0 : ∀ (M : dm_Mem) (hM : Iv p M) (x3 : Int32) (x4 : Int32) (a5 : Nat) (ha5 : iv_ty a5 = some 7) (x6 : Int32) (x7 : Int32), hG 6 cd_99 43 [(3, .int x3), (2, .int x4), (0, .ref a5), (1, .int x6)] [.int x7] M (pI p) := by
    intro M hM x3 x4 a5 ha5 x6 x7
    exact hr (f := dm_ret .int) rfl rfl ⟨_, rfl, hM⟩
  refine hx (t := cd_99) rfl (Nat.le_of_ble_eq_true rfl) (lv := [(0, .ref a1), (1, .int x2)]) rfl ?_
  refine hs (f := dm_ald 1 0) rfl rfl ?_
  refine v_geto rfl hM ha1 rfl (fun a8 ha8 => ?_)
  refine hs (f := dm_ild 5 1) rfl rfl ?_
  refine v_inv rfl rfl rfl (Nat.le_of_ble_eq_true rfl) hM ha8 (w_B (by decide) (sp_26  hM ha8 x2 ) (fun x9 bx9 => ?_))
  refine h_if_ne (n := 11) (tt := 13) rfl (fun h10 => ?_) (fun h10 => ?_)
  · skip
    refine hs (f := dm_ald 14 0) rfl rfl ?_
    refine v_geto rfl hM ha1 rfl (fun a11 ha11 => ?_)
    refine v_inv rfl rfl rfl (Nat.le_of_ble_eq_true rfl) hM ha11 (w_I (by decide) (sp_13  hM ha11 ) (fun x12 => ?_))
    refine hs (f := dm_ist 21 2) (lv' := [(2, .int x12), (0, .ref a1), (1, .int x2)]) rfl rfl ?_
    refine hs (f := dm_ald 22 0) rfl rfl ?_
    refine hs (f := dm_ild 23 1) rfl rfl ?_
    refine v_inv rfl rfl rfl (Nat.le_of_ble_eq_true rfl) hM ha1 (u_I (by decide) (sp_130  hM ha1 x2 ) (fun x13 M14 hM14 => ?_))
    refine hs (f := dm_ist 27 3) (lv' := [(3, .int x13), (2, .int x12), (0, .ref a1), (1, .int x2)]) rfl rfl ?_
    refine hs (f := dm_ald 28 0) rfl rfl ?_
    refine hs (f := dm_ild 29 2) rfl rfl ?_
    refine hs (f := dm_push 30 (.int 1)) rfl rfl ?_
    refine hs (f := dm_push 31 (.int (-1))) rfl rfl ?_
    refine hs (f := dm_push 32 (.int (-1))) rfl rfl ?_
    refine v_inv rfl rfl rfl (Nat.le_of_ble_eq_true rfl) hM14 ha1 (u_B (by decide) (sp_125  hM14 ha1 x12 1 (-1) (-1) ) (fun x15 bx15 M16 hM16 => ?_))
    refine h_if_eq (n := 38) (tt := 42) rfl (fun h17 => ?_) (fun h17 => ?_)
    · skip
      refine hs (f := dm_push 43 (.int (-1))) rfl rfl ?_
      exact j43_0 M16 hM16 x13 x12 a1 ha1 x2 (-1)
    · skip
      refine hs (f := dm_ild 39 3) rfl rfl ?_
      refine hs (f := dm_goto 43) rfl rfl ?_
      exact j43_0 M16 hM16 x13 x12 a1 ha1 x2 x13
  · skip
    refine hs (f := dm_push 12 (.int (-1))) rfl rfl ?_
    exact hr (f := dm_ret .int) rfl rfl ⟨_, rfl, hM⟩
theorem sp_104 {p : iv_P} {M : dm_Mem} (hM : Iv p M) {a1 : Nat} (ha1 : iv_ty a1 = some 7) : hT 6 104 [.ref a1] M (pB p) := by
  refine hx (t := cd_104) rfl (Nat.le_of_ble_eq_true rfl) (lv := [(0, .ref a1)]) rfl ?_
  refine hs (f := dm_ald 1 0) rfl rfl ?_
  refine v_geto rfl hM ha1 rfl (fun a2 ha2 => ?_)
  refine hs (f := dm_ald 5 0) rfl rfl ?_
  refine v_geto rfl hM ha1 rfl (fun a3 ha3 => ?_)
  refine v_inv rfl rfl rfl (Nat.le_of_ble_eq_true rfl) hM ha2 (u_B (by decide) (sp_4  hM ha2 ha3 ) (fun x4 bx4 M5 hM5 => ?_))
  exact h_retB rfl bx4 ⟨_, bx4, rfl, hM5⟩
theorem sp_107 {p : iv_P} {M : dm_Mem} (hM : Iv p M) {a1 : Nat} (ha1 : iv_ty a1 = some 7) (x2 : Int32) (x3 : Int32) : hT 66 107 [.ref a1, .int x2, .int x3] M (qB M) := by
  have j56_0 : ∀ (a4 : Nat) (ha4 : iv_ty a4 = some 7) (x5 : Int32) (x6 : Int32) (x7 : Int32) (bx7 : isB x7), hG 65 cd_107 56 [(0, .ref a4), (1, .int x5), (2, .int x6)] [.int x7] M (qB M) := by
    intro a4 ha4 x5 x6 x7 bx7
    exact h_retB rfl bx7 ⟨_, bx7, rfl, rfl⟩
  have j55_1 : ∀ (a8 : Nat) (ha8 : iv_ty a8 = some 7) (x9 : Int32) (x10 : Int32), hG 65 cd_107 55 [(0, .ref a8), (1, .int x9), (2, .int x10)] [] M (qB M) := by
    intro a8 ha8 x9 x10
    refine hs (f := dm_push 56 (.int 0)) rfl rfl ?_
    exact j56_0 a8 ha8 x9 x10 0 isB_0
  refine hx (t := cd_107) rfl (Nat.le_of_ble_eq_true rfl) (lv := [(0, .ref a1), (1, .int x2), (2, .int x3)]) rfl ?_
  refine hs (f := dm_ald 1 0) rfl rfl ?_
  refine v_geto rfl hM ha1 rfl (fun a11 ha11 => ?_)
  refine hs (f := dm_ild 5 1) rfl rfl ?_
  refine v_inv rfl rfl rfl (Nat.le_of_ble_eq_true rfl) hM ha11 (w_B (by decide) (sp_17  hM ha11 x2 ) (fun x12 bx12 => ?_))
  refine h_if_eq (n := 11) (tt := 55) rfl (fun h13 => ?_) (fun h13 => ?_)
  · skip
    exact j55_1 a1 ha1 x2 x3
  · skip
    refine hs (f := dm_ald 12 0) rfl rfl ?_
    refine v_geto rfl hM ha1 rfl (fun a14 ha14 => ?_)
    refine hs (f := dm_ild 16 2) rfl rfl ?_
    refine v_inv rfl rfl rfl (Nat.le_of_ble_eq_true rfl) hM ha14 (w_B (by decide) (sp_17  hM ha14 x3 ) (fun x15 bx15 => ?_))
    refine h_if_eq (n := 22) (tt := 55) rfl (fun h16 => ?_) (fun h16 => ?_)
    · skip
      exact j55_1 a1 ha1 x2 x3
    · skip
      refine hs (f := dm_ald 23 0) rfl rfl ?_
      refine v_geto rfl hM ha1 rfl (fun a17 ha17 => ?_)
      refine v_geto rfl hM ha17 rfl (fun a18 ha18 => ?_)
      refine hs (f := dm_ald 30 0) rfl rfl ?_
      refine v_geto rfl hM ha1 rfl (fun a19 ha19 => ?_)
      refine hs (f := dm_ild 34 1) rfl rfl ?_
      refine v_inv rfl rfl rfl (Nat.le_of_ble_eq_true rfl) hM ha19 (w_I (by decide) (sp_18  hM ha19 x2 ) (fun x20 => ?_))
      refine hs (f := dm_ald 38 0) rfl rfl ?_
      refine v_geto rfl hM ha1 rfl (fun a21 ha21 => ?_)
      refine hs (f := dm_ild 42 2) rfl rfl ?_
      refine v_inv rfl rfl rfl (Nat.le_of_ble_eq_true rfl) hM ha21 (w_I (by decide) (sp_18  hM ha21 x3 ) (fun x22 => ?_))
      refine hc (f := dm_ins 48 69 3) (as := [.ref a18, .int x20, .int x22]) rfl rfl (w_B (by decide) (sp_69  hM ha18 x20 x22 ) (fun x23 bx23 => ?_))
      refine h_if_eq (n := 51) (tt := 55) rfl (fun h24 => ?_) (fun h24 => ?_)
      · skip
        exact j55_1 a1 ha1 x2 x3
      · skip
        refine hs (f := dm_push 52 (.int 1)) rfl rfl ?_
        refine hs (f := dm_goto 56) rfl rfl ?_
        exact j56_0 a1 ha1 x2 x3 1 isB_1
theorem sp_110 {p : iv_P} (hp : p.2.2.1 = none) {M : dm_Mem} (hM : Iv p M) {a1 : Nat} (ha1 : iv_ty a1 = some 7) (x2 : Int32) (x3 : Int32) : hT 68 110 [.ref a1, .int x2, .int x3] M (pI p) := by
  have j214_0 : ∀ (M : dm_Mem) (hM : Iv p M) (a4 : Nat) (ha4 : iv_ty a4 = some 7) (x5 : Int32) (x6 : Int32) (x7 : Int32) (bx7 : isB x7), hG 67 cd_110 214 [(0, .ref a4), (1, .int x5), (2, .int x6)] [.int x7] M (pI p) := by
    intro M hM a4 ha4 x5 x6 x7 bx7
    exact hr (f := dm_ret .int) rfl rfl ⟨_, rfl, hM⟩
  have j88_1 : ∀ (M : dm_Mem) (hM : Iv p M) (a8 : Nat) (ha8 : iv_ty a8 = some 7) (x9 : Int32) (x10 : Int32) (x11 : Int32) (bx11 : isB x11), hG 67 cd_110 88 [(0, .ref a8), (1, .int x9), (2, .int x10)] [.int x11] M (pI p) := by
    intro M hM a8 ha8 x9 x10 x11 bx11
    exact hr (f := dm_ret .int) rfl rfl ⟨_, rfl, hM⟩
  refine hx (t := cd_110) rfl (Nat.le_of_ble_eq_true rfl) (lv := [(0, .ref a1), (1, .int x2), (2, .int x3)]) rfl ?_
  refine hs (f := dm_ald 1 0) rfl rfl ?_
  refine v_geto rfl hM ha1 rfl (fun a12 ha12 => ?_)
  refine hs (f := dm_ild 5 1) rfl rfl ?_
  refine v_inv rfl rfl rfl (Nat.le_of_ble_eq_true rfl) hM ha12 (w_B (by decide) (sp_17  hM ha12 x2 ) (fun x13 bx13 => ?_))
  refine h_if_ne (n := 11) (tt := 13) rfl (fun h14 => ?_) (fun h14 => ?_)
  · skip
    refine hs (f := dm_ild 14 2) rfl rfl ?_
    refine h_tsw rfl (by decide) ?_ (hal_c ?_ (hal_c ?_ (hal_c ?_ (hal_c ?_ (hal_c ?_ (hal_c ?_ (hal_c ?_ (hal_c ?_ (hal_c ?_ (hal_c ?_ (hal_c ?_ hal_n)))))))))))
    · skip
      refine hs (f := dm_push 229 (.int (-1))) rfl rfl ?_
      exact hr (f := dm_ret .int) rfl rfl ⟨_, rfl, hM⟩
    · skip
      refine hs (f := dm_ald 73 0) rfl rfl ?_
      refine v_geto rfl hM ha1 rfl (fun a15 ha15 => ?_)
      refine hs (f := dm_ild 77 1) rfl rfl ?_
      refine v_inv rfl rfl rfl (Nat.le_of_ble_eq_true rfl) hM ha15 (w_B (by decide) (sp_26  hM ha15 x2 ) (fun x16 bx16 => ?_))
      refine h_if_eq (n := 83) (tt := 87) rfl (fun h17 => ?_) (fun h17 => ?_)
      · skip
        refine hs (f := dm_push 88 (.int 0)) rfl rfl ?_
        exact j88_1 M hM a1 ha1 x2 x3 0 isB_0
      · skip
        refine hs (f := dm_push 84 (.int 1)) rfl rfl ?_
        refine hs (f := dm_goto 88) rfl rfl ?_
        exact j88_1 M hM a1 ha1 x2 x3 1 isB_1
    · skip
      refine hs (f := dm_ald 90 0) rfl rfl ?_
      refine v_geto rfl hM ha1 rfl (fun a18 ha18 => ?_)
      refine v_geto rfl hM ha18 rfl (fun a19 ha19 => ?_)
      refine hs (f := dm_ald 97 0) rfl rfl ?_
      refine v_geto rfl hM ha1 rfl (fun a20 ha20 => ?_)
      refine hs (f := dm_ild 101 1) rfl rfl ?_
      refine v_inv rfl rfl rfl (Nat.le_of_ble_eq_true rfl) hM ha20 (w_I (by decide) (sp_18  hM ha20 x2 ) (fun x21 => ?_))
      refine v_inv rfl rfl rfl (Nat.le_of_ble_eq_true rfl) hM ha19 (w_I (by decide) (sp_84  hM ha19 x21 ) (fun x22 => ?_))
      exact hr (f := dm_ret .int) rfl rfl ⟨_, rfl, hM⟩
    · skip
      refine hs (f := dm_ald 109 0) rfl rfl ?_
      refine v_geto rfl hM ha1 rfl (fun a23 ha23 => ?_)
      refine v_geto rfl hM ha23 rfl (fun a24 ha24 => ?_)
      refine hs (f := dm_ald 116 0) rfl rfl ?_
      refine v_geto rfl hM ha1 rfl (fun a25 ha25 => ?_)
      refine hs (f := dm_ild 120 1) rfl rfl ?_
      refine v_inv rfl rfl rfl (Nat.le_of_ble_eq_true rfl) hM ha25 (w_I (by decide) (sp_19  hM ha25 x2 ) (fun x26 => ?_))
      refine v_inv rfl rfl rfl (Nat.le_of_ble_eq_true rfl) hM ha24 (w_I (by decide) (sp_84  hM ha24 x26 ) (fun x27 => ?_))
      exact hr (f := dm_ret .int) rfl rfl ⟨_, rfl, hM⟩
    · skip
      refine hs (f := dm_ald 128 0) rfl rfl ?_
      refine v_geto rfl hM ha1 rfl (fun a28 ha28 => ?_)
      refine hs (f := dm_ild 132 1) rfl rfl ?_
      refine v_inv rfl rfl rfl (Nat.le_of_ble_eq_true rfl) hM ha28 (w_I (by decide) (sp_20  hM ha28 x2 ) (fun x29 => ?_))
      exact hr (f := dm_ret .int) rfl rfl ⟨_, rfl, hM⟩
    · skip
      refine hs (f := dm_ald 137 0) rfl rfl ?_
      refine v_geto rfl hM ha1 rfl (fun a30 ha30 => ?_)
      refine hs (f := dm_ild 141 1) rfl rfl ?_
      refine v_inv rfl rfl rfl (Nat.le_of_ble_eq_true rfl) hM ha30 (w_I (by decide) (sp_21  hM ha30 x2 ) (fun x31 => ?_))
      exact hr (f := dm_ret .int) rfl rfl ⟨_, rfl, hM⟩
    · skip
      refine hs (f := dm_ald 146 0) rfl rfl ?_
      refine v_geto rfl hM ha1 rfl (fun a32 ha32 => ?_)
      refine hs (f := dm_ild 150 1) rfl rfl ?_
      refine v_inv rfl rfl rfl (Nat.le_of_ble_eq_true rfl) hM ha32 (w_I (by decide) (sp_22  hM ha32 x2 ) (fun x33 => ?_))
      exact hr (f := dm_ret .int) rfl rfl ⟨_, rfl, hM⟩
    · skip
      refine hs (f := dm_ald 155 0) rfl rfl ?_
      refine hs (f := dm_ild 156 1) rfl rfl ?_
      refine v_inv rfl rfl rfl (Nat.le_of_ble_eq_true rfl) hM ha1 (u_I (by decide) (sp_132 hp hM ha1 x2 ) (fun x34 M35 hM35 => ?_))
      exact hr (f := dm_ret .int) rfl rfl ⟨_, rfl, hM35⟩
    · skip
      refine hs (f := dm_ald 161 0) rfl rfl ?_
      refine v_geto rfl hM ha1 rfl (fun a36 ha36 => ?_)
      refine v_geto rfl hM ha36 rfl (fun a37 ha37 => ?_)
      refine hs (f := dm_ald 168 0) rfl rfl ?_
      refine v_geto rfl hM ha1 rfl (fun a38 ha38 => ?_)
      refine hs (f := dm_ild 172 1) rfl rfl ?_
      refine v_inv rfl rfl rfl (Nat.le_of_ble_eq_true rfl) hM ha38 (w_I (by decide) (sp_19  hM ha38 x2 ) (fun x39 => ?_))
      refine v_inv rfl rfl rfl (Nat.le_of_ble_eq_true rfl) hM ha37 (w_I (by decide) (sp_75  hM ha37 x39 ) (fun x40 => ?_))
      exact hr (f := dm_ret .int) rfl rfl ⟨_, rfl, hM⟩
    · skip
      refine hs (f := dm_ald 180 0) rfl rfl ?_
      refine v_geto rfl hM ha1 rfl (fun a41 ha41 => ?_)
      refine v_geto rfl hM ha41 rfl (fun a42 ha42 => ?_)
      refine hs (f := dm_ald 187 0) rfl rfl ?_
      refine v_geto rfl hM ha1 rfl (fun a43 ha43 => ?_)
      refine hs (f := dm_ild 191 1) rfl rfl ?_
      refine v_inv rfl rfl rfl (Nat.le_of_ble_eq_true rfl) hM ha43 (w_I (by decide) (sp_19  hM ha43 x2 ) (fun x44 => ?_))
      refine v_inv rfl rfl rfl (Nat.le_of_ble_eq_true rfl) hM ha42 (w_I (by decide) (sp_88  hM ha42 x44 ) (fun x45 => ?_))
      exact hr (f := dm_ret .int) rfl rfl ⟨_, rfl, hM⟩
    · skip
      refine hs (f := dm_ald 199 0) rfl rfl ?_
      refine v_geto rfl hM ha1 rfl (fun a46 ha46 => ?_)
      refine hs (f := dm_ild 203 1) rfl rfl ?_
      refine v_inv rfl rfl rfl (Nat.le_of_ble_eq_true rfl) hM ha46 (w_B (by decide) (sp_28  hM ha46 x2 ) (fun x47 bx47 => ?_))
      refine h_if_eq (n := 209) (tt := 213) rfl (fun h48 => ?_) (fun h48 => ?_)
      · skip
        refine hs (f := dm_push 214 (.int 0)) rfl rfl ?_
        exact j214_0 M hM a1 ha1 x2 x3 0 isB_0
      · skip
        refine hs (f := dm_push 210 (.int 1)) rfl rfl ?_
        refine hs (f := dm_goto 214) rfl rfl ?_
        exact j214_0 M hM a1 ha1 x2 x3 1 isB_1
    · skip
      refine hs (f := dm_ald 216 0) rfl rfl ?_
      refine v_geto rfl hM ha1 rfl (fun a49 ha49 => ?_)
      refine hs (f := dm_ald 220 0) rfl rfl ?_
      refine v_geto rfl hM ha1 rfl (fun a50 ha50 => ?_)
      refine hs (f := dm_ild 224 1) rfl rfl ?_
      refine v_inv rfl rfl rfl (Nat.le_of_ble_eq_true rfl) hM ha49 (u_I (by decide) (sp_50  hM ha49 ha50 x2 ) (fun x51 M52 hM52 => ?_))
      exact hr (f := dm_ret .int) rfl rfl ⟨_, rfl, hM52⟩
  · skip
    refine hs (f := dm_push 12 (.int (-1))) rfl rfl ?_
    exact hr (f := dm_ret .int) rfl rfl ⟨_, rfl, hM⟩
theorem sp_115 {p : iv_P} (hp : p.2.2.1 = none) {M : dm_Mem} (hM : Iv p M) {a1 : Nat} (ha1 : iv_ty a1 = some 7) (x2 : Int32) : hT 68 115 [.ref a1, .int x2] M (pI p) := by
  have j22_0 : ∀ (M : dm_Mem) (hM : Iv p M) (a3 : Nat) (ha3 : iv_ty a3 = some 7) (x4 : Int32), hG 67 cd_115 22 [(0, .ref a3), (1, .int x4)] [] M (pI p) := by
    intro M hM a3 ha3 x4
    refine hs (f := dm_push 23 (.int (-1))) rfl rfl ?_
    exact hr (f := dm_ret .int) rfl rfl ⟨_, rfl, hM⟩
  refine hx (t := cd_115) rfl (Nat.le_of_ble_eq_true rfl) (lv := [(0, .ref a1), (1, .int x2)]) rfl ?_
  refine hs (f := dm_ald 1 0) rfl rfl ?_
  refine v_geto rfl hM ha1 rfl (fun a5 ha5 => ?_)
  refine hs (f := dm_ild 5 1) rfl rfl ?_
  refine v_inv rfl rfl rfl (Nat.le_of_ble_eq_true rfl) hM ha5 (w_B (by decide) (sp_17  hM ha5 x2 ) (fun x6 bx6 => ?_))
  refine h_if_eq (n := 11) (tt := 22) rfl (fun h7 => ?_) (fun h7 => ?_)
  · skip
    exact j22_0 M hM a1 ha1 x2
  · skip
    refine hs (f := dm_ald 12 0) rfl rfl ?_
    refine hs (f := dm_ild 13 1) rfl rfl ?_
    refine v_inv rfl rfl rfl (Nat.le_of_ble_eq_true rfl) hM ha1 (u_I (by decide) (sp_132 hp hM ha1 x2 ) (fun x8 M9 hM9 => ?_))
    refine hs (f := dm_push 19 (.int 600)) rfl rfl ?_
    refine h_ic_le (n := 22) (tt := 24) rfl (fun h10 => ?_) (fun h10 => ?_)
    · skip
      refine hs (f := dm_ald 25 0) rfl rfl ?_
      refine v_geto rfl hM9 ha1 rfl (fun a11 ha11 => ?_)
      refine hs (f := dm_ald 29 0) rfl rfl ?_
      refine v_geto rfl hM9 ha1 rfl (fun a12 ha12 => ?_)
      refine v_inv rfl rfl rfl (Nat.le_of_ble_eq_true rfl) hM9 ha11 (u_V (by decide) (sp_10 hp hM9 ha11 ha12 ) (fun M13 hM13 => ?_))
      refine hs (f := dm_ald 36 0) rfl rfl ?_
      refine v_geto rfl hM13 ha1 rfl (fun a14 ha14 => ?_)
      refine v_inv rfl rfl rfl (Nat.le_of_ble_eq_true rfl) hM13 ha14 (w_I (by decide) (sp_6  hM13 ha14 ) (fun x15 => ?_))
      exact hr (f := dm_ret .int) rfl rfl ⟨_, rfl, hM13⟩
    · skip
      exact j22_0 M9 hM9 a1 ha1 x2
theorem sp_124 {p : iv_P} (hp : p.2.2.1 = none) {M : dm_Mem} (hM : Iv p M) {a1 : Nat} (ha1 : iv_ty a1 = some 7) : hT 7 124 [.ref a1] M (pV p) := by
  refine hx (t := cd_124) rfl (Nat.le_of_ble_eq_true rfl) (lv := [(0, .ref a1)]) rfl ?_
  refine hs (f := dm_ald 1 0) rfl rfl ?_
  refine v_geto rfl hM ha1 rfl (fun a2 ha2 => ?_)
  refine v_inv rfl rfl rfl (Nat.le_of_ble_eq_true rfl) hM ha2 (u_V (by decide) (sp_12  hM ha2 ) (fun M3 hM3 => ?_))
  refine hs (f := dm_ald 8 0) rfl rfl ?_
  refine v_geto rfl hM3 ha1 rfl (fun a4 ha4 => ?_)
  refine v_inv rfl rfl rfl (Nat.le_of_ble_eq_true rfl) hM3 ha4 (u_V (by decide) (sp_1  hM3 ha4 ) (fun M5 hM5 => ?_))
  refine hs (f := dm_ald 15 0) rfl rfl ?_
  refine v_geto rfl hM5 ha1 rfl (fun a6 ha6 => ?_)
  refine hs (f := dm_push 19 (.int 0)) rfl rfl ?_
  refine v_inv rfl rfl rfl (Nat.le_of_ble_eq_true rfl) hM5 ha6 (u_B (by decide) (sp_9 hp hM5 ha6 0 ) (fun x7 bx7 M8 hM8 => ?_))
  refine hs (f := dm_pop 23) (st' := []) rfl rfl ?_
  refine hs (f := dm_ald 24 0) rfl rfl ?_
  refine hs (f := dm_push 25 (.int (-1))) rfl rfl ?_
  refine v_puti rfl hM8 ha1 rfl (fun M9 hM9 => ?_)
  refine hs (f := dm_ald 29 0) rfl rfl ?_
  refine hs (f := dm_push 30 (.long 0)) rfl rfl ?_
  refine v_putj rfl hM9 ha1 rfl (fun M10 hM10 => ?_)
  refine hs (f := dm_ald 34 0) rfl rfl ?_
  refine hs (f := dm_push 35 (.int (-1))) rfl rfl ?_
  refine v_puti rfl hM10 ha1 rfl (fun M11 hM11 => ?_)
  exact hr (f := dm_vret) rfl rfl ⟨rfl, hM11⟩
theorem sp_127 {p : iv_P} {M : dm_Mem} (hM : Iv p M) {a1 : Nat} (ha1 : iv_ty a1 = some 7) (x2 : Int32) (x3 : Int32) : hT 65 127 [.ref a1, .int x2, .int x3] M (qB M) := by
  have j34_0 : ∀ (a4 : Nat) (ha4 : iv_ty a4 = some 7) (x5 : Int32) (x6 : Int32) (x7 : Int32) (bx7 : isB x7), hG 64 cd_127 34 [(0, .ref a4), (1, .int x5), (2, .int x6)] [.int x7] M (qB M) := by
    intro a4 ha4 x5 x6 x7 bx7
    exact h_retB rfl bx7 ⟨_, bx7, rfl, rfl⟩
  refine hx (t := cd_127) rfl (Nat.le_of_ble_eq_true rfl) (lv := [(0, .ref a1), (1, .int x2), (2, .int x3)]) rfl ?_
  refine hs (f := dm_ald 1 0) rfl rfl ?_
  refine v_geto rfl hM ha1 rfl (fun a8 ha8 => ?_)
  refine v_geto rfl hM ha8 rfl (fun a9 ha9 => ?_)
  refine hs (f := dm_ald 8 0) rfl rfl ?_
  refine v_geto rfl hM ha1 rfl (fun a10 ha10 => ?_)
  refine hs (f := dm_ild 12 1) rfl rfl ?_
  refine v_inv rfl rfl rfl (Nat.le_of_ble_eq_true rfl) hM ha10 (w_I (by decide) (sp_19  hM ha10 x2 ) (fun x11 => ?_))
  refine hs (f := dm_ald 16 0) rfl rfl ?_
  refine v_geto rfl hM ha1 rfl (fun a12 ha12 => ?_)
  refine hs (f := dm_ild 20 2) rfl rfl ?_
  refine v_inv rfl rfl rfl (Nat.le_of_ble_eq_true rfl) hM ha12 (w_I (by decide) (sp_19  hM ha12 x3 ) (fun x13 => ?_))
  refine hc (f := dm_ins 26 65 3) (as := [.ref a9, .int x11, .int x13]) rfl rfl (w_B (by decide) (sp_65  hM ha9 x11 x13 ) (fun x14 bx14 => ?_))
  refine h_if_ne (n := 29) (tt := 33) rfl (fun h15 => ?_) (fun h15 => ?_)
  · skip
    refine hs (f := dm_push 34 (.int 0)) rfl rfl ?_
    exact j34_0 a1 ha1 x2 x3 0 isB_0
  · skip
    refine hs (f := dm_push 30 (.int 1)) rfl rfl ?_
    refine hs (f := dm_goto 34) rfl rfl ?_
    exact j34_0 a1 ha1 x2 x3 1 isB_1
theorem sp_129 {p : iv_P} {M : dm_Mem} (hM : Iv p M) {a1 : Nat} (ha1 : iv_ty a1 = some 7) (x2 : Int32) (x3 : Int32) (x4 : Int32) : hT 67 129 [.ref a1, .int x2, .int x3, .int x4] M (pI p) := by
  refine hx (t := cd_129) rfl (Nat.le_of_ble_eq_true rfl) (lv := [(0, .ref a1), (1, .int x2), (2, .int x3), (3, .int x4)]) rfl ?_
  refine hs (f := dm_ald 1 0) rfl rfl ?_
  refine v_geto rfl hM ha1 rfl (fun a5 ha5 => ?_)
  refine v_geto rfl hM ha5 rfl (fun a6 ha6 => ?_)
  refine hs (f := dm_ald 8 0) rfl rfl ?_
  refine v_geto rfl hM ha1 rfl (fun a7 ha7 => ?_)
  refine hs (f := dm_ild 12 1) rfl rfl ?_
  refine v_inv rfl rfl rfl (Nat.le_of_ble_eq_true rfl) hM ha7 (w_I (by decide) (sp_18  hM ha7 x2 ) (fun x8 => ?_))
  refine hs (f := dm_ald 16 0) rfl rfl ?_
  refine v_geto rfl hM ha1 rfl (fun a9 ha9 => ?_)
  refine hs (f := dm_ild 20 2) rfl rfl ?_
  refine v_inv rfl rfl rfl (Nat.le_of_ble_eq_true rfl) hM ha9 (w_I (by decide) (sp_18  hM ha9 x3 ) (fun x10 => ?_))
  refine hc (f := dm_ins 26 38 3) (as := [.ref a6, .int x8, .int x10]) rfl rfl (u_I (by decide) (sp_38  hM ha6 x8 x10 ) (fun x11 M12 hM12 => ?_))
  refine hs (f := dm_ist 28 4) (lv' := [(4, .int x11), (0, .ref a1), (1, .int x2), (2, .int x3), (3, .int x4)]) rfl rfl ?_
  refine hs (f := dm_ald 29 0) rfl rfl ?_
  refine v_geto rfl hM12 ha1 rfl (fun a13 ha13 => ?_)
  refine v_geto rfl hM12 ha13 rfl (fun a14 ha14 => ?_)
  refine hs (f := dm_ald 36 0) rfl rfl ?_
  refine v_geto rfl hM12 ha1 rfl (fun a15 ha15 => ?_)
  refine hs (f := dm_ild 40 1) rfl rfl ?_
  refine v_inv rfl rfl rfl (Nat.le_of_ble_eq_true rfl) hM12 ha15 (w_I (by decide) (sp_19  hM12 ha15 x2 ) (fun x16 => ?_))
  refine hs (f := dm_ald 44 0) rfl rfl ?_
  refine v_geto rfl hM12 ha1 rfl (fun a17 ha17 => ?_)
  refine hs (f := dm_ild 48 2) rfl rfl ?_
  refine v_inv rfl rfl rfl (Nat.le_of_ble_eq_true rfl) hM12 ha17 (w_I (by decide) (sp_19  hM12 ha17 x3 ) (fun x18 => ?_))
  refine hc (f := dm_ins 54 38 3) (as := [.ref a14, .int x16, .int x18]) rfl rfl (u_I (by decide) (sp_38  hM12 ha14 x16 x18 ) (fun x19 M20 hM20 => ?_))
  refine hs (f := dm_ist 56 5) (lv' := [(5, .int x19), (4, .int x11), (0, .ref a1), (1, .int x2), (2, .int x3), (3, .int x4)]) rfl rfl ?_
  refine hs (f := dm_ald 57 0) rfl rfl ?_
  refine v_geto rfl hM20 ha1 rfl (fun a21 ha21 => ?_)
  refine hs (f := dm_ild 62 4) rfl rfl ?_
  refine hs (f := dm_ild 64 5) rfl rfl ?_
  refine hs (f := dm_ild 65 3) rfl rfl ?_
  refine hs (f := dm_ild 66 1) rfl rfl ?_
  refine hs (f := dm_ild 67 2) rfl rfl ?_
  refine v_inv rfl rfl rfl (Nat.le_of_ble_eq_true rfl) hM20 ha21 (u_I (by decide) (sp_15  hM20 ha21 x11 x19 x4 x2 x3 ) (fun x22 M23 hM23 => ?_))
  exact hr (f := dm_ret .int) rfl rfl ⟨_, rfl, hM23⟩
theorem sp_40 {p : iv_P} {M : dm_Mem} (hM : Iv p M) {a1 : Nat} (ha1 : iv_ty a1 = some 6) (x2 : Int32) (x3 : Int32) : hT 126 40 [.ref a1, .int x2, .int x3] M (pI p) := by
  have j33_0 : ∀ (M : dm_Mem) (hM : Iv p M) (x4 : Int32) (a5 : Nat) (ha5 : iv_ty a5 = some 6) (x6 : Int32) (x7 : Int32), hG 125 cd_40 33 [(3, .int x4), (0, .ref a5), (1, .int x6), (2, .int x7)] [] M (pI p) := by
    intro M hM x4 a5 ha5 x6 x7
    refine hs (f := dm_ild 34 3) rfl rfl ?_
    exact hr (f := dm_ret .int) rfl rfl ⟨_, rfl, hM⟩
  refine hx (t := cd_40) rfl (Nat.le_of_ble_eq_true rfl) (lv := [(0, .ref a1), (1, .int x2), (2, .int x3)]) rfl ?_
  refine hs (f := dm_ald 1 0) rfl rfl ?_
  refine v_inv rfl rfl rfl (Nat.le_of_ble_eq_true rfl) hM ha1 (w_I (by decide) (sp_73  hM ha1 ) (fun x8 => ?_))
  refine hs (f := dm_ist 5 3) (lv' := [(3, .int x8), (0, .ref a1), (1, .int x2), (2, .int x3)]) rfl rfl ?_
  refine hs (f := dm_ald 6 0) rfl rfl ?_
  refine hs (f := dm_ild 7 1) rfl rfl ?_
  refine hs (f := dm_ild 8 2) rfl rfl ?_
  refine hs (f := dm_push 9 (.int 0)) rfl rfl ?_
  refine hc (f := dm_ins 12 41 4) (as := [.ref a1, .int x2, .int x3, .int 0]) rfl rfl (u_V (by decide) (rk_41   60 M hM a1 ha1 x2 x3 0 mR_0) (fun M9 hM9 => ?_))
  refine hs (f := dm_ald 13 0) rfl rfl ?_
  refine hs (f := dm_ild 14 3) rfl rfl ?_
  refine hs (f := dm_ild 15 2) rfl rfl ?_
  refine v_inv rfl rfl rfl (Nat.le_of_ble_eq_true rfl) hM9 ha1 (w_B (by decide) (sp_86  hM9 ha1 x8 x3 ) (fun x10 bx10 => ?_))
  refine h_if_eq (n := 21) (tt := 33) rfl (fun h11 => ?_) (fun h11 => ?_)
  · skip
    exact j33_0 M9 hM9 x8 a1 ha1 x2 x3
  · skip
    refine hs (f := dm_ald 22 0) rfl rfl ?_
    refine hs (f := dm_ild 23 3) rfl rfl ?_
    refine v_inv rfl rfl rfl (Nat.le_of_ble_eq_true rfl) hM9 ha1 (u_V (by decide) (sp_74  hM9 ha1 x8 ) (fun M12 hM12 => ?_))
    refine hs (f := dm_ald 27 0) rfl rfl ?_
    refine hs (f := dm_ild 28 1) rfl rfl ?_
    refine hs (f := dm_ild 29 2) rfl rfl ?_
    refine hs (f := dm_push 30 (.int 0)) rfl rfl ?_
    refine hc (f := dm_ins 33 42 4) (as := [.ref a1, .int x2, .int x3, .int 0]) rfl rfl (u_V (by decide) (rk_42   60 M12 hM12 a1 ha1 x2 x3 0 mR_0) (fun M13 hM13 => ?_))
    exact j33_0 M13 hM13 x8 a1 ha1 x2 x3
theorem sp_95 {p : iv_P} (hp : p.2.2.1 = none) {M : dm_Mem} (hM : Iv p M) {a1 : Nat} (ha1 : iv_ty a1 = some 7) : hT 8 95 [.ref a1] M (pV p) := by
  refine hx (t := cd_95) rfl (Nat.le_of_ble_eq_true rfl) (lv := [(0, .ref a1)]) rfl ?_
  refine hs (f := dm_ald 1 0) rfl rfl ?_
  refine v_inv rfl rfl rfl (Nat.le_of_ble_eq_true rfl) hM ha1 (u_V (by decide) (sp_124 hp hM ha1 ) (fun M2 hM2 => ?_))
  exact hr (f := dm_vret) rfl rfl ⟨rfl, hM2⟩
theorem sp_98 {p : iv_P} {M : dm_Mem} (hM : Iv p M) {a1 : Nat} (ha1 : iv_ty a1 = some 7) (x2 : Int32) (x3 : Int32) : hT 68 98 [.ref a1, .int x2, .int x3] M (pI p) := by
  have j45_0 : ∀ (M : dm_Mem) (hM : Iv p M) (x4 : Int32) (x5 : Int32) (a6 : Nat) (ha6 : iv_ty a6 = some 7) (x7 : Int32) (x8 : Int32) (x9 : Int32), hG 67 cd_98 45 [(4, .int x4), (3, .int x5), (0, .ref a6), (1, .int x7), (2, .int x8)] [.int x9] M (pI p) := by
    intro M hM x4 x5 a6 ha6 x7 x8 x9
    exact hr (f := dm_ret .int) rfl rfl ⟨_, rfl, hM⟩
  refine hx (t := cd_98) rfl (Nat.le_of_ble_eq_true rfl) (lv := [(0, .ref a1), (1, .int x2), (2, .int x3)]) rfl ?_
  refine hs (f := dm_ald 1 0) rfl rfl ?_
  refine hs (f := dm_ild 2 1) rfl rfl ?_
  refine hs (f := dm_ild 3 2) rfl rfl ?_
  refine v_inv rfl rfl rfl (Nat.le_of_ble_eq_true rfl) hM ha1 (w_B (by decide) (sp_126  hM ha1 x2 x3 ) (fun x10 bx10 => ?_))
  refine h_if_ne (n := 9) (tt := 11) rfl (fun h11 => ?_) (fun h11 => ?_)
  · skip
    refine hs (f := dm_ald 12 0) rfl rfl ?_
    refine v_geto rfl hM ha1 rfl (fun a12 ha12 => ?_)
    refine v_inv rfl rfl rfl (Nat.le_of_ble_eq_true rfl) hM ha12 (w_I (by decide) (sp_13  hM ha12 ) (fun x13 => ?_))
    refine hs (f := dm_ist 19 3) (lv' := [(3, .int x13), (0, .ref a1), (1, .int x2), (2, .int x3)]) rfl rfl ?_
    refine hs (f := dm_ald 20 0) rfl rfl ?_
    refine hs (f := dm_ild 21 1) rfl rfl ?_
    refine hs (f := dm_ild 22 2) rfl rfl ?_
    refine hs (f := dm_push 23 (.int 3)) rfl rfl ?_
    refine v_inv rfl rfl rfl (Nat.le_of_ble_eq_true rfl) hM ha1 (u_I (by decide) (sp_129  hM ha1 x2 x3 3 ) (fun x14 M15 hM15 => ?_))
    refine hs (f := dm_ist 28 4) (lv' := [(4, .int x14), (3, .int x13), (0, .ref a1), (1, .int x2), (2, .int x3)]) rfl rfl ?_
    refine hs (f := dm_ald 29 0) rfl rfl ?_
    refine hs (f := dm_ild 30 3) rfl rfl ?_
    refine hs (f := dm_push 31 (.int 1)) rfl rfl ?_
    refine hs (f := dm_ild 32 1) rfl rfl ?_
    refine hs (f := dm_ild 33 2) rfl rfl ?_
    refine v_inv rfl rfl rfl (Nat.le_of_ble_eq_true rfl) hM15 ha1 (u_B (by decide) (sp_125  hM15 ha1 x13 1 x2 x3 ) (fun x16 bx16 M17 hM17 => ?_))
    refine h_if_eq (n := 39) (tt := 44) rfl (fun h18 => ?_) (fun h18 => ?_)
    · skip
      refine hs (f := dm_push 45 (.int (-1))) rfl rfl ?_
      exact j45_0 M17 hM17 x14 x13 a1 ha1 x2 x3 (-1)
    · skip
      refine hs (f := dm_ild 41 4) rfl rfl ?_
      refine hs (f := dm_goto 45) rfl rfl ?_
      exact j45_0 M17 hM17 x14 x13 a1 ha1 x2 x3 x14
  · skip
    refine hs (f := dm_push 10 (.int (-1))) rfl rfl ?_
    exact hr (f := dm_ret .int) rfl rfl ⟨_, rfl, hM⟩
theorem sp_103 {p : iv_P} {M : dm_Mem} (hM : Iv p M) {a1 : Nat} (ha1 : iv_ty a1 = some 7) (x2 : Int32) (x3 : Int32) : hT 68 103 [.ref a1, .int x2, .int x3] M (pI p) := by
  have j67_0 : ∀ (M : dm_Mem) (hM : Iv p M) (x4 : Int32) (x5 : Int32) (a6 : Nat) (ha6 : iv_ty a6 = some 7) (x7 : Int32) (x8 : Int32) (x9 : Int32), hG 67 cd_103 67 [(4, .int x4), (3, .int x5), (0, .ref a6), (1, .int x7), (2, .int x8)] [.int x9] M (pI p) := by
    intro M hM x4 x5 a6 ha6 x7 x8 x9
    exact hr (f := dm_ret .int) rfl rfl ⟨_, rfl, hM⟩
  have j31_1 : ∀ (M : dm_Mem) (hM : Iv p M) (a10 : Nat) (ha10 : iv_ty a10 = some 7) (x11 : Int32) (x12 : Int32), hG 67 cd_103 31 [(0, .ref a10), (1, .int x11), (2, .int x12)] [] M (pI p) := by
    intro M hM a10 ha10 x11 x12
    refine hs (f := dm_push 32 (.int (-1))) rfl rfl ?_
    exact hr (f := dm_ret .int) rfl rfl ⟨_, rfl, hM⟩
  refine hx (t := cd_103) rfl (Nat.le_of_ble_eq_true rfl) (lv := [(0, .ref a1), (1, .int x2), (2, .int x3)]) rfl ?_
  refine hs (f := dm_ald 1 0) rfl rfl ?_
  refine v_geto rfl hM ha1 rfl (fun a13 ha13 => ?_)
  refine hs (f := dm_ild 5 1) rfl rfl ?_
  refine v_inv rfl rfl rfl (Nat.le_of_ble_eq_true rfl) hM ha13 (w_B (by decide) (sp_26  hM ha13 x2 ) (fun x14 bx14 => ?_))
  refine h_if_eq (n := 11) (tt := 31) rfl (fun h15 => ?_) (fun h15 => ?_)
  · skip
    exact j31_1 M hM a1 ha1 x2 x3
  · skip
    refine hs (f := dm_ald 12 0) rfl rfl ?_
    refine v_geto rfl hM ha1 rfl (fun a16 ha16 => ?_)
    refine hs (f := dm_ild 16 2) rfl rfl ?_
    refine v_inv rfl rfl rfl (Nat.le_of_ble_eq_true rfl) hM ha16 (w_B (by decide) (sp_28  hM ha16 x3 ) (fun x17 bx17 => ?_))
    refine h_if_eq (n := 22) (tt := 31) rfl (fun h18 => ?_) (fun h18 => ?_)
    · skip
      exact j31_1 M hM a1 ha1 x2 x3
    · skip
      refine hs (f := dm_ald 23 0) rfl rfl ?_
      refine hs (f := dm_ild 24 2) rfl rfl ?_
      refine hs (f := dm_ild 25 1) rfl rfl ?_
      refine v_inv rfl rfl rfl (Nat.le_of_ble_eq_true rfl) hM ha1 (w_B (by decide) (sp_127  hM ha1 x3 x2 ) (fun x19 bx19 => ?_))
      refine h_if_ne (n := 31) (tt := 33) rfl (fun h20 => ?_) (fun h20 => ?_)
      · skip
        refine hs (f := dm_ald 34 0) rfl rfl ?_
        refine v_geto rfl hM ha1 rfl (fun a21 ha21 => ?_)
        refine v_inv rfl rfl rfl (Nat.le_of_ble_eq_true rfl) hM ha21 (w_I (by decide) (sp_13  hM ha21 ) (fun x22 => ?_))
        refine hs (f := dm_ist 41 3) (lv' := [(3, .int x22), (0, .ref a1), (1, .int x2), (2, .int x3)]) rfl rfl ?_
        refine hs (f := dm_ald 42 0) rfl rfl ?_
        refine hs (f := dm_ild 43 1) rfl rfl ?_
        refine hs (f := dm_ild 44 2) rfl rfl ?_
        refine hs (f := dm_push 45 (.int 5)) rfl rfl ?_
        refine v_inv rfl rfl rfl (Nat.le_of_ble_eq_true rfl) hM ha1 (u_I (by decide) (sp_129  hM ha1 x2 x3 5 ) (fun x23 M24 hM24 => ?_))
        refine hs (f := dm_ist 50 4) (lv' := [(4, .int x23), (3, .int x22), (0, .ref a1), (1, .int x2), (2, .int x3)]) rfl rfl ?_
        refine hs (f := dm_ald 51 0) rfl rfl ?_
        refine hs (f := dm_ild 52 3) rfl rfl ?_
        refine hs (f := dm_push 53 (.int 1)) rfl rfl ?_
        refine hs (f := dm_ild 54 1) rfl rfl ?_
        refine hs (f := dm_ild 55 2) rfl rfl ?_
        refine v_inv rfl rfl rfl (Nat.le_of_ble_eq_true rfl) hM24 ha1 (u_B (by decide) (sp_125  hM24 ha1 x22 1 x2 x3 ) (fun x25 bx25 M26 hM26 => ?_))
        refine h_if_eq (n := 61) (tt := 66) rfl (fun h27 => ?_) (fun h27 => ?_)
        · skip
          refine hs (f := dm_push 67 (.int (-1))) rfl rfl ?_
          exact j67_0 M26 hM26 x23 x22 a1 ha1 x2 x3 (-1)
        · skip
          refine hs (f := dm_ild 63 4) rfl rfl ?_
          refine hs (f := dm_goto 67) rfl rfl ?_
          exact j67_0 M26 hM26 x23 x22 a1 ha1 x2 x3 x23
      · skip
        exact j31_1 M hM a1 ha1 x2 x3
theorem sp_105 {p : iv_P} {M : dm_Mem} (hM : Iv p M) {a1 : Nat} (ha1 : iv_ty a1 = some 7) (x2 : Int32) (x3 : Int32) : hT 66 105 [.ref a1, .int x2, .int x3] M (qI M) := by
  have j66_0 : ∀ (x4 : Int32) (bx4 : isB x4) (x5 : Int32) (bx5 : isB x5) (a6 : Nat) (ha6 : iv_ty a6 = some 7) (x7 : Int32) (x8 : Int32) (x9 : Int32), hG 65 cd_105 66 [(4, .int x4), (3, .int x5), (0, .ref a6), (1, .int x7), (2, .int x8)] [.int x9] M (qI M) := by
    intro x4 bx4 x5 bx5 a6 ha6 x7 x8 x9
    exact hr (f := dm_ret .int) rfl rfl ⟨_, rfl, rfl⟩
  have j50_1 : ∀ (x10 : Int32) (bx10 : isB x10) (x11 : Int32) (bx11 : isB x11) (a12 : Nat) (ha12 : iv_ty a12 = some 7) (x13 : Int32) (x14 : Int32), hG 65 cd_105 50 [(4, .int x10), (3, .int x11), (0, .ref a12), (1, .int x13), (2, .int x14)] [] M (qI M) := by
    intro x10 bx10 x11 bx11 a12 ha12 x13 x14
    refine hs (f := dm_ild 51 3) rfl rfl ?_
    refine h_if_eq (n := 54) (tt := 56) rfl (fun h15 => ?_) (fun h15 => ?_)
    · skip
      refine hs (f := dm_ild 58 4) rfl rfl ?_
      refine h_if_eq (n := 61) (tt := 65) rfl (fun h16 => ?_) (fun h16 => ?_)
      · skip
        refine hs (f := dm_push 66 (.int 3)) rfl rfl ?_
        exact j66_0 x10 bx10 x11 bx11 a12 ha12 x13 x14 3
      · skip
        refine hs (f := dm_push 62 (.int 2)) rfl rfl ?_
        refine hs (f := dm_goto 66) rfl rfl ?_
        exact j66_0 x10 bx10 x11 bx11 a12 ha12 x13 x14 2
    · skip
      refine hs (f := dm_push 55 (.int 1)) rfl rfl ?_
      exact hr (f := dm_ret .int) rfl rfl ⟨_, rfl, rfl⟩
  have j22_2 : ∀ (a17 : Nat) (ha17 : iv_ty a17 = some 7) (x18 : Int32) (x19 : Int32), hG 65 cd_105 22 [(0, .ref a17), (1, .int x18), (2, .int x19)] [] M (qI M) := by
    intro a17 ha17 x18 x19
    refine hs (f := dm_push 23 (.int (-1))) rfl rfl ?_
    exact hr (f := dm_ret .int) rfl rfl ⟨_, rfl, rfl⟩
  refine hx (t := cd_105) rfl (Nat.le_of_ble_eq_true rfl) (lv := [(0, .ref a1), (1, .int x2), (2, .int x3)]) rfl ?_
  refine hs (f := dm_ald 1 0) rfl rfl ?_
  refine v_geto rfl hM ha1 rfl (fun a20 ha20 => ?_)
  refine hs (f := dm_ild 5 1) rfl rfl ?_
  refine v_inv rfl rfl rfl (Nat.le_of_ble_eq_true rfl) hM ha20 (w_B (by decide) (sp_17  hM ha20 x2 ) (fun x21 bx21 => ?_))
  refine h_if_eq (n := 11) (tt := 22) rfl (fun h22 => ?_) (fun h22 => ?_)
  · skip
    exact j22_2 a1 ha1 x2 x3
  · skip
    refine hs (f := dm_ald 12 0) rfl rfl ?_
    refine v_geto rfl hM ha1 rfl (fun a23 ha23 => ?_)
    refine hs (f := dm_ild 16 2) rfl rfl ?_
    refine v_inv rfl rfl rfl (Nat.le_of_ble_eq_true rfl) hM ha23 (w_B (by decide) (sp_17  hM ha23 x3 ) (fun x24 bx24 => ?_))
    refine h_if_ne (n := 22) (tt := 24) rfl (fun h25 => ?_) (fun h25 => ?_)
    · skip
      refine hs (f := dm_ald 25 0) rfl rfl ?_
      refine hs (f := dm_ild 26 1) rfl rfl ?_
      refine hs (f := dm_ild 27 2) rfl rfl ?_
      refine v_inv rfl rfl rfl (Nat.le_of_ble_eq_true rfl) hM ha1 (w_B (by decide) (sp_127  hM ha1 x2 x3 ) (fun x26 bx26 => ?_))
      refine hs (f := dm_ist 31 3) (lv' := [(3, .int x26), (0, .ref a1), (1, .int x2), (2, .int x3)]) rfl rfl ?_
      refine hs (f := dm_ald 32 0) rfl rfl ?_
      refine hs (f := dm_ild 33 2) rfl rfl ?_
      refine hs (f := dm_ild 34 1) rfl rfl ?_
      refine v_inv rfl rfl rfl (Nat.le_of_ble_eq_true rfl) hM ha1 (w_B (by decide) (sp_127  hM ha1 x3 x2 ) (fun x27 bx27 => ?_))
      refine hs (f := dm_ist 39 4) (lv' := [(4, .int x27), (3, .int x26), (0, .ref a1), (1, .int x2), (2, .int x3)]) rfl rfl ?_
      refine hs (f := dm_ild 40 3) rfl rfl ?_
      refine h_if_eq (n := 43) (tt := 50) rfl (fun h28 => ?_) (fun h28 => ?_)
      · skip
        exact j50_1 x27 bx27 x26 bx26 a1 ha1 x2 x3
      · skip
        refine hs (f := dm_ild 45 4) rfl rfl ?_
        refine h_if_eq (n := 48) (tt := 50) rfl (fun h29 => ?_) (fun h29 => ?_)
        · skip
          exact j50_1 x27 bx27 x26 bx26 a1 ha1 x2 x3
        · skip
          refine hs (f := dm_push 49 (.int 0)) rfl rfl ?_
          exact hr (f := dm_ret .int) rfl rfl ⟨_, rfl, rfl⟩
    · skip
      exact j22_2 a1 ha1 x2 x3
theorem sp_128 {p : iv_P} {M : dm_Mem} (hM : Iv p M) {a1 : Nat} (ha1 : iv_ty a1 = some 7) (x2 : Int32) : hT 127 128 [.ref a1, .int x2] M (pI p) := by
  refine hx (t := cd_128) rfl (Nat.le_of_ble_eq_true rfl) (lv := [(0, .ref a1), (1, .int x2)]) rfl ?_
  refine hs (f := dm_ald 1 0) rfl rfl ?_
  refine v_geto rfl hM ha1 rfl (fun a3 ha3 => ?_)
  refine hs (f := dm_ild 5 1) rfl rfl ?_
  refine v_inv rfl rfl rfl (Nat.le_of_ble_eq_true rfl) hM ha3 (w_I (by decide) (sp_18  hM ha3 x2 ) (fun x4 => ?_))
  refine hs (f := dm_ist 9 2) (lv' := [(2, .int x4), (0, .ref a1), (1, .int x2)]) rfl rfl ?_
  refine hs (f := dm_ald 10 0) rfl rfl ?_
  refine v_geto rfl hM ha1 rfl (fun a5 ha5 => ?_)
  refine v_geto rfl hM ha5 rfl (fun a6 ha6 => ?_)
  refine hs (f := dm_ild 17 2) rfl rfl ?_
  refine hs (f := dm_ald 18 0) rfl rfl ?_
  refine v_geto rfl hM ha1 rfl (fun a7 ha7 => ?_)
  refine hs (f := dm_ild 22 1) rfl rfl ?_
  refine v_inv rfl rfl rfl (Nat.le_of_ble_eq_true rfl) hM ha7 (w_I (by decide) (sp_19  hM ha7 x2 ) (fun x8 => ?_))
  refine hc (f := dm_ins 28 40 3) (as := [.ref a6, .int x4, .int x8]) rfl rfl (u_I (by decide) (sp_40  hM ha6 x4 x8 ) (fun x9 M10 hM10 => ?_))
  refine hs (f := dm_ist 29 3) (lv' := [(3, .int x9), (2, .int x4), (0, .ref a1), (1, .int x2)]) rfl rfl ?_
  refine hs (f := dm_ald 30 0) rfl rfl ?_
  refine v_geto rfl hM10 ha1 rfl (fun a11 ha11 => ?_)
  refine hs (f := dm_ild 34 2) rfl rfl ?_
  refine hs (f := dm_ild 35 3) rfl rfl ?_
  refine hs (f := dm_push 36 (.int 2)) rfl rfl ?_
  refine hs (f := dm_ild 37 1) rfl rfl ?_
  refine hs (f := dm_push 38 (.int (-1))) rfl rfl ?_
  refine v_inv rfl rfl rfl (Nat.le_of_ble_eq_true rfl) hM10 ha11 (u_I (by decide) (sp_15  hM10 ha11 x4 x9 2 x2 (-1) ) (fun x12 M13 hM13 => ?_))
  exact hr (f := dm_ret .int) rfl rfl ⟨_, rfl, hM13⟩
theorem sp_97 {p : iv_P} {M : dm_Mem} (hM : Iv p M) {a1 : Nat} (ha1 : iv_ty a1 = some 7) (x2 : Int32) : hT 128 97 [.ref a1, .int x2] M (pI p) := by
  have j43_0 : ∀ (M : dm_Mem) (hM : Iv p M) (x3 : Int32) (x4 : Int32) (a5 : Nat) (ha5 : iv_ty a5 = some 7) (x6 : Int32) (x7 : Int32), hG 127 cd_97 43 [(3, .int x3), (2, .int x4), (0, .ref a5), (1, .int x6)] [.int x7] M (pI p) := by
    intro M hM x3 x4 a5 ha5 x6 x7
    exact hr (f := dm_ret .int) rfl rfl ⟨_, rfl, hM⟩
  refine hx (t := cd_97) rfl (Nat.le_of_ble_eq_true rfl) (lv := [(0, .ref a1), (1, .int x2)]) rfl ?_
  refine hs (f := dm_ald 1 0) rfl rfl ?_
  refine v_geto rfl hM ha1 rfl (fun a8 ha8 => ?_)
  refine hs (f := dm_ild 5 1) rfl rfl ?_
  refine v_inv rfl rfl rfl (Nat.le_of_ble_eq_true rfl) hM ha8 (w_B (by decide) (sp_27  hM ha8 x2 ) (fun x9 bx9 => ?_))
  refine h_if_ne (n := 11) (tt := 13) rfl (fun h10 => ?_) (fun h10 => ?_)
  · skip
    refine hs (f := dm_ald 14 0) rfl rfl ?_
    refine v_geto rfl hM ha1 rfl (fun a11 ha11 => ?_)
    refine v_inv rfl rfl rfl (Nat.le_of_ble_eq_true rfl) hM ha11 (w_I (by decide) (sp_13  hM ha11 ) (fun x12 => ?_))
    refine hs (f := dm_ist 21 2) (lv' := [(2, .int x12), (0, .ref a1), (1, .int x2)]) rfl rfl ?_
    refine hs (f := dm_ald 22 0) rfl rfl ?_
    refine hs (f := dm_ild 23 1) rfl rfl ?_
    refine v_inv rfl rfl rfl (Nat.le_of_ble_eq_true rfl) hM ha1 (u_I (by decide) (sp_128  hM ha1 x2 ) (fun x13 M14 hM14 => ?_))
    refine hs (f := dm_ist 27 3) (lv' := [(3, .int x13), (2, .int x12), (0, .ref a1), (1, .int x2)]) rfl rfl ?_
    refine hs (f := dm_ald 28 0) rfl rfl ?_
    refine hs (f := dm_ild 29 2) rfl rfl ?_
    refine hs (f := dm_push 30 (.int 1)) rfl rfl ?_
    refine hs (f := dm_ild 31 1) rfl rfl ?_
    refine hs (f := dm_push 32 (.int (-1))) rfl rfl ?_
    refine v_inv rfl rfl rfl (Nat.le_of_ble_eq_true rfl) hM14 ha1 (u_B (by decide) (sp_125  hM14 ha1 x12 1 x2 (-1) ) (fun x15 bx15 M16 hM16 => ?_))
    refine h_if_eq (n := 38) (tt := 42) rfl (fun h17 => ?_) (fun h17 => ?_)
    · skip
      refine hs (f := dm_push 43 (.int (-1))) rfl rfl ?_
      exact j43_0 M16 hM16 x13 x12 a1 ha1 x2 (-1)
    · skip
      refine hs (f := dm_ild 39 3) rfl rfl ?_
      refine hs (f := dm_goto 43) rfl rfl ?_
      exact j43_0 M16 hM16 x13 x12 a1 ha1 x2 x13
  · skip
    refine hs (f := dm_push 12 (.int (-1))) rfl rfl ?_
    exact hr (f := dm_ret .int) rfl rfl ⟨_, rfl, hM⟩
theorem sp_100 {p : iv_P} {M : dm_Mem} (hM : Iv p M) {a1 : Nat} (ha1 : iv_ty a1 = some 7) (x2 : Int32) : hT 128 100 [.ref a1, .int x2] M (pI p) := by
  have j54_0 : ∀ (M : dm_Mem) (hM : Iv p M) (x3 : Int32) (x4 : Int32) (a5 : Nat) (ha5 : iv_ty a5 = some 7) (x6 : Int32) (x7 : Int32), hG 127 cd_100 54 [(3, .int x3), (2, .int x4), (0, .ref a5), (1, .int x6)] [.int x7] M (pI p) := by
    intro M hM x3 x4 a5 ha5 x6 x7
    exact hr (f := dm_ret .int) rfl rfl ⟨_, rfl, hM⟩
  have j38_1 : ∀ (M : dm_Mem) (hM : Iv p M) (x8 : Int32) (x9 : Int32) (a10 : Nat) (ha10 : iv_ty a10 = some 7) (x11 : Int32), hG 127 cd_100 38 [(3, .int x8), (2, .int x9), (0, .ref a10), (1, .int x11)] [] M (pI p) := by
    intro M hM x8 x9 a10 ha10 x11
    refine hs (f := dm_ald 39 0) rfl rfl ?_
    refine hs (f := dm_ild 40 2) rfl rfl ?_
    refine hs (f := dm_push 41 (.int 2)) rfl rfl ?_
    refine hs (f := dm_ild 42 1) rfl rfl ?_
    refine hs (f := dm_push 43 (.int (-1))) rfl rfl ?_
    refine v_inv rfl rfl rfl (Nat.le_of_ble_eq_true rfl) hM ha10 (u_B (by decide) (sp_125  hM ha10 x9 2 x11 (-1) ) (fun x12 bx12 M13 hM13 => ?_))
    refine h_if_eq (n := 49) (tt := 53) rfl (fun h14 => ?_) (fun h14 => ?_)
    · skip
      refine hs (f := dm_push 54 (.int (-1))) rfl rfl ?_
      exact j54_0 M13 hM13 x8 x9 a10 ha10 x11 (-1)
    · skip
      refine hs (f := dm_ild 50 3) rfl rfl ?_
      refine hs (f := dm_goto 54) rfl rfl ?_
      exact j54_0 M13 hM13 x8 x9 a10 ha10 x11 x8
  refine hx (t := cd_100) rfl (Nat.le_of_ble_eq_true rfl) (lv := [(0, .ref a1), (1, .int x2)]) rfl ?_
  refine hs (f := dm_ald 1 0) rfl rfl ?_
  refine v_geto rfl hM ha1 rfl (fun a15 ha15 => ?_)
  refine hs (f := dm_ild 5 1) rfl rfl ?_
  refine v_inv rfl rfl rfl (Nat.le_of_ble_eq_true rfl) hM ha15 (w_B (by decide) (sp_27  hM ha15 x2 ) (fun x16 bx16 => ?_))
  refine h_if_ne (n := 11) (tt := 13) rfl (fun h17 => ?_) (fun h17 => ?_)
  · skip
    refine hs (f := dm_ald 14 0) rfl rfl ?_
    refine v_geto rfl hM ha1 rfl (fun a18 ha18 => ?_)
    refine v_inv rfl rfl rfl (Nat.le_of_ble_eq_true rfl) hM ha18 (w_I (by decide) (sp_13  hM ha18 ) (fun x19 => ?_))
    refine hs (f := dm_ist 21 2) (lv' := [(2, .int x19), (0, .ref a1), (1, .int x2)]) rfl rfl ?_
    refine hs (f := dm_ald 22 0) rfl rfl ?_
    refine hs (f := dm_ild 23 1) rfl rfl ?_
    refine v_inv rfl rfl rfl (Nat.le_of_ble_eq_true rfl) hM ha1 (u_I (by decide) (sp_128  hM ha1 x2 ) (fun x20 M21 hM21 => ?_))
    refine hs (f := dm_ist 27 3) (lv' := [(3, .int x20), (2, .int x19), (0, .ref a1), (1, .int x2)]) rfl rfl ?_
    refine hs (f := dm_ild 28 3) rfl rfl ?_
    refine hs (f := dm_push 29 (.int (-1))) rfl rfl ?_
    refine h_ic_eq (n := 32) (tt := 38) rfl (fun h22 => ?_) (fun h22 => ?_)
    · skip
      exact j38_1 M21 hM21 x20 x19 a1 ha1 x2
    · skip
      refine hs (f := dm_ald 33 0) rfl rfl ?_
      refine hs (f := dm_ild 34 3) rfl rfl ?_
      refine v_inv rfl rfl rfl (Nat.le_of_ble_eq_true rfl) hM21 ha1 (u_I (by decide) (sp_130  hM21 ha1 x20 ) (fun x23 M24 hM24 => ?_))
      refine hs (f := dm_pop 38) (st' := []) rfl rfl ?_
      exact j38_1 M24 hM24 x20 x19 a1 ha1 x2
  · skip
    refine hs (f := dm_push 12 (.int (-1))) rfl rfl ?_
    exact hr (f := dm_ret .int) rfl rfl ⟨_, rfl, hM⟩
theorem sp_101 {p : iv_P} {M : dm_Mem} (hM : Iv p M) {a1 : Nat} (ha1 : iv_ty a1 = some 7) (x2 : Int32) (x3 : Int32) : hT 128 101 [.ref a1, .int x2, .int x3] M (pI p) := by
  have j66_0 : ∀ (M : dm_Mem) (hM : Iv p M) (x4 : Int32) (x5 : Int32) (a6 : Nat) (ha6 : iv_ty a6 = some 7) (x7 : Int32) (x8 : Int32) (x9 : Int32), hG 127 cd_101 66 [(4, .int x4), (3, .int x5), (0, .ref a6), (1, .int x7), (2, .int x8)] [.int x9] M (pI p) := by
    intro M hM x4 x5 a6 ha6 x7 x8 x9
    refine hs (f := dm_ist 68 5) (lv' := [(5, .int x9), (4, .int x4), (3, .int x5), (0, .ref a6), (1, .int x7), (2, .int x8)]) rfl rfl ?_
    refine hs (f := dm_ald 69 0) rfl rfl ?_
    refine hs (f := dm_ild 70 3) rfl rfl ?_
    refine hs (f := dm_push 71 (.int 2)) rfl rfl ?_
    refine hs (f := dm_ild 72 1) rfl rfl ?_
    refine hs (f := dm_ild 73 2) rfl rfl ?_
    refine v_inv rfl rfl rfl (Nat.le_of_ble_eq_true rfl) hM ha6 (u_B (by decide) (sp_125  hM ha6 x5 2 x7 x8 ) (fun x10 bx10 M11 hM11 => ?_))
    refine h_if_ne (n := 79) (tt := 81) rfl (fun h12 => ?_) (fun h12 => ?_)
    · skip
      refine hs (f := dm_ald 82 0) rfl rfl ?_
      refine v_geto rfl hM11 ha6 rfl (fun a13 ha13 => ?_)
      refine hs (f := dm_ild 87 4) rfl rfl ?_
      refine v_inv rfl rfl rfl (Nat.le_of_ble_eq_true rfl) hM11 ha13 (u_V (by decide) (sp_29  hM11 ha13 x4 ) (fun M14 hM14 => ?_))
      refine hs (f := dm_ild 92 5) rfl rfl ?_
      exact hr (f := dm_ret .int) rfl rfl ⟨_, rfl, hM14⟩
    · skip
      refine hs (f := dm_push 80 (.int (-1))) rfl rfl ?_
      exact hr (f := dm_ret .int) rfl rfl ⟨_, rfl, hM11⟩
  have j33_1 : ∀ (M : dm_Mem) (hM : Iv p M) (a15 : Nat) (ha15 : iv_ty a15 = some 7) (x16 : Int32) (x17 : Int32), hG 127 cd_101 33 [(0, .ref a15), (1, .int x16), (2, .int x17)] [] M (pI p) := by
    intro M hM a15 ha15 x16 x17
    refine hs (f := dm_ald 34 0) rfl rfl ?_
    refine v_geto rfl hM ha15 rfl (fun a18 ha18 => ?_)
    refine v_inv rfl rfl rfl (Nat.le_of_ble_eq_true rfl) hM ha18 (w_I (by decide) (sp_13  hM ha18 ) (fun x19 => ?_))
    refine hs (f := dm_ist 41 3) (lv' := [(3, .int x19), (0, .ref a15), (1, .int x16), (2, .int x17)]) rfl rfl ?_
    refine hs (f := dm_ald 42 0) rfl rfl ?_
    refine hs (f := dm_ild 43 1) rfl rfl ?_
    refine hs (f := dm_ild 44 2) rfl rfl ?_
    refine hs (f := dm_push 45 (.int 3)) rfl rfl ?_
    refine v_inv rfl rfl rfl (Nat.le_of_ble_eq_true rfl) hM ha15 (u_I (by decide) (sp_129  hM ha15 x16 x17 3 ) (fun x20 M21 hM21 => ?_))
    refine hs (f := dm_ist 50 4) (lv' := [(4, .int x20), (3, .int x19), (0, .ref a15), (1, .int x16), (2, .int x17)]) rfl rfl ?_
    refine hs (f := dm_ild 52 4) rfl rfl ?_
    refine hs (f := dm_push 53 (.int (-1))) rfl rfl ?_
    refine h_ic_ne (n := 56) (tt := 60) rfl (fun h22 => ?_) (fun h22 => ?_)
    · skip
      refine hs (f := dm_ald 61 0) rfl rfl ?_
      refine hs (f := dm_ild 63 4) rfl rfl ?_
      refine v_inv rfl rfl rfl (Nat.le_of_ble_eq_true rfl) hM21 ha15 (u_I (by decide) (sp_128  hM21 ha15 x20 ) (fun x23 M24 hM24 => ?_))
      exact j66_0 M24 hM24 x20 x19 a15 ha15 x16 x17 x23
    · skip
      refine hs (f := dm_push 57 (.int (-1))) rfl rfl ?_
      refine hs (f := dm_goto 66) rfl rfl ?_
      exact j66_0 M21 hM21 x20 x19 a15 ha15 x16 x17 (-1)
  have j31_2 : ∀ (M : dm_Mem) (hM : Iv p M) (a25 : Nat) (ha25 : iv_ty a25 = some 7) (x26 : Int32) (x27 : Int32), hG 127 cd_101 31 [(0, .ref a25), (1, .int x26), (2, .int x27)] [] M (pI p) := by
    intro M hM a25 ha25 x26 x27
    refine hs (f := dm_push 32 (.int (-1))) rfl rfl ?_
    exact hr (f := dm_ret .int) rfl rfl ⟨_, rfl, hM⟩
  refine hx (t := cd_101) rfl (Nat.le_of_ble_eq_true rfl) (lv := [(0, .ref a1), (1, .int x2), (2, .int x3)]) rfl ?_
  refine hs (f := dm_ald 1 0) rfl rfl ?_
  refine hs (f := dm_ild 2 1) rfl rfl ?_
  refine hs (f := dm_ild 3 2) rfl rfl ?_
  refine v_inv rfl rfl rfl (Nat.le_of_ble_eq_true rfl) hM ha1 (w_B (by decide) (sp_126  hM ha1 x2 x3 ) (fun x28 bx28 => ?_))
  refine h_if_eq (n := 9) (tt := 31) rfl (fun h29 => ?_) (fun h29 => ?_)
  · skip
    exact j31_2 M hM a1 ha1 x2 x3
  · skip
    refine hs (f := dm_ald 10 0) rfl rfl ?_
    refine v_geto rfl hM ha1 rfl (fun a30 ha30 => ?_)
    refine hs (f := dm_ild 14 1) rfl rfl ?_
    refine v_inv rfl rfl rfl (Nat.le_of_ble_eq_true rfl) hM ha30 (w_B (by decide) (sp_27  hM ha30 x2 ) (fun x31 bx31 => ?_))
    refine h_if_ne (n := 20) (tt := 33) rfl (fun h32 => ?_) (fun h32 => ?_)
    · skip
      exact j33_1 M hM a1 ha1 x2 x3
    · skip
      refine hs (f := dm_ald 21 0) rfl rfl ?_
      refine v_geto rfl hM ha1 rfl (fun a33 ha33 => ?_)
      refine hs (f := dm_ild 25 2) rfl rfl ?_
      refine v_inv rfl rfl rfl (Nat.le_of_ble_eq_true rfl) hM ha33 (w_B (by decide) (sp_27  hM ha33 x3 ) (fun x34 bx34 => ?_))
      refine h_if_ne (n := 31) (tt := 33) rfl (fun h35 => ?_) (fun h35 => ?_)
      · skip
        exact j33_1 M hM a1 ha1 x2 x3
      · skip
        exact j31_2 M hM a1 ha1 x2 x3
