/-! the law's way to the switch -/
theorem dm_sld_ok {n L : Nat} {xs : Nat → Int32} {i : Int32} {j : Nat} {lv : dm_Lv} {r : List Value} {z : UInt32} {M : dm_Mem} (h1 : ¬ (i < 0 ∨ L ≤ i.toNatClampNeg)) (h2 : i.toNatClampNeg = j) : dm_sld n L xs lv (.int i :: .float z :: r) M = some (.inl ((n, lv, .int (xs j) :: r), M)) := by
  subst h2
  unfold dm_sld
  simp only [if_neg h1]
theorem dm_new_ok {n ci k : Nat} {fs : List Value} {lv : dm_Lv} {st : List Value} {M : dm_Mem} (h : M.length = k) : dm_new n ci fs lv st M = some (.inl ((n, lv, .ref k :: st), M ++ [.inr (ci, fs)])) := by
  unfold dm_new
  rw [h]
theorem dm_tsw_at {lo hi : Int} {d : Nat} {ts : List Nat} {lv : dm_Lv} {r : List Value} {M : dm_Mem} {x k : Int32} {o : Option dm_Rs} (h : x = k) (h2 : dm_tsw lo hi d ts lv (.int k :: r) M = o) : dm_tsw lo hi d ts lv (.int x :: r) M = o := by rw [h]; exact h2
def dm_bd (M : dm_Mem) : Bool := decide (M.length ≤ 600000) && decide (dm_slots M ≤ 7000000)
set_option maxRecDepth 100000 in
theorem ev_b : ev_1.length = 68 ∧ ev_2.length = 116 ∧ dm_bd ev_3 = true := by decide +kernel
def lvA : dm_Lv := [(4, .int 0), (3, .ref 116), (2, .ref 68), (1, .ref 0), (0, .float 0)]
theorem dm_newa_ok {n k : Nat} {ty : FieldType} {lv : dm_Lv} {r : List Value} {M : dm_Mem} (h : M.length = k) : dm_newa n ty lv (.int 1 :: r) M = some (.inl ((n, lv, .ref k :: r), M ++ [.inl (ty, 1, dm_zero ty)])) := by
  unfold dm_newa
  rw [h]
  rfl
theorem i_L9 : ∀ L : Nat, L < 9 → Int32.ofNat L - 9 < 0 := by decide
set_option maxRecDepth 100000 in
theorem lw_sw (xs : Nat → Int32) (f1 f2 : dm_Sem) {o : Option (Option Value × dm_Mem)} (h : dm_run ev_E (cdL 9 xs f1 f2) 1999976 (40, lvA, [.int (xs 0 &&& 31)]) ev_3 = o) : dm_run ev_E (cdL 9 xs f1 f2) 2000000 (0, [(0, .float 0)], []) [] = o := by
  refine qs (f := dm_new 3 7 nf_X10) rfl (rfl) ?_
  refine qs (f := dm_dup 4) rfl (rfl) ?_
  refine qc (f := dm_ini 7 94 0) rfl (rfl) (ev_ok ev_a.1) ?_
  refine qs (f := dm_ast 8 1) rfl (rfl) ?_
  refine qs (f := dm_new 11 8 nf_X11) rfl (dm_new_ok ev_b.1) ?_
  refine qs (f := dm_dup 12) rfl (rfl) ?_
  refine qc (f := dm_ini 15 134 0) rfl (rfl) (ev_ok ev_a.2.2) ?_
  refine qs (f := dm_ast 16 2) rfl (rfl) ?_
  refine qs (f := dm_push 17 (.int 1)) rfl (rfl) ?_
  refine qs (f := dm_newa 19 .long) rfl (dm_newa_ok ev_b.2.1) ?_
  refine qs (f := dm_ast 20 3) rfl (rfl) ?_
  refine qs (f := dm_push 21 (.int 0)) rfl (rfl) ?_
  refine qs (f := dm_ist 23 4) rfl (rfl) ?_
  refine qs (f := dm_ild 25 4) rfl (rfl) ?_
  refine qs (f := dm_ald 26 0) rfl (rfl) ?_
  refine qs (f := dm_sln 27 9) rfl (rfl) ?_
  refine qs (f := dm_push 29 (.int 9)) rfl (rfl) ?_
  refine qs (f := dm_ii 30 (fun x y => x - y)) rfl (rfl) ?_
  refine qs (f := dm_ic_gt 33 1269) rfl (dm_ic_gt_f (by decide)) ?_
  refine qs (f := dm_ald 34 0) rfl (rfl) ?_
  refine qs (f := dm_ild 36 4) rfl (rfl) ?_
  refine qs (f := dm_sld 37 9 xs) rfl (dm_sld_ok (j := 0) (by decide) (by decide)) ?_
  refine qs (f := dm_push 39 (.int 31)) rfl (rfl) ?_
  refine qs (f := dm_ii 40 (fun x y => x &&& y)) rfl (rfl) ?_
  exact h
set_option maxRecDepth 100000 in
theorem lw_few (L : Nat) (hL : L < 9) (xs : Nat → Int32) (f1 f2 : dm_Sem) : dm_run ev_E (cdL L xs f1 f2) 2000000 (0, [(0, .float 0)], []) [] = some (some (.int 1), ev_3) := by
  refine qs (f := dm_new 3 7 nf_X10) rfl (rfl) ?_
  refine qs (f := dm_dup 4) rfl (rfl) ?_
  refine qc (f := dm_ini 7 94 0) rfl (rfl) (ev_ok ev_a.1) ?_
  refine qs (f := dm_ast 8 1) rfl (rfl) ?_
  refine qs (f := dm_new 11 8 nf_X11) rfl (dm_new_ok ev_b.1) ?_
  refine qs (f := dm_dup 12) rfl (rfl) ?_
  refine qc (f := dm_ini 15 134 0) rfl (rfl) (ev_ok ev_a.2.2) ?_
  refine qs (f := dm_ast 16 2) rfl (rfl) ?_
  refine qs (f := dm_push 17 (.int 1)) rfl (rfl) ?_
  refine qs (f := dm_newa 19 .long) rfl (dm_newa_ok ev_b.2.1) ?_
  refine qs (f := dm_ast 20 3) rfl (rfl) ?_
  refine qs (f := dm_push 21 (.int 0)) rfl (rfl) ?_
  refine qs (f := dm_ist 23 4) rfl (rfl) ?_
  refine qs (f := dm_ild 25 4) rfl (rfl) ?_
  refine qs (f := dm_ald 26 0) rfl (rfl) ?_
  refine qs (f := dm_sln 27 L) rfl (rfl) ?_
  refine qs (f := dm_push 29 (.int 9)) rfl (rfl) ?_
  refine qs (f := dm_ii 30 (fun x y => x - y)) rfl (rfl) ?_
  refine qs (f := dm_ic_gt 33 1269) rfl (dm_ic_gt_t (i_L9 L hL)) ?_
  refine qs (f := dm_push 1270 (.int 1)) rfl rfl ?_
  exact qr (f := dm_ret .boolean) rfl rfl
