/-! a stamp is made -/
def cpy (d s old : Nat → Int64) (b k : Int) : Prop := (∀ i : Int, 0 ≤ i → i < k → d (b + i).toNat = s i.toNat) ∧ (∀ m : Int, 0 ≤ m → m < b → d m.toNat = old m.toNat)
theorem cpy_0 {s old : Nat → Int64} {b : Int} : cpy old s old b 0 := ⟨fun i i0 i1 => by omega, fun m _ _ => rfl⟩
theorem cpy_s {d s old : Nat → Int64} {b k : Int} {m : Nat} {x : Int64} (h : cpy d s old b k) (hb : 0 ≤ b) (hk : 0 ≤ k) (hm : (m : Int) = b + k) (hx : s k.toNat = x) : cpy (vp_updL d m x) s old b (k + 1) := by
  refine ⟨fun i i0 i1 => ?_, fun i i0 i1 => ?_⟩
  · unfold vp_updL
    by_cases e : i = k
    · subst e
      rw [if_pos (by omega), hx]
    · rw [if_neg (by omega)]
      exact h.1 i i0 (by omega)
  · unfold vp_updL
    rw [if_neg (by omega)]
    exact h.2 i i0 i1
theorem i_ofNat2 {L : Nat} (h : L ≤ 2000000000) : (Int32.ofNat L).toInt = L := by
  rw [Int32.toInt_ofNat']
  have h1 : Int32.size = 4294967296 := rfl
  exact Int.bmod_eq_of_le (by omega) (by omega)
theorem rA_put {a : Nat → Int32} {m : Nat} {x : Int32} {i : Int} (hi : (m : Int) = i) : rA (upd a m x) i = x.toInt ∧ ∀ k : Int, 0 ≤ k → k ≠ i → rA (upd a m x) k = rA a k := by
  refine ⟨?_, fun k k0 hk => ?_⟩
  · rw [rA_upd (by omega), if_pos (by omega)]
  · rw [rA_upd k0, if_neg (by omega)]
set_option maxHeartbeats 8000000 in
theorem mk_tail {X : dm_Mem} {q : rS} (kd a b : Int32) (ha : -1 ≤ a.toInt ∧ a.toInt < 1000) (hb : -1 ≤ b.toInt ∧ b.toInt < 1000) (hm : 0 ≤ (q.1 15).toInt ∧ (q.1 15).toInt < 1000) (hS : wS (q.2.2.2 92) (q.1 29).toInt) (hNN : (q.1 29).toInt ≤ 24000) (ho : 0 ≤ (q.1 34).toInt ∧ (q.1 34).toInt ≤ 24000) (hSN : SN (q.2.2.2 96) (q.2.2.2 97) (q.1 34).toInt 60 0 ≤ 10000000) (hHN : HN (q.2.2.2 92) (q.1 29).toInt 60 0 ≤ 10000000) (hnd : 0 ≤ (q.1 17).toInt ∧ (q.1 17).toInt ≤ 100000) (b69 b71 b72 : Nat → Int64) (c70 c73 c74 c75 c76 c78 c79 c80 : Nat → Int32) (k : Int32) (M : dm_Mem) (hM : Rm X (sA (sA (sA (sA (sA (sA (sA (sA (sB (sB (sB q 69 b69) 71 b71) 72 b72) 70 c70) 73 c73) 74 c74) 75 c75) 76 c76) 78 c78) 79 c79) 80 c80) M) : hG 63 cd_140 215 [(5, .int k), (4, .int (q.1 15)), (0, .ref 68), (1, .int kd), (2, .int a), (3, .int b)] [] M (fun r M' => r = some (.int (q.1 15)) ∧ ∃ (c83 : Nat → Int64) (c77 c81 c82 : Nat → Int32) (m2 nd : Int32), (rA c81 ((q.1 15).toInt) = SN (q.2.2.2 96) (q.2.2.2 97) (q.1 34).toInt 60 0 ∧ ∀ m : Int, 0 ≤ m → m ≠ (q.1 15).toInt → rA c81 m = rA (q.2.2.1 81) m) ∧ (rA c82 ((q.1 15).toInt) = HN (q.2.2.2 92) (q.1 29).toInt 60 0 ∧ ∀ m : Int, 0 ≤ m → m ≠ (q.1 15).toInt → rA c82 m = rA (q.2.2.1 82) m) ∧ m2.toInt = (q.1 15).toInt + 1 ∧ nd.toInt = (q.1 17).toInt + SN (q.2.2.2 96) (q.2.2.2 97) (q.1 34).toInt 60 0 + HN (q.2.2.2 92) (q.1 29).toInt 60 0 ∧ Rm X (sA (sA (sA (sA (sA (sA (sA (sA (sA (sA (sA (sB (sB (sB (sB (sF (sF q 15 m2) 17 nd) 69 b69) 71 b71) 72 b72) 83 c83) 70 c70) 73 c73) 74 c74) 75 c75) 76 c76) 77 c77) 78 c78) 79 c79) 80 c80) 81 c81) 82 c82) M') := by
  have j264 : ∀ (nn : Nat), ∀ (x k : Int32) (c83 : Nat → Int64) (M : dm_Mem), Rm X (sA (sA (sA (sA (sA (sA (sA (sA (sA (sB (sB (sB (sB q 69 b69) 71 b71) 72 b72) 83 c83) 70 c70) 73 c73) 74 c74) 75 c75) 76 c76) 77 (upd (q.2.2.1 77) (q.1 15).toInt.toNat (vp_nar .boolean x))) 78 c78) 79 c79) 80 c80) M → (0 ≤ k.toInt) → (16 - k.toInt).toNat = nn → hG 63 cd_140 264 [(5, .int k), (4, .int (q.1 15)), (0, .ref 68), (1, .int kd), (2, .int a), (3, .int b)] [] M (fun r M' => r = some (.int (q.1 15)) ∧ ∃ (c83 : Nat → Int64) (c77 c81 c82 : Nat → Int32) (m2 nd : Int32), (rA c81 ((q.1 15).toInt) = SN (q.2.2.2 96) (q.2.2.2 97) (q.1 34).toInt 60 0 ∧ ∀ m : Int, 0 ≤ m → m ≠ (q.1 15).toInt → rA c81 m = rA (q.2.2.1 81) m) ∧ (rA c82 ((q.1 15).toInt) = HN (q.2.2.2 92) (q.1 29).toInt 60 0 ∧ ∀ m : Int, 0 ≤ m → m ≠ (q.1 15).toInt → rA c82 m = rA (q.2.2.1 82) m) ∧ m2.toInt = (q.1 15).toInt + 1 ∧ nd.toInt = (q.1 17).toInt + SN (q.2.2.2 96) (q.2.2.2 97) (q.1 34).toInt 60 0 + HN (q.2.2.2 92) (q.1 29).toInt 60 0 ∧ Rm X (sA (sA (sA (sA (sA (sA (sA (sA (sA (sA (sA (sB (sB (sB (sB (sF (sF q 15 m2) 17 nd) 69 b69) 71 b71) 72 b72) 83 c83) 70 c70) 73 c73) 74 c74) 75 c75) 76 c76) 77 c77) 78 c78) 79 c79) 80 c80) 81 c81) 82 c82) M') := by
    intro nn
    induction nn using Nat.strongRecOn with
    | ind nn IH =>
      intro x k c83 M hM k0 hms
      refine hs (f := dm_ild 266 5) rfl rfl ?_
      refine hs (f := dm_push 268 (.int 16)) rfl rfl ?_
      refine g_ic_ge (n := 271) (tt := 333) rfl (fun h1 => ?_) (fun h1 => ?_)
      · skip
        have h1 : k.toInt ≥ 16 := h1
        refine hs (f := dm_ald 334 0) rfl rfl ?_
        refine r_geta (c := 78) rfl hM rfl ?_
        refine hs (f := dm_ild 339 4) rfl rfl ?_
        refine hs (f := dm_ald 340 0) rfl rfl ?_
        refine hs (f := dm_push 341 (.long 0)) rfl rfl ?_
        refine hs (f := dm_push 344 (.long 1152921504606846976)) rfl rfl ?_
        refine r_inv rfl hM rfl (as := [.ref 68, .long 0, .long 1152921504606846976]) rfl (Nat.le_of_ble_eq_true rfl) (hT_mono (by decide) (show hT 62 153 [.ref 68, .long 0, .long 1152921504606846976] _ (fun r M' => r = some (.int (Int32.ofNat (SN (q.2.2.2 96) (q.2.2.2 97) (q.1 34).toInt 60 0))) ∧ M' = _) from r_153 hM ho 60 0 1152921504606846976 rfl (by decide) (by decide)) (fun r1 M2 w => ?_))
        obtain ⟨rfl, rfl⟩ := w
        refine r_iast (L := 1000) (i := (q.1 15)) (x := (Int32.ofNat (SN (q.2.2.2 96) (q.2.2.2 97) (q.1 34).toInt 60 0))) (q.2.2.1 81) rfl hM rfl (by omega) rfl (fun M4 hM4 => ?_)
        replace hM4 := rm_to (q' := (sA (sA (sA (sA (sA (sA (sA (sA (sA (sA (sB (sB (sB (sB q 69 b69) 71 b71) 72 b72) 83 c83) 70 c70) 73 c73) 74 c74) 75 c75) 76 c76) 77 (upd (q.2.2.1 77) (q.1 15).toInt.toNat (vp_nar .boolean x))) 78 c78) 79 c79) 80 c80) 81 (upd (q.2.2.1 81) (q.1 15).toInt.toNat (Int32.ofNat (SN (q.2.2.2 96) (q.2.2.2 97) (q.1 34).toInt 60 0))))) hM4 (show sA (sA (sA (sA (sA (sA (sA (sA (sA (sA (sB (sB (sB (sB q 69 b69) 71 b71) 72 b72) 83 c83) 70 c70) 73 c73) 74 c74) 75 c75) 76 c76) 77 (upd (q.2.2.1 77) (q.1 15).toInt.toNat (vp_nar .boolean x))) 78 c78) 79 c79) 80 c80) 81 (upd (q.2.2.1 81) (q.1 15).toInt.toNat (Int32.ofNat (SN (q.2.2.2 96) (q.2.2.2 97) (q.1 34).toInt 60 0))) = (sA (sA (sA (sA (sA (sA (sA (sA (sA (sA (sB (sB (sB (sB q 69 b69) 71 b71) 72 b72) 83 c83) 70 c70) 73 c73) 74 c74) 75 c75) 76 c76) 77 (upd (q.2.2.1 77) (q.1 15).toInt.toNat (vp_nar .boolean x))) 78 c78) 79 c79) 80 c80) 81 (upd (q.2.2.1 81) (q.1 15).toInt.toNat (Int32.ofNat (SN (q.2.2.2 96) (q.2.2.2 97) (q.1 34).toInt 60 0)))) from (show sA (sA (sA (sA (sA (sA (sA (sA (sA (sA (sB (sB (sB (sB q 69 b69) 71 b71) 72 b72) 83 c83) 70 c70) 73 c73) 74 c74) 75 c75) 76 c76) 77 (upd (q.2.2.1 77) (q.1 15).toInt.toNat (vp_nar .boolean x))) 78 c78) 79 c79) 80 c80) 81 (upd (q.2.2.1 81) (q.1 15).toInt.toNat (Int32.ofNat (SN (q.2.2.2 96) (q.2.2.2 97) (q.1 34).toInt 60 0))) = (sA (sA (sA (sA (sA (sA (sA (sA (sA (sA (sB (sB (sB (sB q 69 b69) 71 b71) 72 b72) 83 c83) 70 c70) 73 c73) 74 c74) 75 c75) 76 c76) 77 (upd (q.2.2.1 77) (q.1 15).toInt.toNat (vp_nar .boolean x))) 78 c78) 79 c79) 80 c80) 81 (upd (q.2.2.1 81) (q.1 15).toInt.toNat (Int32.ofNat (SN (q.2.2.2 96) (q.2.2.2 97) (q.1 34).toInt 60 0)))) from rfl))
        refine hs (f := dm_ald 349 0) rfl rfl ?_
        refine r_geta (c := 79) rfl hM4 rfl ?_
        refine hs (f := dm_ild 354 4) rfl rfl ?_
        refine hs (f := dm_ald 355 0) rfl rfl ?_
        refine hs (f := dm_push 356 (.long 0)) rfl rfl ?_
        refine hs (f := dm_push 359 (.long 1152921504606846976)) rfl rfl ?_
        refine r_inv rfl hM4 rfl (as := [.ref 68, .long 0, .long 1152921504606846976]) rfl (Nat.le_of_ble_eq_true rfl) (hT_mono (by decide) (show hT 63 151 [.ref 68, .long 0, .long 1152921504606846976] _ (fun r M' => r = some (.int (Int32.ofNat (HN (q.2.2.2 92) (q.1 29).toInt 60 0))) ∧ M' = _) from r_151 hM4 hS (show (q.1 29).toInt ≤ 24000 by omega) 60 0 1152921504606846976 rfl (by decide) (by decide)) (fun r1 M5 w => ?_))
        obtain ⟨rfl, rfl⟩ := w
        refine r_iast (L := 1000) (i := (q.1 15)) (x := (Int32.ofNat (HN (q.2.2.2 92) (q.1 29).toInt 60 0))) (q.2.2.1 82) rfl hM4 rfl (by omega) rfl (fun M7 hM7 => ?_)
        replace hM7 := rm_to (q' := (sA (sA (sA (sA (sA (sA (sA (sA (sA (sA (sA (sB (sB (sB (sB q 69 b69) 71 b71) 72 b72) 83 c83) 70 c70) 73 c73) 74 c74) 75 c75) 76 c76) 77 (upd (q.2.2.1 77) (q.1 15).toInt.toNat (vp_nar .boolean x))) 78 c78) 79 c79) 80 c80) 81 (upd (q.2.2.1 81) (q.1 15).toInt.toNat (Int32.ofNat (SN (q.2.2.2 96) (q.2.2.2 97) (q.1 34).toInt 60 0)))) 82 (upd (q.2.2.1 82) (q.1 15).toInt.toNat (Int32.ofNat (HN (q.2.2.2 92) (q.1 29).toInt 60 0))))) hM7 (show sA (sA (sA (sA (sA (sA (sA (sA (sA (sA (sA (sB (sB (sB (sB q 69 b69) 71 b71) 72 b72) 83 c83) 70 c70) 73 c73) 74 c74) 75 c75) 76 c76) 77 (upd (q.2.2.1 77) (q.1 15).toInt.toNat (vp_nar .boolean x))) 78 c78) 79 c79) 80 c80) 81 (upd (q.2.2.1 81) (q.1 15).toInt.toNat (Int32.ofNat (SN (q.2.2.2 96) (q.2.2.2 97) (q.1 34).toInt 60 0)))) 82 (upd (q.2.2.1 82) (q.1 15).toInt.toNat (Int32.ofNat (HN (q.2.2.2 92) (q.1 29).toInt 60 0))) = (sA (sA (sA (sA (sA (sA (sA (sA (sA (sA (sA (sB (sB (sB (sB q 69 b69) 71 b71) 72 b72) 83 c83) 70 c70) 73 c73) 74 c74) 75 c75) 76 c76) 77 (upd (q.2.2.1 77) (q.1 15).toInt.toNat (vp_nar .boolean x))) 78 c78) 79 c79) 80 c80) 81 (upd (q.2.2.1 81) (q.1 15).toInt.toNat (Int32.ofNat (SN (q.2.2.2 96) (q.2.2.2 97) (q.1 34).toInt 60 0)))) 82 (upd (q.2.2.1 82) (q.1 15).toInt.toNat (Int32.ofNat (HN (q.2.2.2 92) (q.1 29).toInt 60 0)))) from (show sA (sA (sA (sA (sA (sA (sA (sA (sA (sA (sA (sB (sB (sB (sB q 69 b69) 71 b71) 72 b72) 83 c83) 70 c70) 73 c73) 74 c74) 75 c75) 76 c76) 77 (upd (q.2.2.1 77) (q.1 15).toInt.toNat (vp_nar .boolean x))) 78 c78) 79 c79) 80 c80) 81 (upd (q.2.2.1 81) (q.1 15).toInt.toNat (Int32.ofNat (SN (q.2.2.2 96) (q.2.2.2 97) (q.1 34).toInt 60 0)))) 82 (upd (q.2.2.1 82) (q.1 15).toInt.toNat (Int32.ofNat (HN (q.2.2.2 92) (q.1 29).toInt 60 0))) = (sA (sA (sA (sA (sA (sA (sA (sA (sA (sA (sA (sB (sB (sB (sB q 69 b69) 71 b71) 72 b72) 83 c83) 70 c70) 73 c73) 74 c74) 75 c75) 76 c76) 77 (upd (q.2.2.1 77) (q.1 15).toInt.toNat (vp_nar .boolean x))) 78 c78) 79 c79) 80 c80) 81 (upd (q.2.2.1 81) (q.1 15).toInt.toNat (Int32.ofNat (SN (q.2.2.2 96) (q.2.2.2 97) (q.1 34).toInt 60 0)))) 82 (upd (q.2.2.1 82) (q.1 15).toInt.toNat (Int32.ofNat (HN (q.2.2.2 92) (q.1 29).toInt 60 0)))) from rfl))
        refine hs (f := dm_ald 364 0) rfl rfl ?_
        refine hs (f := dm_dup 365) (st' := [.ref 68, .ref 68]) rfl rfl ?_
        refine r_geti (q.1 17) rfl hM7 rfl rfl ?_
        refine hs (f := dm_ald 369 0) rfl rfl ?_
        refine r_geta (c := 78) rfl hM7 rfl ?_
        refine hs (f := dm_ild 374 4) rfl rfl ?_
        refine r_iald (L := 1000) (i := (q.1 15)) ((upd (q.2.2.1 81) (q.1 15).toInt.toNat (Int32.ofNat (SN (q.2.2.2 96) (q.2.2.2 97) (q.1 34).toInt 60 0))) (q.1 15).toInt.toNat) rfl hM7 rfl (by omega) rfl ?_
        generalize g9 : (upd (q.2.2.1 81) (q.1 15).toInt.toNat (Int32.ofNat (SN (q.2.2.2 96) (q.2.2.2 97) (q.1 34).toInt 60 0))) (q.1 15).toInt.toNat = v8
        have x10 : v8.toInt = rA (upd (q.2.2.1 81) (q.1 15).toInt.toNat (Int32.ofNat (SN (q.2.2.2 96) (q.2.2.2 97) (q.1 34).toInt 60 0))) ((q.1 15).toInt) := rA_of (i := (q.1 15)) g9 rfl
        rw [(rA_put (by omega)).1, i_ofNat2 (by omega)] at x10
        refine hs (f := dm_ald 376 0) rfl rfl ?_
        refine r_geta (c := 79) rfl hM7 rfl ?_
        refine hs (f := dm_ild 381 4) rfl rfl ?_
        refine r_iald (L := 1000) (i := (q.1 15)) ((upd (q.2.2.1 82) (q.1 15).toInt.toNat (Int32.ofNat (HN (q.2.2.2 92) (q.1 29).toInt 60 0))) (q.1 15).toInt.toNat) rfl hM7 rfl (by omega) rfl ?_
        generalize g12 : (upd (q.2.2.1 82) (q.1 15).toInt.toNat (Int32.ofNat (HN (q.2.2.2 92) (q.1 29).toInt 60 0))) (q.1 15).toInt.toNat = v11
        have x13 : v11.toInt = rA (upd (q.2.2.1 82) (q.1 15).toInt.toNat (Int32.ofNat (HN (q.2.2.2 92) (q.1 29).toInt 60 0))) ((q.1 15).toInt) := rA_of (i := (q.1 15)) g12 rfl
        rw [(rA_put (by omega)).1, i_ofNat2 (by omega)] at x13
        have e14 : (v8 + v11).toInt = (SN (q.2.2.2 96) (q.2.2.2 97) (q.1 34).toInt 60 0 : Int) + (HN (q.2.2.2 92) (q.1 29).toInt 60 0 : Int) := by have w := i_add (x := v8) (y := v11) (by omega) (by omega); omega
        refine hs (f := dm_ii 383 (fun x y => x + y)) (st' := [.int (v8 + v11), .int (q.1 17), .ref 68]) rfl rfl ?_
        have e15 : ((q.1 17) + (v8 + v11)).toInt = (q.1 17).toInt + (SN (q.2.2.2 96) (q.2.2.2 97) (q.1 34).toInt 60 0 : Int) + (HN (q.2.2.2 92) (q.1 29).toInt 60 0 : Int) := by have w := i_add (x := (q.1 17)) (y := (v8 + v11)) (by omega) (by omega); omega
        refine hs (f := dm_ii 384 (fun x y => x + y)) (st' := [.int ((q.1 17) + (v8 + v11)), .ref 68]) rfl rfl ?_
        refine r_puti rfl hM7 rfl (fun M16 hM16 => ?_)
        replace hM16 := rm_to (q' := (sA (sA (sA (sA (sA (sA (sA (sA (sA (sA (sA (sB (sB (sB (sB (sF q 17 ((q.1 17) + (v8 + v11))) 69 b69) 71 b71) 72 b72) 83 c83) 70 c70) 73 c73) 74 c74) 75 c75) 76 c76) 77 (upd (q.2.2.1 77) (q.1 15).toInt.toNat (vp_nar .boolean x))) 78 c78) 79 c79) 80 c80) 81 (upd (q.2.2.1 81) (q.1 15).toInt.toNat (Int32.ofNat (SN (q.2.2.2 96) (q.2.2.2 97) (q.1 34).toInt 60 0)))) 82 (upd (q.2.2.1 82) (q.1 15).toInt.toNat (Int32.ofNat (HN (q.2.2.2 92) (q.1 29).toInt 60 0))))) hM16 (show sF (sA (sA (sA (sA (sA (sA (sA (sA (sA (sA (sA (sB (sB (sB (sB q 69 b69) 71 b71) 72 b72) 83 c83) 70 c70) 73 c73) 74 c74) 75 c75) 76 c76) 77 (upd (q.2.2.1 77) (q.1 15).toInt.toNat (vp_nar .boolean x))) 78 c78) 79 c79) 80 c80) 81 (upd (q.2.2.1 81) (q.1 15).toInt.toNat (Int32.ofNat (SN (q.2.2.2 96) (q.2.2.2 97) (q.1 34).toInt 60 0)))) 82 (upd (q.2.2.1 82) (q.1 15).toInt.toNat (Int32.ofNat (HN (q.2.2.2 92) (q.1 29).toInt 60 0)))) 17 ((q.1 17) + (v8 + v11)) = (sA (sA (sA (sA (sA (sA (sA (sA (sA (sA (sA (sB (sB (sB (sB (sF q 17 ((q.1 17) + (v8 + v11))) 69 b69) 71 b71) 72 b72) 83 c83) 70 c70) 73 c73) 74 c74) 75 c75) 76 c76) 77 (upd (q.2.2.1 77) (q.1 15).toInt.toNat (vp_nar .boolean x))) 78 c78) 79 c79) 80 c80) 81 (upd (q.2.2.1 81) (q.1 15).toInt.toNat (Int32.ofNat (SN (q.2.2.2 96) (q.2.2.2 97) (q.1 34).toInt 60 0)))) 82 (upd (q.2.2.1 82) (q.1 15).toInt.toNat (Int32.ofNat (HN (q.2.2.2 92) (q.1 29).toInt 60 0)))) from (congrArg (fun z => (sA (sA (sA (sA (sA (sA (sA (sA (sA (sA (sA (sB (sB (sB (sB z 69 b69) 71 b71) 72 b72) 83 c83) 70 c70) 73 c73) 74 c74) 75 c75) 76 c76) 77 (upd (q.2.2.1 77) (q.1 15).toInt.toNat (vp_nar .boolean x))) 78 c78) 79 c79) 80 c80) 81 (upd (q.2.2.1 81) (q.1 15).toInt.toNat (Int32.ofNat (SN (q.2.2.2 96) (q.2.2.2 97) (q.1 34).toInt 60 0)))) 82 (upd (q.2.2.1 82) (q.1 15).toInt.toNat (Int32.ofNat (HN (q.2.2.2 92) (q.1 29).toInt 60 0))))) (show sF q 17 ((q.1 17) + (v8 + v11)) = (sF q 17 ((q.1 17) + (v8 + v11))) from rfl)))
        refine hs (f := dm_ald 388 0) rfl rfl ?_
        refine hs (f := dm_dup 389) (st' := [.ref 68, .ref 68]) rfl rfl ?_
        refine r_geti (q.1 15) rfl hM16 rfl rfl ?_
        refine hs (f := dm_push 393 (.int 1)) rfl rfl ?_
        have e17 : ((q.1 15) + (1 : Int32)).toInt = (q.1 15).toInt + 1 := by have w := i_addc (x := (q.1 15)) (y := (1 : Int32)) 1 rfl (by omega) (by omega); omega
        refine hs (f := dm_ii 394 (fun x y => x + y)) (st' := [.int ((q.1 15) + (1 : Int32)), .ref 68]) rfl rfl ?_
        refine r_puti rfl hM16 rfl (fun M18 hM18 => ?_)
        replace hM18 := rm_to (q' := (sA (sA (sA (sA (sA (sA (sA (sA (sA (sA (sA (sB (sB (sB (sB (sF (sF q 15 ((q.1 15) + (1 : Int32))) 17 ((q.1 17) + (v8 + v11))) 69 b69) 71 b71) 72 b72) 83 c83) 70 c70) 73 c73) 74 c74) 75 c75) 76 c76) 77 (upd (q.2.2.1 77) (q.1 15).toInt.toNat (vp_nar .boolean x))) 78 c78) 79 c79) 80 c80) 81 (upd (q.2.2.1 81) (q.1 15).toInt.toNat (Int32.ofNat (SN (q.2.2.2 96) (q.2.2.2 97) (q.1 34).toInt 60 0)))) 82 (upd (q.2.2.1 82) (q.1 15).toInt.toNat (Int32.ofNat (HN (q.2.2.2 92) (q.1 29).toInt 60 0))))) hM18 (show sF (sA (sA (sA (sA (sA (sA (sA (sA (sA (sA (sA (sB (sB (sB (sB (sF q 17 ((q.1 17) + (v8 + v11))) 69 b69) 71 b71) 72 b72) 83 c83) 70 c70) 73 c73) 74 c74) 75 c75) 76 c76) 77 (upd (q.2.2.1 77) (q.1 15).toInt.toNat (vp_nar .boolean x))) 78 c78) 79 c79) 80 c80) 81 (upd (q.2.2.1 81) (q.1 15).toInt.toNat (Int32.ofNat (SN (q.2.2.2 96) (q.2.2.2 97) (q.1 34).toInt 60 0)))) 82 (upd (q.2.2.1 82) (q.1 15).toInt.toNat (Int32.ofNat (HN (q.2.2.2 92) (q.1 29).toInt 60 0)))) 15 ((q.1 15) + (1 : Int32)) = (sA (sA (sA (sA (sA (sA (sA (sA (sA (sA (sA (sB (sB (sB (sB (sF (sF q 15 ((q.1 15) + (1 : Int32))) 17 ((q.1 17) + (v8 + v11))) 69 b69) 71 b71) 72 b72) 83 c83) 70 c70) 73 c73) 74 c74) 75 c75) 76 c76) 77 (upd (q.2.2.1 77) (q.1 15).toInt.toNat (vp_nar .boolean x))) 78 c78) 79 c79) 80 c80) 81 (upd (q.2.2.1 81) (q.1 15).toInt.toNat (Int32.ofNat (SN (q.2.2.2 96) (q.2.2.2 97) (q.1 34).toInt 60 0)))) 82 (upd (q.2.2.1 82) (q.1 15).toInt.toNat (Int32.ofNat (HN (q.2.2.2 92) (q.1 29).toInt 60 0)))) from (congrArg (fun z => (sA (sA (sA (sA (sA (sA (sA (sA (sA (sA (sA (sB (sB (sB (sB z 69 b69) 71 b71) 72 b72) 83 c83) 70 c70) 73 c73) 74 c74) 75 c75) 76 c76) 77 (upd (q.2.2.1 77) (q.1 15).toInt.toNat (vp_nar .boolean x))) 78 c78) 79 c79) 80 c80) 81 (upd (q.2.2.1 81) (q.1 15).toInt.toNat (Int32.ofNat (SN (q.2.2.2 96) (q.2.2.2 97) (q.1 34).toInt 60 0)))) 82 (upd (q.2.2.1 82) (q.1 15).toInt.toNat (Int32.ofNat (HN (q.2.2.2 92) (q.1 29).toInt 60 0))))) (show sF (sF q 17 ((q.1 17) + (v8 + v11))) 15 ((q.1 15) + (1 : Int32)) = (sF (sF q 15 ((q.1 15) + (1 : Int32))) 17 ((q.1 17) + (v8 + v11))) from Eq.trans (show sF (sF q 17 ((q.1 17) + (v8 + v11))) 15 ((q.1 15) + (1 : Int32)) = sF (sF q 15 ((q.1 15) + (1 : Int32))) 17 ((q.1 17) + (v8 + v11)) from sF_cm (by decide)) (congrArg (fun z => sF z 17 ((q.1 17) + (v8 + v11))) (show sF q 15 ((q.1 15) + (1 : Int32)) = (sF q 15 ((q.1 15) + (1 : Int32))) from rfl)))))
        refine hs (f := dm_ild 399 4) rfl rfl ?_
        exact hr (f := dm_ret .int) rfl rfl (⟨rfl, c83, (upd (q.2.2.1 77) (q.1 15).toInt.toNat (vp_nar .boolean x)), (upd (q.2.2.1 81) (q.1 15).toInt.toNat (Int32.ofNat (SN (q.2.2.2 96) (q.2.2.2 97) (q.1 34).toInt 60 0))), (upd (q.2.2.1 82) (q.1 15).toInt.toNat (Int32.ofNat (HN (q.2.2.2 92) (q.1 29).toInt 60 0))), ((q.1 15) + (1 : Int32)), ((q.1 17) + (v8 + v11)), (by have z := rA_put (a := (q.2.2.1 81)) (x := (Int32.ofNat (SN (q.2.2.2 96) (q.2.2.2 97) (q.1 34).toInt 60 0))) (m := (q.1 15).toInt.toNat) (i := (q.1 15).toInt) (by omega); refine ⟨?_, z.2⟩; rw [z.1]; exact i_ofNat2 (by omega)), (by have z := rA_put (a := (q.2.2.1 82)) (x := (Int32.ofNat (HN (q.2.2.2 92) (q.1 29).toInt 60 0))) (m := (q.1 15).toInt.toNat) (i := (q.1 15).toInt) (by omega); refine ⟨?_, z.2⟩; rw [z.1]; exact i_ofNat2 (by omega)), by omega, by omega, hM18⟩)
      · skip
        have h1 : k.toInt < 16 := h1
        refine hs (f := dm_ald 272 0) rfl rfl ?_
        refine r_geta (c := 80) rfl hM rfl ?_
        refine hs (f := dm_push 277 (.int 16)) rfl rfl ?_
        refine hs (f := dm_ild 279 4) rfl rfl ?_
        have e19 : ((16 : Int32) * (q.1 15)).toInt = 16 * ((q.1 15).toInt) := by have w := i_mulc (x := (16 : Int32)) (y := (q.1 15)) 16 rfl (by omega) (by omega); omega
        refine hs (f := dm_ii 280 (fun x y => x * y)) (st' := [.int ((16 : Int32) * (q.1 15)), .ref 83]) rfl rfl ?_
        refine hs (f := dm_ild 282 5) rfl rfl ?_
        have e20 : (((16 : Int32) * (q.1 15)) + k).toInt = 16 * ((q.1 15).toInt) + k.toInt := by have w := i_add (x := ((16 : Int32) * (q.1 15))) (y := k) (by omega) (by omega); omega
        refine hs (f := dm_ii 283 (fun x y => x + y)) (st' := [.int (((16 : Int32) * (q.1 15)) + k), .ref 83]) rfl rfl ?_
        refine hs (f := dm_ild 284 2) rfl rfl ?_
        refine hs (f := dm_push 285 (.int (-1))) rfl rfl ?_
        refine g_ic_ne (n := 288) (tt := 292) rfl (fun h21 => ?_) (fun h21 => ?_)
        · skip
          have h21 : ¬ a.toInt = (-1) := h21
          refine hs (f := dm_ald 293 0) rfl rfl ?_
          refine r_geta (c := 80) rfl hM rfl ?_
          refine hs (f := dm_push 298 (.int 16)) rfl rfl ?_
          refine hs (f := dm_ild 299 2) rfl rfl ?_
          have e22 : ((16 : Int32) * a).toInt = 16 * a.toInt := by have w := i_mulc (x := (16 : Int32)) (y := a) 16 rfl (by omega) (by omega); omega
          refine hs (f := dm_ii 300 (fun x y => x * y)) (st' := [.int ((16 : Int32) * a), .ref 83, .int (((16 : Int32) * (q.1 15)) + k), .ref 83]) rfl rfl ?_
          refine hs (f := dm_ild 302 5) rfl rfl ?_
          have e23 : (((16 : Int32) * a) + k).toInt = 16 * a.toInt + k.toInt := by have w := i_add (x := ((16 : Int32) * a)) (y := k) (by omega) (by omega); omega
          refine hs (f := dm_ii 303 (fun x y => x + y)) (st' := [.int (((16 : Int32) * a) + k), .ref 83, .int (((16 : Int32) * (q.1 15)) + k), .ref 83]) rfl rfl ?_
          refine r_lald (L := 16000) (i := (((16 : Int32) * a) + k)) (c83 (((16 : Int32) * a) + k).toInt.toNat) rfl hM rfl (by omega) rfl ?_
          generalize g25 : c83 (((16 : Int32) * a) + k).toInt.toNat = v24
          have x26 : v24.toInt = rB c83 (16 * a.toInt + k.toInt) := rB_of (i := (((16 : Int32) * a) + k)) g25 e23
          refine hs (f := dm_ild 305 3) rfl rfl ?_
          refine hs (f := dm_push 306 (.int (-1))) rfl rfl ?_
          refine g_ic_ne (n := 309) (tt := 313) rfl (fun h27 => ?_) (fun h27 => ?_)
          · skip
            have h27 : ¬ b.toInt = (-1) := h27
            refine hs (f := dm_ald 314 0) rfl rfl ?_
            refine r_geta (c := 80) rfl hM rfl ?_
            refine hs (f := dm_push 319 (.int 16)) rfl rfl ?_
            refine hs (f := dm_ild 320 3) rfl rfl ?_
            have e28 : ((16 : Int32) * b).toInt = 16 * b.toInt := by have w := i_mulc (x := (16 : Int32)) (y := b) 16 rfl (by omega) (by omega); omega
            refine hs (f := dm_ii 321 (fun x y => x * y)) (st' := [.int ((16 : Int32) * b), .ref 83, .long v24, .int (((16 : Int32) * (q.1 15)) + k), .ref 83]) rfl rfl ?_
            refine hs (f := dm_ild 323 5) rfl rfl ?_
            have e29 : (((16 : Int32) * b) + k).toInt = 16 * b.toInt + k.toInt := by have w := i_add (x := ((16 : Int32) * b)) (y := k) (by omega) (by omega); omega
            refine hs (f := dm_ii 324 (fun x y => x + y)) (st' := [.int (((16 : Int32) * b) + k), .ref 83, .long v24, .int (((16 : Int32) * (q.1 15)) + k), .ref 83]) rfl rfl ?_
            refine r_lald (L := 16000) (i := (((16 : Int32) * b) + k)) (c83 (((16 : Int32) * b) + k).toInt.toNat) rfl hM rfl (by omega) rfl ?_
            generalize g31 : c83 (((16 : Int32) * b) + k).toInt.toNat = v30
            have x32 : v30.toInt = rB c83 (16 * b.toInt + k.toInt) := rB_of (i := (((16 : Int32) * b) + k)) g31 e29
            refine hs (f := dm_ll 326 (fun x y => x ||| y)) (st' := [.long (v24 ||| v30), .int (((16 : Int32) * (q.1 15)) + k), .ref 83]) rfl rfl ?_
            refine r_last (L := 16000) (i := (((16 : Int32) * (q.1 15)) + k)) (x := (v24 ||| v30)) c83 rfl hM rfl (by omega) rfl (fun M33 hM33 => ?_)
            replace hM33 := rm_to (q' := (sA (sA (sA (sA (sA (sA (sA (sA (sA (sB (sB (sB (sB q 69 b69) 71 b71) 72 b72) 83 (vp_updL c83 (((16 : Int32) * (q.1 15)) + k).toInt.toNat (v24 ||| v30))) 70 c70) 73 c73) 74 c74) 75 c75) 76 c76) 77 (upd (q.2.2.1 77) (q.1 15).toInt.toNat (vp_nar .boolean x))) 78 c78) 79 c79) 80 c80)) hM33 (show sB (sA (sA (sA (sA (sA (sA (sA (sA (sA (sB (sB (sB (sB q 69 b69) 71 b71) 72 b72) 83 c83) 70 c70) 73 c73) 74 c74) 75 c75) 76 c76) 77 (upd (q.2.2.1 77) (q.1 15).toInt.toNat (vp_nar .boolean x))) 78 c78) 79 c79) 80 c80) 83 (vp_updL c83 (((16 : Int32) * (q.1 15)) + k).toInt.toNat (v24 ||| v30)) = (sA (sA (sA (sA (sA (sA (sA (sA (sA (sB (sB (sB (sB q 69 b69) 71 b71) 72 b72) 83 (vp_updL c83 (((16 : Int32) * (q.1 15)) + k).toInt.toNat (v24 ||| v30))) 70 c70) 73 c73) 74 c74) 75 c75) 76 c76) 77 (upd (q.2.2.1 77) (q.1 15).toInt.toNat (vp_nar .boolean x))) 78 c78) 79 c79) 80 c80) from (congrArg (fun z => (sA (sA (sA (sA (sA (sA (sA (sA (sA z 70 c70) 73 c73) 74 c74) 75 c75) 76 c76) 77 (upd (q.2.2.1 77) (q.1 15).toInt.toNat (vp_nar .boolean x))) 78 c78) 79 c79) 80 c80)) (show sB (sB (sB (sB (sB q 69 b69) 71 b71) 72 b72) 83 c83) 83 (vp_updL c83 (((16 : Int32) * (q.1 15)) + k).toInt.toNat (v24 ||| v30)) = (sB (sB (sB (sB q 69 b69) 71 b71) 72 b72) 83 (vp_updL c83 (((16 : Int32) * (q.1 15)) + k).toInt.toNat (v24 ||| v30))) from sB_sB)))
            have e34 : (k + 1).toInt = k.toInt + 1 := by have w := i_addc (x := k) (y := 1) 1 rfl (by omega) (by omega); omega
            refine hs (f := dm_iinc 330 5 1) (lv' := [(5, .int (k + 1)), (4, .int (q.1 15)), (0, .ref 68), (1, .int kd), (2, .int a), (3, .int b)]) rfl rfl ?_
            refine hs (f := dm_goto 264) rfl rfl ?_
            exact (IH _ (by omega)) x (k + 1) (vp_updL c83 (((16 : Int32) * (q.1 15)) + k).toInt.toNat (v24 ||| v30)) _ hM33 (by omega) rfl
          · skip
            have h27 : b.toInt = (-1) := h27
            refine hs (f := dm_push 310 (.long 0)) rfl rfl ?_
            refine hs (f := dm_goto 325) rfl rfl ?_
            refine hs (f := dm_ll 326 (fun x y => x ||| y)) (st' := [.long (v24 ||| (0 : Int64)), .int (((16 : Int32) * (q.1 15)) + k), .ref 83]) rfl rfl ?_
            refine r_last (L := 16000) (i := (((16 : Int32) * (q.1 15)) + k)) (x := (v24 ||| (0 : Int64))) c83 rfl hM rfl (by omega) rfl (fun M35 hM35 => ?_)
            replace hM35 := rm_to (q' := (sA (sA (sA (sA (sA (sA (sA (sA (sA (sB (sB (sB (sB q 69 b69) 71 b71) 72 b72) 83 (vp_updL c83 (((16 : Int32) * (q.1 15)) + k).toInt.toNat (v24 ||| (0 : Int64)))) 70 c70) 73 c73) 74 c74) 75 c75) 76 c76) 77 (upd (q.2.2.1 77) (q.1 15).toInt.toNat (vp_nar .boolean x))) 78 c78) 79 c79) 80 c80)) hM35 (show sB (sA (sA (sA (sA (sA (sA (sA (sA (sA (sB (sB (sB (sB q 69 b69) 71 b71) 72 b72) 83 c83) 70 c70) 73 c73) 74 c74) 75 c75) 76 c76) 77 (upd (q.2.2.1 77) (q.1 15).toInt.toNat (vp_nar .boolean x))) 78 c78) 79 c79) 80 c80) 83 (vp_updL c83 (((16 : Int32) * (q.1 15)) + k).toInt.toNat (v24 ||| (0 : Int64))) = (sA (sA (sA (sA (sA (sA (sA (sA (sA (sB (sB (sB (sB q 69 b69) 71 b71) 72 b72) 83 (vp_updL c83 (((16 : Int32) * (q.1 15)) + k).toInt.toNat (v24 ||| (0 : Int64)))) 70 c70) 73 c73) 74 c74) 75 c75) 76 c76) 77 (upd (q.2.2.1 77) (q.1 15).toInt.toNat (vp_nar .boolean x))) 78 c78) 79 c79) 80 c80) from (congrArg (fun z => (sA (sA (sA (sA (sA (sA (sA (sA (sA z 70 c70) 73 c73) 74 c74) 75 c75) 76 c76) 77 (upd (q.2.2.1 77) (q.1 15).toInt.toNat (vp_nar .boolean x))) 78 c78) 79 c79) 80 c80)) (show sB (sB (sB (sB (sB q 69 b69) 71 b71) 72 b72) 83 c83) 83 (vp_updL c83 (((16 : Int32) * (q.1 15)) + k).toInt.toNat (v24 ||| (0 : Int64))) = (sB (sB (sB (sB q 69 b69) 71 b71) 72 b72) 83 (vp_updL c83 (((16 : Int32) * (q.1 15)) + k).toInt.toNat (v24 ||| (0 : Int64)))) from sB_sB)))
            have e36 : (k + 1).toInt = k.toInt + 1 := by have w := i_addc (x := k) (y := 1) 1 rfl (by omega) (by omega); omega
            refine hs (f := dm_iinc 330 5 1) (lv' := [(5, .int (k + 1)), (4, .int (q.1 15)), (0, .ref 68), (1, .int kd), (2, .int a), (3, .int b)]) rfl rfl ?_
            refine hs (f := dm_goto 264) rfl rfl ?_
            exact (IH _ (by omega)) x (k + 1) (vp_updL c83 (((16 : Int32) * (q.1 15)) + k).toInt.toNat (v24 ||| (0 : Int64))) _ hM35 (by omega) rfl
        · skip
          have h21 : a.toInt = (-1) := h21
          refine hs (f := dm_push 289 (.long 0)) rfl rfl ?_
          refine hs (f := dm_goto 304) rfl rfl ?_
          refine hs (f := dm_ild 305 3) rfl rfl ?_
          refine hs (f := dm_push 306 (.int (-1))) rfl rfl ?_
          refine g_ic_ne (n := 309) (tt := 313) rfl (fun h37 => ?_) (fun h37 => ?_)
          · skip
            have h37 : ¬ b.toInt = (-1) := h37
            refine hs (f := dm_ald 314 0) rfl rfl ?_
            refine r_geta (c := 80) rfl hM rfl ?_
            refine hs (f := dm_push 319 (.int 16)) rfl rfl ?_
            refine hs (f := dm_ild 320 3) rfl rfl ?_
            have e38 : ((16 : Int32) * b).toInt = 16 * b.toInt := by have w := i_mulc (x := (16 : Int32)) (y := b) 16 rfl (by omega) (by omega); omega
            refine hs (f := dm_ii 321 (fun x y => x * y)) (st' := [.int ((16 : Int32) * b), .ref 83, .long 0, .int (((16 : Int32) * (q.1 15)) + k), .ref 83]) rfl rfl ?_
            refine hs (f := dm_ild 323 5) rfl rfl ?_
            have e39 : (((16 : Int32) * b) + k).toInt = 16 * b.toInt + k.toInt := by have w := i_add (x := ((16 : Int32) * b)) (y := k) (by omega) (by omega); omega
            refine hs (f := dm_ii 324 (fun x y => x + y)) (st' := [.int (((16 : Int32) * b) + k), .ref 83, .long 0, .int (((16 : Int32) * (q.1 15)) + k), .ref 83]) rfl rfl ?_
            refine r_lald (L := 16000) (i := (((16 : Int32) * b) + k)) (c83 (((16 : Int32) * b) + k).toInt.toNat) rfl hM rfl (by omega) rfl ?_
            generalize g41 : c83 (((16 : Int32) * b) + k).toInt.toNat = v40
            have x42 : v40.toInt = rB c83 (16 * b.toInt + k.toInt) := rB_of (i := (((16 : Int32) * b) + k)) g41 e39
            refine hs (f := dm_ll 326 (fun x y => x ||| y)) (st' := [.long ((0 : Int64) ||| v40), .int (((16 : Int32) * (q.1 15)) + k), .ref 83]) rfl rfl ?_
            refine r_last (L := 16000) (i := (((16 : Int32) * (q.1 15)) + k)) (x := ((0 : Int64) ||| v40)) c83 rfl hM rfl (by omega) rfl (fun M43 hM43 => ?_)
            replace hM43 := rm_to (q' := (sA (sA (sA (sA (sA (sA (sA (sA (sA (sB (sB (sB (sB q 69 b69) 71 b71) 72 b72) 83 (vp_updL c83 (((16 : Int32) * (q.1 15)) + k).toInt.toNat ((0 : Int64) ||| v40))) 70 c70) 73 c73) 74 c74) 75 c75) 76 c76) 77 (upd (q.2.2.1 77) (q.1 15).toInt.toNat (vp_nar .boolean x))) 78 c78) 79 c79) 80 c80)) hM43 (show sB (sA (sA (sA (sA (sA (sA (sA (sA (sA (sB (sB (sB (sB q 69 b69) 71 b71) 72 b72) 83 c83) 70 c70) 73 c73) 74 c74) 75 c75) 76 c76) 77 (upd (q.2.2.1 77) (q.1 15).toInt.toNat (vp_nar .boolean x))) 78 c78) 79 c79) 80 c80) 83 (vp_updL c83 (((16 : Int32) * (q.1 15)) + k).toInt.toNat ((0 : Int64) ||| v40)) = (sA (sA (sA (sA (sA (sA (sA (sA (sA (sB (sB (sB (sB q 69 b69) 71 b71) 72 b72) 83 (vp_updL c83 (((16 : Int32) * (q.1 15)) + k).toInt.toNat ((0 : Int64) ||| v40))) 70 c70) 73 c73) 74 c74) 75 c75) 76 c76) 77 (upd (q.2.2.1 77) (q.1 15).toInt.toNat (vp_nar .boolean x))) 78 c78) 79 c79) 80 c80) from (congrArg (fun z => (sA (sA (sA (sA (sA (sA (sA (sA (sA z 70 c70) 73 c73) 74 c74) 75 c75) 76 c76) 77 (upd (q.2.2.1 77) (q.1 15).toInt.toNat (vp_nar .boolean x))) 78 c78) 79 c79) 80 c80)) (show sB (sB (sB (sB (sB q 69 b69) 71 b71) 72 b72) 83 c83) 83 (vp_updL c83 (((16 : Int32) * (q.1 15)) + k).toInt.toNat ((0 : Int64) ||| v40)) = (sB (sB (sB (sB q 69 b69) 71 b71) 72 b72) 83 (vp_updL c83 (((16 : Int32) * (q.1 15)) + k).toInt.toNat ((0 : Int64) ||| v40))) from sB_sB)))
            have e44 : (k + 1).toInt = k.toInt + 1 := by have w := i_addc (x := k) (y := 1) 1 rfl (by omega) (by omega); omega
            refine hs (f := dm_iinc 330 5 1) (lv' := [(5, .int (k + 1)), (4, .int (q.1 15)), (0, .ref 68), (1, .int kd), (2, .int a), (3, .int b)]) rfl rfl ?_
            refine hs (f := dm_goto 264) rfl rfl ?_
            exact (IH _ (by omega)) x (k + 1) (vp_updL c83 (((16 : Int32) * (q.1 15)) + k).toInt.toNat ((0 : Int64) ||| v40)) _ hM43 (by omega) rfl
          · skip
            have h37 : b.toInt = (-1) := h37
            refine hs (f := dm_push 310 (.long 0)) rfl rfl ?_
            refine hs (f := dm_goto 325) rfl rfl ?_
            refine hs (f := dm_ll 326 (fun x y => x ||| y)) (st' := [.long ((0 : Int64) ||| (0 : Int64)), .int (((16 : Int32) * (q.1 15)) + k), .ref 83]) rfl rfl ?_
            refine r_last (L := 16000) (i := (((16 : Int32) * (q.1 15)) + k)) (x := ((0 : Int64) ||| (0 : Int64))) c83 rfl hM rfl (by omega) rfl (fun M45 hM45 => ?_)
            replace hM45 := rm_to (q' := (sA (sA (sA (sA (sA (sA (sA (sA (sA (sB (sB (sB (sB q 69 b69) 71 b71) 72 b72) 83 (vp_updL c83 (((16 : Int32) * (q.1 15)) + k).toInt.toNat ((0 : Int64) ||| (0 : Int64)))) 70 c70) 73 c73) 74 c74) 75 c75) 76 c76) 77 (upd (q.2.2.1 77) (q.1 15).toInt.toNat (vp_nar .boolean x))) 78 c78) 79 c79) 80 c80)) hM45 (show sB (sA (sA (sA (sA (sA (sA (sA (sA (sA (sB (sB (sB (sB q 69 b69) 71 b71) 72 b72) 83 c83) 70 c70) 73 c73) 74 c74) 75 c75) 76 c76) 77 (upd (q.2.2.1 77) (q.1 15).toInt.toNat (vp_nar .boolean x))) 78 c78) 79 c79) 80 c80) 83 (vp_updL c83 (((16 : Int32) * (q.1 15)) + k).toInt.toNat ((0 : Int64) ||| (0 : Int64))) = (sA (sA (sA (sA (sA (sA (sA (sA (sA (sB (sB (sB (sB q 69 b69) 71 b71) 72 b72) 83 (vp_updL c83 (((16 : Int32) * (q.1 15)) + k).toInt.toNat ((0 : Int64) ||| (0 : Int64)))) 70 c70) 73 c73) 74 c74) 75 c75) 76 c76) 77 (upd (q.2.2.1 77) (q.1 15).toInt.toNat (vp_nar .boolean x))) 78 c78) 79 c79) 80 c80) from (congrArg (fun z => (sA (sA (sA (sA (sA (sA (sA (sA (sA z 70 c70) 73 c73) 74 c74) 75 c75) 76 c76) 77 (upd (q.2.2.1 77) (q.1 15).toInt.toNat (vp_nar .boolean x))) 78 c78) 79 c79) 80 c80)) (show sB (sB (sB (sB (sB q 69 b69) 71 b71) 72 b72) 83 c83) 83 (vp_updL c83 (((16 : Int32) * (q.1 15)) + k).toInt.toNat ((0 : Int64) ||| (0 : Int64))) = (sB (sB (sB (sB q 69 b69) 71 b71) 72 b72) 83 (vp_updL c83 (((16 : Int32) * (q.1 15)) + k).toInt.toNat ((0 : Int64) ||| (0 : Int64)))) from sB_sB)))
            have e46 : (k + 1).toInt = k.toInt + 1 := by have w := i_addc (x := k) (y := 1) 1 rfl (by omega) (by omega); omega
            refine hs (f := dm_iinc 330 5 1) (lv' := [(5, .int (k + 1)), (4, .int (q.1 15)), (0, .ref 68), (1, .int kd), (2, .int a), (3, .int b)]) rfl rfl ?_
            refine hs (f := dm_goto 264) rfl rfl ?_
            exact (IH _ (by omega)) x (k + 1) (vp_updL c83 (((16 : Int32) * (q.1 15)) + k).toInt.toNat ((0 : Int64) ||| (0 : Int64))) _ hM45 (by omega) rfl
  have j260 : ∀ (x : Int32) (M : dm_Mem), Rm X (sA (sA (sA (sA (sA (sA (sA (sA (sB (sB (sB q 69 b69) 71 b71) 72 b72) 70 c70) 73 c73) 74 c74) 75 c75) 76 c76) 78 c78) 79 c79) 80 c80) M → hG 63 cd_140 260 [(5, .int k), (4, .int (q.1 15)), (0, .ref 68), (1, .int kd), (2, .int a), (3, .int b)] [.int x, .int (q.1 15), .ref 77] M (fun r M' => r = some (.int (q.1 15)) ∧ ∃ (c83 : Nat → Int64) (c77 c81 c82 : Nat → Int32) (m2 nd : Int32), (rA c81 ((q.1 15).toInt) = SN (q.2.2.2 96) (q.2.2.2 97) (q.1 34).toInt 60 0 ∧ ∀ m : Int, 0 ≤ m → m ≠ (q.1 15).toInt → rA c81 m = rA (q.2.2.1 81) m) ∧ (rA c82 ((q.1 15).toInt) = HN (q.2.2.2 92) (q.1 29).toInt 60 0 ∧ ∀ m : Int, 0 ≤ m → m ≠ (q.1 15).toInt → rA c82 m = rA (q.2.2.1 82) m) ∧ m2.toInt = (q.1 15).toInt + 1 ∧ nd.toInt = (q.1 17).toInt + SN (q.2.2.2 96) (q.2.2.2 97) (q.1 34).toInt 60 0 + HN (q.2.2.2 92) (q.1 29).toInt 60 0 ∧ Rm X (sA (sA (sA (sA (sA (sA (sA (sA (sA (sA (sA (sB (sB (sB (sB (sF (sF q 15 m2) 17 nd) 69 b69) 71 b71) 72 b72) 83 c83) 70 c70) 73 c73) 74 c74) 75 c75) 76 c76) 77 c77) 78 c78) 79 c79) 80 c80) 81 c81) 82 c82) M') := by
    intro x M hM
    refine r_zast (L := 1000) (i := (q.1 15)) (x := x) (q.2.2.1 77) rfl hM rfl (by omega) rfl (fun M47 hM47 => ?_)
    replace hM47 := rm_to (q' := (sA (sA (sA (sA (sA (sA (sA (sA (sA (sB (sB (sB q 69 b69) 71 b71) 72 b72) 70 c70) 73 c73) 74 c74) 75 c75) 76 c76) 77 (upd (q.2.2.1 77) (q.1 15).toInt.toNat (vp_nar .boolean x))) 78 c78) 79 c79) 80 c80)) hM47 (show sA (sA (sA (sA (sA (sA (sA (sA (sA (sB (sB (sB q 69 b69) 71 b71) 72 b72) 70 c70) 73 c73) 74 c74) 75 c75) 76 c76) 78 c78) 79 c79) 80 c80) 77 (upd (q.2.2.1 77) (q.1 15).toInt.toNat (vp_nar .boolean x)) = (sA (sA (sA (sA (sA (sA (sA (sA (sA (sB (sB (sB q 69 b69) 71 b71) 72 b72) 70 c70) 73 c73) 74 c74) 75 c75) 76 c76) 77 (upd (q.2.2.1 77) (q.1 15).toInt.toNat (vp_nar .boolean x))) 78 c78) 79 c79) 80 c80) from (show sA (sA (sA (sA (sA (sA (sA (sA (sA (sB (sB (sB q 69 b69) 71 b71) 72 b72) 70 c70) 73 c73) 74 c74) 75 c75) 76 c76) 78 c78) 79 c79) 80 c80) 77 (upd (q.2.2.1 77) (q.1 15).toInt.toNat (vp_nar .boolean x)) = (sA (sA (sA (sA (sA (sA (sA (sA (sA (sB (sB (sB q 69 b69) 71 b71) 72 b72) 70 c70) 73 c73) 74 c74) 75 c75) 76 c76) 77 (upd (q.2.2.1 77) (q.1 15).toInt.toNat (vp_nar .boolean x))) 78 c78) 79 c79) 80 c80) from Eq.trans (show sA (sA (sA (sA (sA (sA (sA (sA (sA (sB (sB (sB q 69 b69) 71 b71) 72 b72) 70 c70) 73 c73) 74 c74) 75 c75) 76 c76) 78 c78) 79 c79) 80 c80) 77 (upd (q.2.2.1 77) (q.1 15).toInt.toNat (vp_nar .boolean x)) = sA (sA (sA (sA (sA (sA (sA (sA (sA (sB (sB (sB q 69 b69) 71 b71) 72 b72) 70 c70) 73 c73) 74 c74) 75 c75) 76 c76) 78 c78) 79 c79) 77 (upd (q.2.2.1 77) (q.1 15).toInt.toNat (vp_nar .boolean x))) 80 c80 from sA_cm (by decide)) (congrArg (fun z => sA z 80 c80) (show sA (sA (sA (sA (sA (sA (sA (sA (sB (sB (sB q 69 b69) 71 b71) 72 b72) 70 c70) 73 c73) 74 c74) 75 c75) 76 c76) 78 c78) 79 c79) 77 (upd (q.2.2.1 77) (q.1 15).toInt.toNat (vp_nar .boolean x)) = (sA (sA (sA (sA (sA (sA (sA (sA (sB (sB (sB q 69 b69) 71 b71) 72 b72) 70 c70) 73 c73) 74 c74) 75 c75) 76 c76) 77 (upd (q.2.2.1 77) (q.1 15).toInt.toNat (vp_nar .boolean x))) 78 c78) 79 c79) from Eq.trans (show sA (sA (sA (sA (sA (sA (sA (sA (sB (sB (sB q 69 b69) 71 b71) 72 b72) 70 c70) 73 c73) 74 c74) 75 c75) 76 c76) 78 c78) 79 c79) 77 (upd (q.2.2.1 77) (q.1 15).toInt.toNat (vp_nar .boolean x)) = sA (sA (sA (sA (sA (sA (sA (sA (sB (sB (sB q 69 b69) 71 b71) 72 b72) 70 c70) 73 c73) 74 c74) 75 c75) 76 c76) 78 c78) 77 (upd (q.2.2.1 77) (q.1 15).toInt.toNat (vp_nar .boolean x))) 79 c79 from sA_cm (by decide)) (congrArg (fun z => sA z 79 c79) (show sA (sA (sA (sA (sA (sA (sA (sB (sB (sB q 69 b69) 71 b71) 72 b72) 70 c70) 73 c73) 74 c74) 75 c75) 76 c76) 78 c78) 77 (upd (q.2.2.1 77) (q.1 15).toInt.toNat (vp_nar .boolean x)) = (sA (sA (sA (sA (sA (sA (sA (sB (sB (sB q 69 b69) 71 b71) 72 b72) 70 c70) 73 c73) 74 c74) 75 c75) 76 c76) 77 (upd (q.2.2.1 77) (q.1 15).toInt.toNat (vp_nar .boolean x))) 78 c78) from Eq.trans (show sA (sA (sA (sA (sA (sA (sA (sB (sB (sB q 69 b69) 71 b71) 72 b72) 70 c70) 73 c73) 74 c74) 75 c75) 76 c76) 78 c78) 77 (upd (q.2.2.1 77) (q.1 15).toInt.toNat (vp_nar .boolean x)) = sA (sA (sA (sA (sA (sA (sA (sB (sB (sB q 69 b69) 71 b71) 72 b72) 70 c70) 73 c73) 74 c74) 75 c75) 76 c76) 77 (upd (q.2.2.1 77) (q.1 15).toInt.toNat (vp_nar .boolean x))) 78 c78 from sA_cm (by decide)) (congrArg (fun z => sA z 78 c78) (show sA (sA (sA (sA (sA (sA (sB (sB (sB q 69 b69) 71 b71) 72 b72) 70 c70) 73 c73) 74 c74) 75 c75) 76 c76) 77 (upd (q.2.2.1 77) (q.1 15).toInt.toNat (vp_nar .boolean x)) = (sA (sA (sA (sA (sA (sA (sB (sB (sB q 69 b69) 71 b71) 72 b72) 70 c70) 73 c73) 74 c74) 75 c75) 76 c76) 77 (upd (q.2.2.1 77) (q.1 15).toInt.toNat (vp_nar .boolean x))) from rfl))))))))
    refine hs (f := dm_push 262 (.int 0)) rfl rfl ?_
    refine hs (f := dm_ist 264 5) (lv' := [(5, .int 0), (4, .int (q.1 15)), (0, .ref 68), (1, .int kd), (2, .int a), (3, .int b)]) rfl rfl ?_
    replace hM47 := rm_to (q' := (sA (sA (sA (sA (sA (sA (sA (sA (sA (sB (sB (sB (sB q 69 b69) 71 b71) 72 b72) 83 (q.2.2.2 83)) 70 c70) 73 c73) 74 c74) 75 c75) 76 c76) 77 (upd (q.2.2.1 77) (q.1 15).toInt.toNat (vp_nar .boolean x))) 78 c78) 79 c79) 80 c80)) hM47 (Eq.trans (sB_id (q := (sA (sA (sA (sA (sA (sA (sA (sA (sA (sB (sB (sB q 69 b69) 71 b71) 72 b72) 70 c70) 73 c73) 74 c74) 75 c75) 76 c76) 77 (upd (q.2.2.1 77) (q.1 15).toInt.toNat (vp_nar .boolean x))) 78 c78) 79 c79) 80 c80)) (k := 83) (v := (q.2.2.2 83)) rfl) (show sB (sA (sA (sA (sA (sA (sA (sA (sA (sA (sB (sB (sB q 69 b69) 71 b71) 72 b72) 70 c70) 73 c73) 74 c74) 75 c75) 76 c76) 77 (upd (q.2.2.1 77) (q.1 15).toInt.toNat (vp_nar .boolean x))) 78 c78) 79 c79) 80 c80) 83 (q.2.2.2 83) = (sA (sA (sA (sA (sA (sA (sA (sA (sA (sB (sB (sB (sB q 69 b69) 71 b71) 72 b72) 83 (q.2.2.2 83)) 70 c70) 73 c73) 74 c74) 75 c75) 76 c76) 77 (upd (q.2.2.1 77) (q.1 15).toInt.toNat (vp_nar .boolean x))) 78 c78) 79 c79) 80 c80) from (congrArg (fun z => (sA (sA (sA (sA (sA (sA (sA (sA (sA z 70 c70) 73 c73) 74 c74) 75 c75) 76 c76) 77 (upd (q.2.2.1 77) (q.1 15).toInt.toNat (vp_nar .boolean x))) 78 c78) 79 c79) 80 c80)) (show sB (sB (sB (sB q 69 b69) 71 b71) 72 b72) 83 (q.2.2.2 83) = (sB (sB (sB (sB q 69 b69) 71 b71) 72 b72) 83 (q.2.2.2 83)) from rfl))))
    exact (j264 _) x 0 (q.2.2.2 83) _ hM47 (by decide) rfl
  refine hs (f := dm_ald 216 0) rfl rfl ?_
  refine r_geta (c := 74) rfl hM rfl ?_
  refine hs (f := dm_ild 221 4) rfl rfl ?_
  refine hs (f := dm_ild 222 1) rfl rfl ?_
  refine hs (f := dm_push 224 (.int 6)) rfl rfl ?_
  refine g_ic_eq (n := 227) (tt := 255) rfl (fun h48 => ?_) (fun h48 => ?_)
  · skip
    have h48 : kd.toInt = 6 := h48
    refine hs (f := dm_push 256 (.int 1)) rfl rfl ?_
    refine hs (f := dm_goto 260) rfl rfl ?_
    exact j260 (1 : Int32) _ hM 
  · skip
    have h48 : ¬ kd.toInt = 6 := h48
    refine hs (f := dm_ild 228 2) rfl rfl ?_
    refine hs (f := dm_push 229 (.int (-1))) rfl rfl ?_
    refine g_ic_eq (n := 232) (tt := 241) rfl (fun h49 => ?_) (fun h49 => ?_)
    · skip
      have h49 : a.toInt = (-1) := h49
      refine hs (f := dm_ild 242 3) rfl rfl ?_
      refine hs (f := dm_push 243 (.int (-1))) rfl rfl ?_
      refine g_ic_eq (n := 246) (tt := 259) rfl (fun h50 => ?_) (fun h50 => ?_)
      · skip
        have h50 : b.toInt = (-1) := h50
        refine hs (f := dm_push 260 (.int 0)) rfl rfl ?_
        exact j260 (0 : Int32) _ hM 
      · skip
        have h50 : ¬ b.toInt = (-1) := h50
        refine hs (f := dm_ald 247 0) rfl rfl ?_
        refine r_geta (c := 74) rfl hM rfl ?_
        refine hs (f := dm_ild 251 3) rfl rfl ?_
        refine r_zald (L := 1000) (i := b) ((q.2.2.1 77) b.toInt.toNat) rfl hM rfl (by omega) rfl ?_
        refine g_if_eq (n := 255) (tt := 259) rfl (fun h51 => ?_) (fun h51 => ?_)
        · skip
          have h51 : ((q.2.2.1 77) b.toInt.toNat).toInt = 0 := h51
          refine hs (f := dm_push 260 (.int 0)) rfl rfl ?_
          exact j260 (0 : Int32) _ hM 
        · skip
          have h51 : ¬ ((q.2.2.1 77) b.toInt.toNat).toInt = 0 := h51
          refine hs (f := dm_push 256 (.int 1)) rfl rfl ?_
          refine hs (f := dm_goto 260) rfl rfl ?_
          exact j260 (1 : Int32) _ hM 
    · skip
      have h49 : ¬ a.toInt = (-1) := h49
      refine hs (f := dm_ald 233 0) rfl rfl ?_
      refine r_geta (c := 74) rfl hM rfl ?_
      refine hs (f := dm_ild 237 2) rfl rfl ?_
      refine r_zald (L := 1000) (i := a) ((q.2.2.1 77) a.toInt.toNat) rfl hM rfl (by omega) rfl ?_
      refine g_if_ne (n := 241) (tt := 255) rfl (fun h52 => ?_) (fun h52 => ?_)
      · skip
        have h52 : ¬ ((q.2.2.1 77) a.toInt.toNat).toInt = 0 := h52
        refine hs (f := dm_push 256 (.int 1)) rfl rfl ?_
        refine hs (f := dm_goto 260) rfl rfl ?_
        exact j260 (1 : Int32) _ hM 
      · skip
        have h52 : ((q.2.2.1 77) a.toInt.toNat).toInt = 0 := h52
        refine hs (f := dm_ild 242 3) rfl rfl ?_
        refine hs (f := dm_push 243 (.int (-1))) rfl rfl ?_
        refine g_ic_eq (n := 246) (tt := 259) rfl (fun h53 => ?_) (fun h53 => ?_)
        · skip
          have h53 : b.toInt = (-1) := h53
          refine hs (f := dm_push 260 (.int 0)) rfl rfl ?_
          exact j260 (0 : Int32) _ hM 
        · skip
          have h53 : ¬ b.toInt = (-1) := h53
          refine hs (f := dm_ald 247 0) rfl rfl ?_
          refine r_geta (c := 74) rfl hM rfl ?_
          refine hs (f := dm_ild 251 3) rfl rfl ?_
          refine r_zald (L := 1000) (i := b) ((q.2.2.1 77) b.toInt.toNat) rfl hM rfl (by omega) rfl ?_
          refine g_if_eq (n := 255) (tt := 259) rfl (fun h54 => ?_) (fun h54 => ?_)
          · skip
            have h54 : ((q.2.2.1 77) b.toInt.toNat).toInt = 0 := h54
            refine hs (f := dm_push 260 (.int 0)) rfl rfl ?_
            exact j260 (0 : Int32) _ hM 
          · skip
            have h54 : ¬ ((q.2.2.1 77) b.toInt.toNat).toInt = 0 := h54
            refine hs (f := dm_push 256 (.int 1)) rfl rfl ?_
            refine hs (f := dm_goto 260) rfl rfl ?_
            exact j260 (1 : Int32) _ hM 
set_option maxHeartbeats 8000000 in
theorem r_140 {X : dm_Mem} {q : rS} {M : dm_Mem} (hM : Rm X q M) (kd a b : Int32) (ha : -1 ≤ a.toInt ∧ a.toInt < 1000) (hb : -1 ≤ b.toInt ∧ b.toInt < 1000) (hm : 0 ≤ (q.1 15).toInt ∧ (q.1 15).toInt < 1000) (hsf : 0 ≤ rA (q.2.2.1 73) (q.1 15).toInt ∧ rA (q.2.2.1 73) (q.1 15).toInt + (q.1 29).toInt ≤ 24000) (hpf : 0 ≤ rA (q.2.2.1 74) (q.1 15).toInt ∧ rA (q.2.2.1 74) (q.1 15).toInt + (q.1 34).toInt ≤ 24000) (hS : wS (q.2.2.2 92) (q.1 29).toInt) (ho : 0 ≤ (q.1 34).toInt ∧ (q.1 34).toInt ≤ 24000) (hSN : SN (q.2.2.2 96) (q.2.2.2 97) (q.1 34).toInt 60 0 ≤ 10000000) (hHN : HN (q.2.2.2 92) (q.1 29).toInt 60 0 ≤ 10000000) (hnd : 0 ≤ (q.1 17).toInt ∧ (q.1 17).toInt ≤ 100000) : hT 64 140 [.ref 68, .int kd, .int a, .int b] M (fun r M' => r = some (.int (q.1 15)) ∧ ∃ (b69 b71 b72 c83 : Nat → Int64) (c70 c73 c74 c75 c76 c77 c78 c79 c80 c81 c82 : Nat → Int32) (m2 nd : Int32), cpy b69 (q.2.2.2 92) (q.2.2.2 69) (rA (q.2.2.1 73) (q.1 15).toInt) (q.1 29).toInt ∧ cpy b71 (q.2.2.2 96) (q.2.2.2 71) (rA (q.2.2.1 74) (q.1 15).toInt) (q.1 34).toInt ∧ cpy b72 (q.2.2.2 97) (q.2.2.2 72) (rA (q.2.2.1 74) (q.1 15).toInt) (q.1 34).toInt ∧ (rA c73 ((q.1 15).toInt + 1) = rA (q.2.2.1 73) (q.1 15).toInt + (q.1 29).toInt ∧ ∀ m : Int, 0 ≤ m → m ≠ (q.1 15).toInt + 1 → rA c73 m = rA (q.2.2.1 73) m) ∧ (rA c74 ((q.1 15).toInt + 1) = rA (q.2.2.1 74) (q.1 15).toInt + (q.1 34).toInt ∧ ∀ m : Int, 0 ≤ m → m ≠ (q.1 15).toInt + 1 → rA c74 m = rA (q.2.2.1 74) m) ∧ (rA c81 ((q.1 15).toInt) = SN (q.2.2.2 96) (q.2.2.2 97) (q.1 34).toInt 60 0 ∧ ∀ m : Int, 0 ≤ m → m ≠ (q.1 15).toInt → rA c81 m = rA (q.2.2.1 81) m) ∧ (rA c82 ((q.1 15).toInt) = HN (q.2.2.2 92) (q.1 29).toInt 60 0 ∧ ∀ m : Int, 0 ≤ m → m ≠ (q.1 15).toInt → rA c82 m = rA (q.2.2.1 82) m) ∧ m2.toInt = (q.1 15).toInt + 1 ∧ nd.toInt = (q.1 17).toInt + SN (q.2.2.2 96) (q.2.2.2 97) (q.1 34).toInt 60 0 + HN (q.2.2.2 92) (q.1 29).toInt 60 0 ∧ Rm X (sA (sA (sA (sA (sA (sA (sA (sA (sA (sA (sA (sB (sB (sB (sB (sF (sF q 15 m2) 17 nd) 69 b69) 71 b71) 72 b72) 83 c83) 70 c70) 73 c73) 74 c74) 75 c75) 76 c76) 77 c77) 78 c78) 79 c79) 80 c80) 81 c81) 82 c82) M') := by
  have hn0 := hS.1
  have j9 : ∀ (nn : Nat), ∀ (k : Int32) (b69 : Nat → Int64) (b70 : Nat → Int32) (M : dm_Mem), Rm X (sA (sB q 69 b69) 70 b70) M → (0 ≤ k.toInt) → (k.toInt ≤ (q.1 29).toInt) → (cpy b69 (q.2.2.2 92) (q.2.2.2 69) (rA (q.2.2.1 73) (q.1 15).toInt) k.toInt) → ((q.1 29).toInt - k.toInt).toNat = nn → hG 63 cd_140 9 [(5, .int k), (4, .int (q.1 15)), (0, .ref 68), (1, .int kd), (2, .int a), (3, .int b)] [] M (fun r M' => r = some (.int (q.1 15)) ∧ ∃ (b69 b71 b72 c83 : Nat → Int64) (c70 c73 c74 c75 c76 c77 c78 c79 c80 c81 c82 : Nat → Int32) (m2 nd : Int32), cpy b69 (q.2.2.2 92) (q.2.2.2 69) (rA (q.2.2.1 73) (q.1 15).toInt) (q.1 29).toInt ∧ cpy b71 (q.2.2.2 96) (q.2.2.2 71) (rA (q.2.2.1 74) (q.1 15).toInt) (q.1 34).toInt ∧ cpy b72 (q.2.2.2 97) (q.2.2.2 72) (rA (q.2.2.1 74) (q.1 15).toInt) (q.1 34).toInt ∧ (rA c73 ((q.1 15).toInt + 1) = rA (q.2.2.1 73) (q.1 15).toInt + (q.1 29).toInt ∧ ∀ m : Int, 0 ≤ m → m ≠ (q.1 15).toInt + 1 → rA c73 m = rA (q.2.2.1 73) m) ∧ (rA c74 ((q.1 15).toInt + 1) = rA (q.2.2.1 74) (q.1 15).toInt + (q.1 34).toInt ∧ ∀ m : Int, 0 ≤ m → m ≠ (q.1 15).toInt + 1 → rA c74 m = rA (q.2.2.1 74) m) ∧ (rA c81 ((q.1 15).toInt) = SN (q.2.2.2 96) (q.2.2.2 97) (q.1 34).toInt 60 0 ∧ ∀ m : Int, 0 ≤ m → m ≠ (q.1 15).toInt → rA c81 m = rA (q.2.2.1 81) m) ∧ (rA c82 ((q.1 15).toInt) = HN (q.2.2.2 92) (q.1 29).toInt 60 0 ∧ ∀ m : Int, 0 ≤ m → m ≠ (q.1 15).toInt → rA c82 m = rA (q.2.2.1 82) m) ∧ m2.toInt = (q.1 15).toInt + 1 ∧ nd.toInt = (q.1 17).toInt + SN (q.2.2.2 96) (q.2.2.2 97) (q.1 34).toInt 60 0 + HN (q.2.2.2 92) (q.1 29).toInt 60 0 ∧ Rm X (sA (sA (sA (sA (sA (sA (sA (sA (sA (sA (sA (sB (sB (sB (sB (sF (sF q 15 m2) 17 nd) 69 b69) 71 b71) 72 b72) 83 c83) 70 c70) 73 c73) 74 c74) 75 c75) 76 c76) 77 c77) 78 c78) 79 c79) 80 c80) 81 c81) 82 c82) M') := by
    intro nn
    induction nn using Nat.strongRecOn with
    | ind nn IH =>
      intro k b69 b70 M hM k0 k1 hc hms
      refine hs (f := dm_ild 11 5) rfl rfl ?_
      refine hs (f := dm_ald 12 0) rfl rfl ?_
      refine r_geti (q.1 29) rfl hM rfl rfl ?_
      refine g_ic_ge (n := 18) (tt := 68) rfl (fun h1 => ?_) (fun h1 => ?_)
      · skip
        have h1 : k.toInt ≥ (q.1 29).toInt := h1
        have hc69 : cpy b69 (q.2.2.2 92) (q.2.2.2 69) (rA (q.2.2.1 73) (q.1 15).toInt) (q.1 29).toInt := by rw [show (q.1 29).toInt = k.toInt by omega]; exact hc
        have j71 : ∀ (nn : Nat), ∀ (k : Int32) (b71 b72 : Nat → Int64) (M : dm_Mem), Rm X (sA (sB (sB (sB q 69 b69) 71 b71) 72 b72) 70 b70) M → (0 ≤ k.toInt) → (k.toInt ≤ (q.1 34).toInt) → (cpy b71 (q.2.2.2 96) (q.2.2.2 71) (rA (q.2.2.1 74) (q.1 15).toInt) k.toInt) → (cpy b72 (q.2.2.2 97) (q.2.2.2 72) (rA (q.2.2.1 74) (q.1 15).toInt) k.toInt) → ((q.1 34).toInt - k.toInt).toNat = nn → hG 63 cd_140 71 [(5, .int k), (4, .int (q.1 15)), (0, .ref 68), (1, .int kd), (2, .int a), (3, .int b)] [] M (fun r M' => r = some (.int (q.1 15)) ∧ ∃ (b69 b71 b72 c83 : Nat → Int64) (c70 c73 c74 c75 c76 c77 c78 c79 c80 c81 c82 : Nat → Int32) (m2 nd : Int32), cpy b69 (q.2.2.2 92) (q.2.2.2 69) (rA (q.2.2.1 73) (q.1 15).toInt) (q.1 29).toInt ∧ cpy b71 (q.2.2.2 96) (q.2.2.2 71) (rA (q.2.2.1 74) (q.1 15).toInt) (q.1 34).toInt ∧ cpy b72 (q.2.2.2 97) (q.2.2.2 72) (rA (q.2.2.1 74) (q.1 15).toInt) (q.1 34).toInt ∧ (rA c73 ((q.1 15).toInt + 1) = rA (q.2.2.1 73) (q.1 15).toInt + (q.1 29).toInt ∧ ∀ m : Int, 0 ≤ m → m ≠ (q.1 15).toInt + 1 → rA c73 m = rA (q.2.2.1 73) m) ∧ (rA c74 ((q.1 15).toInt + 1) = rA (q.2.2.1 74) (q.1 15).toInt + (q.1 34).toInt ∧ ∀ m : Int, 0 ≤ m → m ≠ (q.1 15).toInt + 1 → rA c74 m = rA (q.2.2.1 74) m) ∧ (rA c81 ((q.1 15).toInt) = SN (q.2.2.2 96) (q.2.2.2 97) (q.1 34).toInt 60 0 ∧ ∀ m : Int, 0 ≤ m → m ≠ (q.1 15).toInt → rA c81 m = rA (q.2.2.1 81) m) ∧ (rA c82 ((q.1 15).toInt) = HN (q.2.2.2 92) (q.1 29).toInt 60 0 ∧ ∀ m : Int, 0 ≤ m → m ≠ (q.1 15).toInt → rA c82 m = rA (q.2.2.1 82) m) ∧ m2.toInt = (q.1 15).toInt + 1 ∧ nd.toInt = (q.1 17).toInt + SN (q.2.2.2 96) (q.2.2.2 97) (q.1 34).toInt 60 0 + HN (q.2.2.2 92) (q.1 29).toInt 60 0 ∧ Rm X (sA (sA (sA (sA (sA (sA (sA (sA (sA (sA (sA (sB (sB (sB (sB (sF (sF q 15 m2) 17 nd) 69 b69) 71 b71) 72 b72) 83 c83) 70 c70) 73 c73) 74 c74) 75 c75) 76 c76) 77 c77) 78 c78) 79 c79) 80 c80) 81 c81) 82 c82) M') := by
          intro nn
          induction nn using Nat.strongRecOn with
          | ind nn IH =>
            intro k b71 b72 M hM k0 k1 hc1 hc2 hms
            refine hs (f := dm_ild 73 5) rfl rfl ?_
            refine hs (f := dm_ald 74 0) rfl rfl ?_
            refine r_geti (q.1 34) rfl hM rfl rfl ?_
            refine g_ic_ge (n := 80) (tt := 130) rfl (fun h2 => ?_) (fun h2 => ?_)
            · skip
              have h2 : k.toInt ≥ (q.1 34).toInt := h2
              have hc71 : cpy b71 (q.2.2.2 96) (q.2.2.2 71) (rA (q.2.2.1 74) (q.1 15).toInt) (q.1 34).toInt := by rw [show (q.1 34).toInt = k.toInt by omega]; exact hc1
              have hc72 : cpy b72 (q.2.2.2 97) (q.2.2.2 72) (rA (q.2.2.1 74) (q.1 15).toInt) (q.1 34).toInt := by rw [show (q.1 34).toInt = k.toInt by omega]; exact hc2
              refine hs (f := dm_ald 131 0) rfl rfl ?_
              refine r_geta (c := 70) rfl hM rfl ?_
              refine hs (f := dm_ild 136 4) rfl rfl ?_
              refine hs (f := dm_push 137 (.int 1)) rfl rfl ?_
              have e3 : ((q.1 15) + (1 : Int32)).toInt = (q.1 15).toInt + 1 := by have w := i_addc (x := (q.1 15)) (y := (1 : Int32)) 1 rfl (by omega) (by omega); omega
              refine hs (f := dm_ii 138 (fun x y => x + y)) (st' := [.int ((q.1 15) + (1 : Int32)), .ref 73]) rfl rfl ?_
              refine hs (f := dm_ald 139 0) rfl rfl ?_
              refine r_geta (c := 70) rfl hM rfl ?_
              refine hs (f := dm_ild 144 4) rfl rfl ?_
              refine r_iald (L := 1001) (i := (q.1 15)) ((q.2.2.1 73) (q.1 15).toInt.toNat) rfl hM rfl (by omega) rfl ?_
              generalize g5 : (q.2.2.1 73) (q.1 15).toInt.toNat = v4
              have x6 : v4.toInt = rA (q.2.2.1 73) ((q.1 15).toInt) := rA_of (i := (q.1 15)) g5 rfl
              refine hs (f := dm_ald 146 0) rfl rfl ?_
              refine r_geti (q.1 29) rfl hM rfl rfl ?_
              have e7 : (v4 + (q.1 29)).toInt = rA (q.2.2.1 73) ((q.1 15).toInt) + (q.1 29).toInt := by have w := i_add (x := v4) (y := (q.1 29)) (by omega) (by omega); omega
              refine hs (f := dm_ii 150 (fun x y => x + y)) (st' := [.int (v4 + (q.1 29)), .int ((q.1 15) + (1 : Int32)), .ref 73]) rfl rfl ?_
              refine r_iast (L := 1001) (i := ((q.1 15) + (1 : Int32))) (x := (v4 + (q.1 29))) (q.2.2.1 73) rfl hM rfl (by omega) rfl (fun M8 hM8 => ?_)
              replace hM8 := rm_to (q' := (sA (sA (sB (sB (sB q 69 b69) 71 b71) 72 b72) 70 b70) 73 (upd (q.2.2.1 73) ((q.1 15) + (1 : Int32)).toInt.toNat (v4 + (q.1 29))))) hM8 (show sA (sA (sB (sB (sB q 69 b69) 71 b71) 72 b72) 70 b70) 73 (upd (q.2.2.1 73) ((q.1 15) + (1 : Int32)).toInt.toNat (v4 + (q.1 29))) = (sA (sA (sB (sB (sB q 69 b69) 71 b71) 72 b72) 70 b70) 73 (upd (q.2.2.1 73) ((q.1 15) + (1 : Int32)).toInt.toNat (v4 + (q.1 29)))) from (show sA (sA (sB (sB (sB q 69 b69) 71 b71) 72 b72) 70 b70) 73 (upd (q.2.2.1 73) ((q.1 15) + (1 : Int32)).toInt.toNat (v4 + (q.1 29))) = (sA (sA (sB (sB (sB q 69 b69) 71 b71) 72 b72) 70 b70) 73 (upd (q.2.2.1 73) ((q.1 15) + (1 : Int32)).toInt.toNat (v4 + (q.1 29)))) from rfl))
              refine hs (f := dm_ald 152 0) rfl rfl ?_
              refine r_geta (c := 71) rfl hM8 rfl ?_
              refine hs (f := dm_ild 157 4) rfl rfl ?_
              refine hs (f := dm_push 158 (.int 1)) rfl rfl ?_
              have e9 : ((q.1 15) + (1 : Int32)).toInt = (q.1 15).toInt + 1 := by have w := i_addc (x := (q.1 15)) (y := (1 : Int32)) 1 rfl (by omega) (by omega); omega
              refine hs (f := dm_ii 159 (fun x y => x + y)) (st' := [.int ((q.1 15) + (1 : Int32)), .ref 74]) rfl rfl ?_
              refine hs (f := dm_ald 160 0) rfl rfl ?_
              refine r_geta (c := 71) rfl hM8 rfl ?_
              refine hs (f := dm_ild 165 4) rfl rfl ?_
              refine r_iald (L := 1001) (i := (q.1 15)) ((q.2.2.1 74) (q.1 15).toInt.toNat) rfl hM8 rfl (by omega) rfl ?_
              generalize g11 : (q.2.2.1 74) (q.1 15).toInt.toNat = v10
              have x12 : v10.toInt = rA (q.2.2.1 74) ((q.1 15).toInt) := rA_of (i := (q.1 15)) g11 rfl
              refine hs (f := dm_ald 167 0) rfl rfl ?_
              refine r_geti (q.1 34) rfl hM8 rfl rfl ?_
              have e13 : (v10 + (q.1 34)).toInt = rA (q.2.2.1 74) ((q.1 15).toInt) + (q.1 34).toInt := by have w := i_add (x := v10) (y := (q.1 34)) (by omega) (by omega); omega
              refine hs (f := dm_ii 171 (fun x y => x + y)) (st' := [.int (v10 + (q.1 34)), .int ((q.1 15) + (1 : Int32)), .ref 74]) rfl rfl ?_
              refine r_iast (L := 1001) (i := ((q.1 15) + (1 : Int32))) (x := (v10 + (q.1 34))) (q.2.2.1 74) rfl hM8 rfl (by omega) rfl (fun M14 hM14 => ?_)
              replace hM14 := rm_to (q' := (sA (sA (sA (sB (sB (sB q 69 b69) 71 b71) 72 b72) 70 b70) 73 (upd (q.2.2.1 73) ((q.1 15) + (1 : Int32)).toInt.toNat (v4 + (q.1 29)))) 74 (upd (q.2.2.1 74) ((q.1 15) + (1 : Int32)).toInt.toNat (v10 + (q.1 34))))) hM14 (show sA (sA (sA (sB (sB (sB q 69 b69) 71 b71) 72 b72) 70 b70) 73 (upd (q.2.2.1 73) ((q.1 15) + (1 : Int32)).toInt.toNat (v4 + (q.1 29)))) 74 (upd (q.2.2.1 74) ((q.1 15) + (1 : Int32)).toInt.toNat (v10 + (q.1 34))) = (sA (sA (sA (sB (sB (sB q 69 b69) 71 b71) 72 b72) 70 b70) 73 (upd (q.2.2.1 73) ((q.1 15) + (1 : Int32)).toInt.toNat (v4 + (q.1 29)))) 74 (upd (q.2.2.1 74) ((q.1 15) + (1 : Int32)).toInt.toNat (v10 + (q.1 34)))) from (show sA (sA (sA (sB (sB (sB q 69 b69) 71 b71) 72 b72) 70 b70) 73 (upd (q.2.2.1 73) ((q.1 15) + (1 : Int32)).toInt.toNat (v4 + (q.1 29)))) 74 (upd (q.2.2.1 74) ((q.1 15) + (1 : Int32)).toInt.toNat (v10 + (q.1 34))) = (sA (sA (sA (sB (sB (sB q 69 b69) 71 b71) 72 b72) 70 b70) 73 (upd (q.2.2.1 73) ((q.1 15) + (1 : Int32)).toInt.toNat (v4 + (q.1 29)))) 74 (upd (q.2.2.1 74) ((q.1 15) + (1 : Int32)).toInt.toNat (v10 + (q.1 34)))) from rfl))
              refine hs (f := dm_ald 173 0) rfl rfl ?_
              refine r_geta (c := 72) rfl hM14 rfl ?_
              refine hs (f := dm_ild 178 4) rfl rfl ?_
              refine hs (f := dm_push 179 (.int 1)) rfl rfl ?_
              refine r_zast (L := 1000) (i := (q.1 15)) (x := (1 : Int32)) (q.2.2.1 75) rfl hM14 rfl (by omega) rfl (fun M15 hM15 => ?_)
              replace hM15 := rm_to (q' := (sA (sA (sA (sA (sB (sB (sB q 69 b69) 71 b71) 72 b72) 70 b70) 73 (upd (q.2.2.1 73) ((q.1 15) + (1 : Int32)).toInt.toNat (v4 + (q.1 29)))) 74 (upd (q.2.2.1 74) ((q.1 15) + (1 : Int32)).toInt.toNat (v10 + (q.1 34)))) 75 (upd (q.2.2.1 75) (q.1 15).toInt.toNat (vp_nar .boolean (1 : Int32))))) hM15 (show sA (sA (sA (sA (sB (sB (sB q 69 b69) 71 b71) 72 b72) 70 b70) 73 (upd (q.2.2.1 73) ((q.1 15) + (1 : Int32)).toInt.toNat (v4 + (q.1 29)))) 74 (upd (q.2.2.1 74) ((q.1 15) + (1 : Int32)).toInt.toNat (v10 + (q.1 34)))) 75 (upd (q.2.2.1 75) (q.1 15).toInt.toNat (vp_nar .boolean (1 : Int32))) = (sA (sA (sA (sA (sB (sB (sB q 69 b69) 71 b71) 72 b72) 70 b70) 73 (upd (q.2.2.1 73) ((q.1 15) + (1 : Int32)).toInt.toNat (v4 + (q.1 29)))) 74 (upd (q.2.2.1 74) ((q.1 15) + (1 : Int32)).toInt.toNat (v10 + (q.1 34)))) 75 (upd (q.2.2.1 75) (q.1 15).toInt.toNat (vp_nar .boolean (1 : Int32)))) from (show sA (sA (sA (sA (sB (sB (sB q 69 b69) 71 b71) 72 b72) 70 b70) 73 (upd (q.2.2.1 73) ((q.1 15) + (1 : Int32)).toInt.toNat (v4 + (q.1 29)))) 74 (upd (q.2.2.1 74) ((q.1 15) + (1 : Int32)).toInt.toNat (v10 + (q.1 34)))) 75 (upd (q.2.2.1 75) (q.1 15).toInt.toNat (vp_nar .boolean (1 : Int32))) = (sA (sA (sA (sA (sB (sB (sB q 69 b69) 71 b71) 72 b72) 70 b70) 73 (upd (q.2.2.1 73) ((q.1 15) + (1 : Int32)).toInt.toNat (v4 + (q.1 29)))) 74 (upd (q.2.2.1 74) ((q.1 15) + (1 : Int32)).toInt.toNat (v10 + (q.1 34)))) 75 (upd (q.2.2.1 75) (q.1 15).toInt.toNat (vp_nar .boolean (1 : Int32)))) from rfl))
              refine hs (f := dm_ald 181 0) rfl rfl ?_
              refine r_geta (c := 73) rfl hM15 rfl ?_
              refine hs (f := dm_ild 186 4) rfl rfl ?_
              refine hs (f := dm_push 187 (.int 0)) rfl rfl ?_
              refine r_zast (L := 1000) (i := (q.1 15)) (x := (0 : Int32)) (q.2.2.1 76) rfl hM15 rfl (by omega) rfl (fun M16 hM16 => ?_)
              replace hM16 := rm_to (q' := (sA (sA (sA (sA (sA (sB (sB (sB q 69 b69) 71 b71) 72 b72) 70 b70) 73 (upd (q.2.2.1 73) ((q.1 15) + (1 : Int32)).toInt.toNat (v4 + (q.1 29)))) 74 (upd (q.2.2.1 74) ((q.1 15) + (1 : Int32)).toInt.toNat (v10 + (q.1 34)))) 75 (upd (q.2.2.1 75) (q.1 15).toInt.toNat (vp_nar .boolean (1 : Int32)))) 76 (upd (q.2.2.1 76) (q.1 15).toInt.toNat (vp_nar .boolean (0 : Int32))))) hM16 (show sA (sA (sA (sA (sA (sB (sB (sB q 69 b69) 71 b71) 72 b72) 70 b70) 73 (upd (q.2.2.1 73) ((q.1 15) + (1 : Int32)).toInt.toNat (v4 + (q.1 29)))) 74 (upd (q.2.2.1 74) ((q.1 15) + (1 : Int32)).toInt.toNat (v10 + (q.1 34)))) 75 (upd (q.2.2.1 75) (q.1 15).toInt.toNat (vp_nar .boolean (1 : Int32)))) 76 (upd (q.2.2.1 76) (q.1 15).toInt.toNat (vp_nar .boolean (0 : Int32))) = (sA (sA (sA (sA (sA (sB (sB (sB q 69 b69) 71 b71) 72 b72) 70 b70) 73 (upd (q.2.2.1 73) ((q.1 15) + (1 : Int32)).toInt.toNat (v4 + (q.1 29)))) 74 (upd (q.2.2.1 74) ((q.1 15) + (1 : Int32)).toInt.toNat (v10 + (q.1 34)))) 75 (upd (q.2.2.1 75) (q.1 15).toInt.toNat (vp_nar .boolean (1 : Int32)))) 76 (upd (q.2.2.1 76) (q.1 15).toInt.toNat (vp_nar .boolean (0 : Int32)))) from (show sA (sA (sA (sA (sA (sB (sB (sB q 69 b69) 71 b71) 72 b72) 70 b70) 73 (upd (q.2.2.1 73) ((q.1 15) + (1 : Int32)).toInt.toNat (v4 + (q.1 29)))) 74 (upd (q.2.2.1 74) ((q.1 15) + (1 : Int32)).toInt.toNat (v10 + (q.1 34)))) 75 (upd (q.2.2.1 75) (q.1 15).toInt.toNat (vp_nar .boolean (1 : Int32)))) 76 (upd (q.2.2.1 76) (q.1 15).toInt.toNat (vp_nar .boolean (0 : Int32))) = (sA (sA (sA (sA (sA (sB (sB (sB q 69 b69) 71 b71) 72 b72) 70 b70) 73 (upd (q.2.2.1 73) ((q.1 15) + (1 : Int32)).toInt.toNat (v4 + (q.1 29)))) 74 (upd (q.2.2.1 74) ((q.1 15) + (1 : Int32)).toInt.toNat (v10 + (q.1 34)))) 75 (upd (q.2.2.1 75) (q.1 15).toInt.toNat (vp_nar .boolean (1 : Int32)))) 76 (upd (q.2.2.1 76) (q.1 15).toInt.toNat (vp_nar .boolean (0 : Int32)))) from rfl))
              refine hs (f := dm_ald 189 0) rfl rfl ?_
              refine r_geta (c := 75) rfl hM16 rfl ?_
              refine hs (f := dm_ild 194 4) rfl rfl ?_
              refine hs (f := dm_ild 195 1) rfl rfl ?_
              refine hs (f := dm_i1 196 (fun x => .int x.toInt8.toInt32)) (st' := [.int (kd.toInt8.toInt32), .int (q.1 15), .ref 78]) rfl rfl ?_
              refine r_yast (L := 1000) (i := (q.1 15)) (x := (kd.toInt8.toInt32)) (q.2.2.1 78) rfl hM16 rfl (by omega) rfl (fun M17 hM17 => ?_)
              replace hM17 := rm_to (q' := (sA (sA (sA (sA (sA (sA (sB (sB (sB q 69 b69) 71 b71) 72 b72) 70 b70) 73 (upd (q.2.2.1 73) ((q.1 15) + (1 : Int32)).toInt.toNat (v4 + (q.1 29)))) 74 (upd (q.2.2.1 74) ((q.1 15) + (1 : Int32)).toInt.toNat (v10 + (q.1 34)))) 75 (upd (q.2.2.1 75) (q.1 15).toInt.toNat (vp_nar .boolean (1 : Int32)))) 76 (upd (q.2.2.1 76) (q.1 15).toInt.toNat (vp_nar .boolean (0 : Int32)))) 78 (upd (q.2.2.1 78) (q.1 15).toInt.toNat (vp_nar .byte (kd.toInt8.toInt32))))) hM17 (show sA (sA (sA (sA (sA (sA (sB (sB (sB q 69 b69) 71 b71) 72 b72) 70 b70) 73 (upd (q.2.2.1 73) ((q.1 15) + (1 : Int32)).toInt.toNat (v4 + (q.1 29)))) 74 (upd (q.2.2.1 74) ((q.1 15) + (1 : Int32)).toInt.toNat (v10 + (q.1 34)))) 75 (upd (q.2.2.1 75) (q.1 15).toInt.toNat (vp_nar .boolean (1 : Int32)))) 76 (upd (q.2.2.1 76) (q.1 15).toInt.toNat (vp_nar .boolean (0 : Int32)))) 78 (upd (q.2.2.1 78) (q.1 15).toInt.toNat (vp_nar .byte (kd.toInt8.toInt32))) = (sA (sA (sA (sA (sA (sA (sB (sB (sB q 69 b69) 71 b71) 72 b72) 70 b70) 73 (upd (q.2.2.1 73) ((q.1 15) + (1 : Int32)).toInt.toNat (v4 + (q.1 29)))) 74 (upd (q.2.2.1 74) ((q.1 15) + (1 : Int32)).toInt.toNat (v10 + (q.1 34)))) 75 (upd (q.2.2.1 75) (q.1 15).toInt.toNat (vp_nar .boolean (1 : Int32)))) 76 (upd (q.2.2.1 76) (q.1 15).toInt.toNat (vp_nar .boolean (0 : Int32)))) 78 (upd (q.2.2.1 78) (q.1 15).toInt.toNat (vp_nar .byte (kd.toInt8.toInt32)))) from (show sA (sA (sA (sA (sA (sA (sB (sB (sB q 69 b69) 71 b71) 72 b72) 70 b70) 73 (upd (q.2.2.1 73) ((q.1 15) + (1 : Int32)).toInt.toNat (v4 + (q.1 29)))) 74 (upd (q.2.2.1 74) ((q.1 15) + (1 : Int32)).toInt.toNat (v10 + (q.1 34)))) 75 (upd (q.2.2.1 75) (q.1 15).toInt.toNat (vp_nar .boolean (1 : Int32)))) 76 (upd (q.2.2.1 76) (q.1 15).toInt.toNat (vp_nar .boolean (0 : Int32)))) 78 (upd (q.2.2.1 78) (q.1 15).toInt.toNat (vp_nar .byte (kd.toInt8.toInt32))) = (sA (sA (sA (sA (sA (sA (sB (sB (sB q 69 b69) 71 b71) 72 b72) 70 b70) 73 (upd (q.2.2.1 73) ((q.1 15) + (1 : Int32)).toInt.toNat (v4 + (q.1 29)))) 74 (upd (q.2.2.1 74) ((q.1 15) + (1 : Int32)).toInt.toNat (v10 + (q.1 34)))) 75 (upd (q.2.2.1 75) (q.1 15).toInt.toNat (vp_nar .boolean (1 : Int32)))) 76 (upd (q.2.2.1 76) (q.1 15).toInt.toNat (vp_nar .boolean (0 : Int32)))) 78 (upd (q.2.2.1 78) (q.1 15).toInt.toNat (vp_nar .byte (kd.toInt8.toInt32)))) from rfl))
              refine hs (f := dm_ald 198 0) rfl rfl ?_
              refine r_geta (c := 76) rfl hM17 rfl ?_
              refine hs (f := dm_ild 203 4) rfl rfl ?_
              refine hs (f := dm_ild 204 2) rfl rfl ?_
              refine hs (f := dm_i1 205 (fun x => .int x.toInt16.toInt32)) (st' := [.int (a.toInt16.toInt32), .int (q.1 15), .ref 79]) rfl rfl ?_
              refine r_sast (L := 1000) (i := (q.1 15)) (x := (a.toInt16.toInt32)) (q.2.2.1 79) rfl hM17 rfl (by omega) rfl (fun M18 hM18 => ?_)
              replace hM18 := rm_to (q' := (sA (sA (sA (sA (sA (sA (sA (sB (sB (sB q 69 b69) 71 b71) 72 b72) 70 b70) 73 (upd (q.2.2.1 73) ((q.1 15) + (1 : Int32)).toInt.toNat (v4 + (q.1 29)))) 74 (upd (q.2.2.1 74) ((q.1 15) + (1 : Int32)).toInt.toNat (v10 + (q.1 34)))) 75 (upd (q.2.2.1 75) (q.1 15).toInt.toNat (vp_nar .boolean (1 : Int32)))) 76 (upd (q.2.2.1 76) (q.1 15).toInt.toNat (vp_nar .boolean (0 : Int32)))) 78 (upd (q.2.2.1 78) (q.1 15).toInt.toNat (vp_nar .byte (kd.toInt8.toInt32)))) 79 (upd (q.2.2.1 79) (q.1 15).toInt.toNat (vp_nar .short (a.toInt16.toInt32))))) hM18 (show sA (sA (sA (sA (sA (sA (sA (sB (sB (sB q 69 b69) 71 b71) 72 b72) 70 b70) 73 (upd (q.2.2.1 73) ((q.1 15) + (1 : Int32)).toInt.toNat (v4 + (q.1 29)))) 74 (upd (q.2.2.1 74) ((q.1 15) + (1 : Int32)).toInt.toNat (v10 + (q.1 34)))) 75 (upd (q.2.2.1 75) (q.1 15).toInt.toNat (vp_nar .boolean (1 : Int32)))) 76 (upd (q.2.2.1 76) (q.1 15).toInt.toNat (vp_nar .boolean (0 : Int32)))) 78 (upd (q.2.2.1 78) (q.1 15).toInt.toNat (vp_nar .byte (kd.toInt8.toInt32)))) 79 (upd (q.2.2.1 79) (q.1 15).toInt.toNat (vp_nar .short (a.toInt16.toInt32))) = (sA (sA (sA (sA (sA (sA (sA (sB (sB (sB q 69 b69) 71 b71) 72 b72) 70 b70) 73 (upd (q.2.2.1 73) ((q.1 15) + (1 : Int32)).toInt.toNat (v4 + (q.1 29)))) 74 (upd (q.2.2.1 74) ((q.1 15) + (1 : Int32)).toInt.toNat (v10 + (q.1 34)))) 75 (upd (q.2.2.1 75) (q.1 15).toInt.toNat (vp_nar .boolean (1 : Int32)))) 76 (upd (q.2.2.1 76) (q.1 15).toInt.toNat (vp_nar .boolean (0 : Int32)))) 78 (upd (q.2.2.1 78) (q.1 15).toInt.toNat (vp_nar .byte (kd.toInt8.toInt32)))) 79 (upd (q.2.2.1 79) (q.1 15).toInt.toNat (vp_nar .short (a.toInt16.toInt32)))) from (show sA (sA (sA (sA (sA (sA (sA (sB (sB (sB q 69 b69) 71 b71) 72 b72) 70 b70) 73 (upd (q.2.2.1 73) ((q.1 15) + (1 : Int32)).toInt.toNat (v4 + (q.1 29)))) 74 (upd (q.2.2.1 74) ((q.1 15) + (1 : Int32)).toInt.toNat (v10 + (q.1 34)))) 75 (upd (q.2.2.1 75) (q.1 15).toInt.toNat (vp_nar .boolean (1 : Int32)))) 76 (upd (q.2.2.1 76) (q.1 15).toInt.toNat (vp_nar .boolean (0 : Int32)))) 78 (upd (q.2.2.1 78) (q.1 15).toInt.toNat (vp_nar .byte (kd.toInt8.toInt32)))) 79 (upd (q.2.2.1 79) (q.1 15).toInt.toNat (vp_nar .short (a.toInt16.toInt32))) = (sA (sA (sA (sA (sA (sA (sA (sB (sB (sB q 69 b69) 71 b71) 72 b72) 70 b70) 73 (upd (q.2.2.1 73) ((q.1 15) + (1 : Int32)).toInt.toNat (v4 + (q.1 29)))) 74 (upd (q.2.2.1 74) ((q.1 15) + (1 : Int32)).toInt.toNat (v10 + (q.1 34)))) 75 (upd (q.2.2.1 75) (q.1 15).toInt.toNat (vp_nar .boolean (1 : Int32)))) 76 (upd (q.2.2.1 76) (q.1 15).toInt.toNat (vp_nar .boolean (0 : Int32)))) 78 (upd (q.2.2.1 78) (q.1 15).toInt.toNat (vp_nar .byte (kd.toInt8.toInt32)))) 79 (upd (q.2.2.1 79) (q.1 15).toInt.toNat (vp_nar .short (a.toInt16.toInt32)))) from rfl))
              refine hs (f := dm_ald 207 0) rfl rfl ?_
              refine r_geta (c := 77) rfl hM18 rfl ?_
              refine hs (f := dm_ild 212 4) rfl rfl ?_
              refine hs (f := dm_ild 213 3) rfl rfl ?_
              refine hs (f := dm_i1 214 (fun x => .int x.toInt16.toInt32)) (st' := [.int (b.toInt16.toInt32), .int (q.1 15), .ref 80]) rfl rfl ?_
              refine r_sast (L := 1000) (i := (q.1 15)) (x := (b.toInt16.toInt32)) (q.2.2.1 80) rfl hM18 rfl (by omega) rfl (fun M19 hM19 => ?_)
              replace hM19 := rm_to (q' := (sA (sA (sA (sA (sA (sA (sA (sA (sB (sB (sB q 69 b69) 71 b71) 72 b72) 70 b70) 73 (upd (q.2.2.1 73) ((q.1 15) + (1 : Int32)).toInt.toNat (v4 + (q.1 29)))) 74 (upd (q.2.2.1 74) ((q.1 15) + (1 : Int32)).toInt.toNat (v10 + (q.1 34)))) 75 (upd (q.2.2.1 75) (q.1 15).toInt.toNat (vp_nar .boolean (1 : Int32)))) 76 (upd (q.2.2.1 76) (q.1 15).toInt.toNat (vp_nar .boolean (0 : Int32)))) 78 (upd (q.2.2.1 78) (q.1 15).toInt.toNat (vp_nar .byte (kd.toInt8.toInt32)))) 79 (upd (q.2.2.1 79) (q.1 15).toInt.toNat (vp_nar .short (a.toInt16.toInt32)))) 80 (upd (q.2.2.1 80) (q.1 15).toInt.toNat (vp_nar .short (b.toInt16.toInt32))))) hM19 (show sA (sA (sA (sA (sA (sA (sA (sA (sB (sB (sB q 69 b69) 71 b71) 72 b72) 70 b70) 73 (upd (q.2.2.1 73) ((q.1 15) + (1 : Int32)).toInt.toNat (v4 + (q.1 29)))) 74 (upd (q.2.2.1 74) ((q.1 15) + (1 : Int32)).toInt.toNat (v10 + (q.1 34)))) 75 (upd (q.2.2.1 75) (q.1 15).toInt.toNat (vp_nar .boolean (1 : Int32)))) 76 (upd (q.2.2.1 76) (q.1 15).toInt.toNat (vp_nar .boolean (0 : Int32)))) 78 (upd (q.2.2.1 78) (q.1 15).toInt.toNat (vp_nar .byte (kd.toInt8.toInt32)))) 79 (upd (q.2.2.1 79) (q.1 15).toInt.toNat (vp_nar .short (a.toInt16.toInt32)))) 80 (upd (q.2.2.1 80) (q.1 15).toInt.toNat (vp_nar .short (b.toInt16.toInt32))) = (sA (sA (sA (sA (sA (sA (sA (sA (sB (sB (sB q 69 b69) 71 b71) 72 b72) 70 b70) 73 (upd (q.2.2.1 73) ((q.1 15) + (1 : Int32)).toInt.toNat (v4 + (q.1 29)))) 74 (upd (q.2.2.1 74) ((q.1 15) + (1 : Int32)).toInt.toNat (v10 + (q.1 34)))) 75 (upd (q.2.2.1 75) (q.1 15).toInt.toNat (vp_nar .boolean (1 : Int32)))) 76 (upd (q.2.2.1 76) (q.1 15).toInt.toNat (vp_nar .boolean (0 : Int32)))) 78 (upd (q.2.2.1 78) (q.1 15).toInt.toNat (vp_nar .byte (kd.toInt8.toInt32)))) 79 (upd (q.2.2.1 79) (q.1 15).toInt.toNat (vp_nar .short (a.toInt16.toInt32)))) 80 (upd (q.2.2.1 80) (q.1 15).toInt.toNat (vp_nar .short (b.toInt16.toInt32)))) from (show sA (sA (sA (sA (sA (sA (sA (sA (sB (sB (sB q 69 b69) 71 b71) 72 b72) 70 b70) 73 (upd (q.2.2.1 73) ((q.1 15) + (1 : Int32)).toInt.toNat (v4 + (q.1 29)))) 74 (upd (q.2.2.1 74) ((q.1 15) + (1 : Int32)).toInt.toNat (v10 + (q.1 34)))) 75 (upd (q.2.2.1 75) (q.1 15).toInt.toNat (vp_nar .boolean (1 : Int32)))) 76 (upd (q.2.2.1 76) (q.1 15).toInt.toNat (vp_nar .boolean (0 : Int32)))) 78 (upd (q.2.2.1 78) (q.1 15).toInt.toNat (vp_nar .byte (kd.toInt8.toInt32)))) 79 (upd (q.2.2.1 79) (q.1 15).toInt.toNat (vp_nar .short (a.toInt16.toInt32)))) 80 (upd (q.2.2.1 80) (q.1 15).toInt.toNat (vp_nar .short (b.toInt16.toInt32))) = (sA (sA (sA (sA (sA (sA (sA (sA (sB (sB (sB q 69 b69) 71 b71) 72 b72) 70 b70) 73 (upd (q.2.2.1 73) ((q.1 15) + (1 : Int32)).toInt.toNat (v4 + (q.1 29)))) 74 (upd (q.2.2.1 74) ((q.1 15) + (1 : Int32)).toInt.toNat (v10 + (q.1 34)))) 75 (upd (q.2.2.1 75) (q.1 15).toInt.toNat (vp_nar .boolean (1 : Int32)))) 76 (upd (q.2.2.1 76) (q.1 15).toInt.toNat (vp_nar .boolean (0 : Int32)))) 78 (upd (q.2.2.1 78) (q.1 15).toInt.toNat (vp_nar .byte (kd.toInt8.toInt32)))) 79 (upd (q.2.2.1 79) (q.1 15).toInt.toNat (vp_nar .short (a.toInt16.toInt32)))) 80 (upd (q.2.2.1 80) (q.1 15).toInt.toNat (vp_nar .short (b.toInt16.toInt32)))) from rfl))
              have f73 := rA_put (a := (q.2.2.1 73)) (x := (v4 + (q.1 29))) (m := ((q.1 15) + (1 : Int32)).toInt.toNat) (i := (q.1 15).toInt + 1) (by omega)
              have f73a : (v4 + (q.1 29)).toInt = rA (q.2.2.1 73) (q.1 15).toInt + (q.1 29).toInt := by omega
              rw [f73a] at f73
              have f74 := rA_put (a := (q.2.2.1 74)) (x := (v10 + (q.1 34))) (m := ((q.1 15) + (1 : Int32)).toInt.toNat) (i := (q.1 15).toInt + 1) (by omega)
              have f74a : (v10 + (q.1 34)).toInt = rA (q.2.2.1 74) (q.1 15).toInt + (q.1 34).toInt := by omega
              rw [f74a] at f74
              generalize (upd (q.2.2.1 73) ((q.1 15) + (1 : Int32)).toInt.toNat (v4 + (q.1 29))) = c73 at hM19 f73 ⊢
              generalize (upd (q.2.2.1 74) ((q.1 15) + (1 : Int32)).toInt.toNat (v10 + (q.1 34))) = c74 at hM19 f74 ⊢
              generalize (upd (q.2.2.1 75) (q.1 15).toInt.toNat (vp_nar .boolean (1 : Int32))) = c75 at hM19 ⊢
              generalize (upd (q.2.2.1 76) (q.1 15).toInt.toNat (vp_nar .boolean (0 : Int32))) = c76 at hM19 ⊢
              generalize (upd (q.2.2.1 78) (q.1 15).toInt.toNat (vp_nar .byte (kd.toInt8.toInt32))) = c78 at hM19 ⊢
              generalize (upd (q.2.2.1 79) (q.1 15).toInt.toNat (vp_nar .short (a.toInt16.toInt32))) = c79 at hM19 ⊢
              generalize (upd (q.2.2.1 80) (q.1 15).toInt.toNat (vp_nar .short (b.toInt16.toInt32))) = c80 at hM19 ⊢
              refine hG_mono (Nat.le_refl _) (mk_tail kd a b ha hb hm hS (by omega) ho hSN hHN hnd b69 b71 b72 _ c73 c74 c75 c76 c78 c79 c80 _ _ hM19) (fun r M9 w => ?_)
              obtain ⟨w1, c83, c77, c81, c82, m2, nd, w2, w3, w4, w5, w6⟩ := w
              exact ⟨w1, b69, b71, b72, c83, _, c73, c74, c75, c76, c77, c78, c79, c80, c81, c82, m2, nd, hc69, hc71, hc72, f73, f74, w2, w3, w4, w5, w6⟩
            · skip
              have h2 : k.toInt < (q.1 34).toInt := h2
              refine hs (f := dm_ald 81 0) rfl rfl ?_
              refine r_geta (c := 68) rfl hM rfl ?_
              refine hs (f := dm_ald 85 0) rfl rfl ?_
              refine r_geta (c := 71) rfl hM rfl ?_
              refine hs (f := dm_ild 90 4) rfl rfl ?_
              refine r_iald (L := 1001) (i := (q.1 15)) ((q.2.2.1 74) (q.1 15).toInt.toNat) rfl hM rfl (by omega) rfl ?_
              generalize g21 : (q.2.2.1 74) (q.1 15).toInt.toNat = v20
              have x22 : v20.toInt = rA (q.2.2.1 74) ((q.1 15).toInt) := rA_of (i := (q.1 15)) g21 rfl
              refine hs (f := dm_ild 93 5) rfl rfl ?_
              have e23 : (v20 + k).toInt = rA (q.2.2.1 74) ((q.1 15).toInt) + k.toInt := by have w := i_add (x := v20) (y := k) (by omega) (by omega); omega
              refine hs (f := dm_ii 94 (fun x y => x + y)) (st' := [.int (v20 + k), .ref 71]) rfl rfl ?_
              refine hs (f := dm_ald 95 0) rfl rfl ?_
              refine r_geta (c := 93) rfl hM rfl ?_
              refine hs (f := dm_ild 100 5) rfl rfl ?_
              refine r_lald (L := 24000) (i := k) ((q.2.2.2 96) k.toInt.toNat) rfl hM rfl (by omega) rfl ?_
              generalize g25 : (q.2.2.2 96) k.toInt.toNat = v24
              have x26 : v24.toInt = rB (q.2.2.2 96) k.toInt := rB_of (i := k) g25 rfl
              refine r_last (L := 24000) (i := (v20 + k)) (x := v24) b71 rfl hM rfl (by omega) rfl (fun M27 hM27 => ?_)
              replace hM27 := rm_to (q' := (sA (sB (sB (sB q 69 b69) 71 (vp_updL b71 (v20 + k).toInt.toNat v24)) 72 b72) 70 b70)) hM27 (show sB (sA (sB (sB (sB q 69 b69) 71 b71) 72 b72) 70 b70) 71 (vp_updL b71 (v20 + k).toInt.toNat v24) = (sA (sB (sB (sB q 69 b69) 71 (vp_updL b71 (v20 + k).toInt.toNat v24)) 72 b72) 70 b70) from (congrArg (fun z => (sA z 70 b70)) (show sB (sB (sB (sB q 69 b69) 71 b71) 72 b72) 71 (vp_updL b71 (v20 + k).toInt.toNat v24) = (sB (sB (sB q 69 b69) 71 (vp_updL b71 (v20 + k).toInt.toNat v24)) 72 b72) from Eq.trans (show sB (sB (sB (sB q 69 b69) 71 b71) 72 b72) 71 (vp_updL b71 (v20 + k).toInt.toNat v24) = sB (sB (sB (sB q 69 b69) 71 b71) 71 (vp_updL b71 (v20 + k).toInt.toNat v24)) 72 b72 from sB_cm (by decide)) (congrArg (fun z => sB z 72 b72) (show sB (sB (sB q 69 b69) 71 b71) 71 (vp_updL b71 (v20 + k).toInt.toNat v24) = (sB (sB q 69 b69) 71 (vp_updL b71 (v20 + k).toInt.toNat v24)) from sB_sB)))))
              refine hs (f := dm_ald 103 0) rfl rfl ?_
              refine r_geta (c := 69) rfl hM27 rfl ?_
              refine hs (f := dm_ald 107 0) rfl rfl ?_
              refine r_geta (c := 71) rfl hM27 rfl ?_
              refine hs (f := dm_ild 112 4) rfl rfl ?_
              refine r_iald (L := 1001) (i := (q.1 15)) ((q.2.2.1 74) (q.1 15).toInt.toNat) rfl hM27 rfl (by omega) rfl ?_
              generalize g29 : (q.2.2.1 74) (q.1 15).toInt.toNat = v28
              have x30 : v28.toInt = rA (q.2.2.1 74) ((q.1 15).toInt) := rA_of (i := (q.1 15)) g29 rfl
              refine hs (f := dm_ild 115 5) rfl rfl ?_
              have e31 : (v28 + k).toInt = rA (q.2.2.1 74) ((q.1 15).toInt) + k.toInt := by have w := i_add (x := v28) (y := k) (by omega) (by omega); omega
              refine hs (f := dm_ii 116 (fun x y => x + y)) (st' := [.int (v28 + k), .ref 72]) rfl rfl ?_
              refine hs (f := dm_ald 117 0) rfl rfl ?_
              refine r_geta (c := 94) rfl hM27 rfl ?_
              refine hs (f := dm_ild 122 5) rfl rfl ?_
              refine r_lald (L := 24000) (i := k) ((q.2.2.2 97) k.toInt.toNat) rfl hM27 rfl (by omega) rfl ?_
              generalize g33 : (q.2.2.2 97) k.toInt.toNat = v32
              have x34 : v32.toInt = rB (q.2.2.2 97) k.toInt := rB_of (i := k) g33 rfl
              refine r_last (L := 24000) (i := (v28 + k)) (x := v32) b72 rfl hM27 rfl (by omega) rfl (fun M35 hM35 => ?_)
              replace hM35 := rm_to (q' := (sA (sB (sB (sB q 69 b69) 71 (vp_updL b71 (v20 + k).toInt.toNat v24)) 72 (vp_updL b72 (v28 + k).toInt.toNat v32)) 70 b70)) hM35 (show sB (sA (sB (sB (sB q 69 b69) 71 (vp_updL b71 (v20 + k).toInt.toNat v24)) 72 b72) 70 b70) 72 (vp_updL b72 (v28 + k).toInt.toNat v32) = (sA (sB (sB (sB q 69 b69) 71 (vp_updL b71 (v20 + k).toInt.toNat v24)) 72 (vp_updL b72 (v28 + k).toInt.toNat v32)) 70 b70) from (congrArg (fun z => (sA z 70 b70)) (show sB (sB (sB (sB q 69 b69) 71 (vp_updL b71 (v20 + k).toInt.toNat v24)) 72 b72) 72 (vp_updL b72 (v28 + k).toInt.toNat v32) = (sB (sB (sB q 69 b69) 71 (vp_updL b71 (v20 + k).toInt.toNat v24)) 72 (vp_updL b72 (v28 + k).toInt.toNat v32)) from sB_sB)))
              have e36 : (k + 1).toInt = k.toInt + 1 := by have w := i_addc (x := k) (y := 1) 1 rfl (by omega) (by omega); omega
              refine hs (f := dm_iinc 127 5 1) (lv' := [(5, .int (k + 1)), (4, .int (q.1 15)), (0, .ref 68), (1, .int kd), (2, .int a), (3, .int b)]) rfl rfl ?_
              refine hs (f := dm_goto 71) rfl rfl ?_
              exact (IH _ (by omega)) (k + 1) (vp_updL b71 (v20 + k).toInt.toNat v24) (vp_updL b72 (v28 + k).toInt.toNat v32) _ hM35 (by omega) (by omega) (by rw [e36]; exact cpy_s hc1 (by omega) (by omega) (by omega) g25) (by rw [e36]; exact cpy_s hc2 (by omega) (by omega) (by omega) g33) rfl
        refine hs (f := dm_push 69 (.int 0)) rfl rfl ?_
        refine hs (f := dm_ist 71 5) (lv' := [(5, .int 0), (4, .int (q.1 15)), (0, .ref 68), (1, .int kd), (2, .int a), (3, .int b)]) rfl rfl ?_
        replace hM := rm_to (q' := (sA (sB (sB q 69 b69) 71 (q.2.2.2 71)) 70 b70)) hM (Eq.trans (sB_id (q := (sA (sB q 69 b69) 70 b70)) (k := 71) (v := (q.2.2.2 71)) rfl) (show sB (sA (sB q 69 b69) 70 b70) 71 (q.2.2.2 71) = (sA (sB (sB q 69 b69) 71 (q.2.2.2 71)) 70 b70) from (congrArg (fun z => (sA z 70 b70)) (show sB (sB q 69 b69) 71 (q.2.2.2 71) = (sB (sB q 69 b69) 71 (q.2.2.2 71)) from rfl))))
        replace hM := rm_to (q' := (sA (sB (sB (sB q 69 b69) 71 (q.2.2.2 71)) 72 (q.2.2.2 72)) 70 b70)) hM (Eq.trans (sB_id (q := (sA (sB (sB q 69 b69) 71 (q.2.2.2 71)) 70 b70)) (k := 72) (v := (q.2.2.2 72)) rfl) (show sB (sA (sB (sB q 69 b69) 71 (q.2.2.2 71)) 70 b70) 72 (q.2.2.2 72) = (sA (sB (sB (sB q 69 b69) 71 (q.2.2.2 71)) 72 (q.2.2.2 72)) 70 b70) from (congrArg (fun z => (sA z 70 b70)) (show sB (sB (sB q 69 b69) 71 (q.2.2.2 71)) 72 (q.2.2.2 72) = (sB (sB (sB q 69 b69) 71 (q.2.2.2 71)) 72 (q.2.2.2 72)) from rfl))))
        exact (j71 _) 0 (q.2.2.2 71) (q.2.2.2 72) _ hM (by decide) (by show (0 : Int) ≤ _; omega) cpy_0 cpy_0 rfl
      · skip
        have h1 : k.toInt < (q.1 29).toInt := h1
        refine hs (f := dm_ald 19 0) rfl rfl ?_
        refine r_geta (c := 66) rfl hM rfl ?_
        refine hs (f := dm_ald 23 0) rfl rfl ?_
        refine r_geta (c := 70) rfl hM rfl ?_
        refine hs (f := dm_ild 28 4) rfl rfl ?_
        refine r_iald (L := 1001) (i := (q.1 15)) ((q.2.2.1 73) (q.1 15).toInt.toNat) rfl hM rfl (by omega) rfl ?_
        generalize g38 : (q.2.2.1 73) (q.1 15).toInt.toNat = v37
        have x39 : v37.toInt = rA (q.2.2.1 73) ((q.1 15).toInt) := rA_of (i := (q.1 15)) g38 rfl
        refine hs (f := dm_ild 31 5) rfl rfl ?_
        have e40 : (v37 + k).toInt = rA (q.2.2.1 73) ((q.1 15).toInt) + k.toInt := by have w := i_add (x := v37) (y := k) (by omega) (by omega); omega
        refine hs (f := dm_ii 32 (fun x y => x + y)) (st' := [.int (v37 + k), .ref 69]) rfl rfl ?_
        refine hs (f := dm_ald 33 0) rfl rfl ?_
        refine r_geta (c := 89) rfl hM rfl ?_
        refine hs (f := dm_ild 38 5) rfl rfl ?_
        refine r_lald (L := 24000) (i := k) ((q.2.2.2 92) k.toInt.toNat) rfl hM rfl (by omega) rfl ?_
        generalize g42 : (q.2.2.2 92) k.toInt.toNat = v41
        have x43 : v41.toInt = rB (q.2.2.2 92) k.toInt := rB_of (i := k) g42 rfl
        refine r_last (L := 24000) (i := (v37 + k)) (x := v41) b69 rfl hM rfl (by omega) rfl (fun M44 hM44 => ?_)
        replace hM44 := rm_to (q' := (sA (sB q 69 (vp_updL b69 (v37 + k).toInt.toNat v41)) 70 b70)) hM44 (show sB (sA (sB q 69 b69) 70 b70) 69 (vp_updL b69 (v37 + k).toInt.toNat v41) = (sA (sB q 69 (vp_updL b69 (v37 + k).toInt.toNat v41)) 70 b70) from (congrArg (fun z => (sA z 70 b70)) (show sB (sB q 69 b69) 69 (vp_updL b69 (v37 + k).toInt.toNat v41) = (sB q 69 (vp_updL b69 (v37 + k).toInt.toNat v41)) from sB_sB)))
        refine hs (f := dm_ald 41 0) rfl rfl ?_
        refine r_geta (c := 67) rfl hM44 rfl ?_
        refine hs (f := dm_ald 45 0) rfl rfl ?_
        refine r_geta (c := 70) rfl hM44 rfl ?_
        refine hs (f := dm_ild 50 4) rfl rfl ?_
        refine r_iald (L := 1001) (i := (q.1 15)) ((q.2.2.1 73) (q.1 15).toInt.toNat) rfl hM44 rfl (by omega) rfl ?_
        generalize g46 : (q.2.2.1 73) (q.1 15).toInt.toNat = v45
        have x47 : v45.toInt = rA (q.2.2.1 73) ((q.1 15).toInt) := rA_of (i := (q.1 15)) g46 rfl
        refine hs (f := dm_ild 53 5) rfl rfl ?_
        have e48 : (v45 + k).toInt = rA (q.2.2.1 73) ((q.1 15).toInt) + k.toInt := by have w := i_add (x := v45) (y := k) (by omega) (by omega); omega
        refine hs (f := dm_ii 54 (fun x y => x + y)) (st' := [.int (v45 + k), .ref 70]) rfl rfl ?_
        refine hs (f := dm_ald 55 0) rfl rfl ?_
        refine r_geta (c := 90) rfl hM44 rfl ?_
        refine hs (f := dm_ild 60 5) rfl rfl ?_
        refine r_iald (L := 24000) (i := k) ((q.2.2.1 93) k.toInt.toNat) rfl hM44 rfl (by omega) rfl ?_
        generalize g50 : (q.2.2.1 93) k.toInt.toNat = v49
        have x51 : v49.toInt = rA (q.2.2.1 93) k.toInt := rA_of (i := k) g50 rfl
        refine r_iast (L := 24000) (i := (v45 + k)) (x := v49) b70 rfl hM44 rfl (by omega) rfl (fun M52 hM52 => ?_)
        replace hM52 := rm_to (q' := (sA (sB q 69 (vp_updL b69 (v37 + k).toInt.toNat v41)) 70 (upd b70 (v45 + k).toInt.toNat v49))) hM52 (show sA (sA (sB q 69 (vp_updL b69 (v37 + k).toInt.toNat v41)) 70 b70) 70 (upd b70 (v45 + k).toInt.toNat v49) = (sA (sB q 69 (vp_updL b69 (v37 + k).toInt.toNat v41)) 70 (upd b70 (v45 + k).toInt.toNat v49)) from (show sA (sA (sB q 69 (vp_updL b69 (v37 + k).toInt.toNat v41)) 70 b70) 70 (upd b70 (v45 + k).toInt.toNat v49) = (sA (sB q 69 (vp_updL b69 (v37 + k).toInt.toNat v41)) 70 (upd b70 (v45 + k).toInt.toNat v49)) from sA_sA))
        have e53 : (k + 1).toInt = k.toInt + 1 := by have w := i_addc (x := k) (y := 1) 1 rfl (by omega) (by omega); omega
        refine hs (f := dm_iinc 65 5 1) (lv' := [(5, .int (k + 1)), (4, .int (q.1 15)), (0, .ref 68), (1, .int kd), (2, .int a), (3, .int b)]) rfl rfl ?_
        refine hs (f := dm_goto 9) rfl rfl ?_
        exact (IH _ (by omega)) (k + 1) (vp_updL b69 (v37 + k).toInt.toNat v41) (upd b70 (v45 + k).toInt.toNat v49) _ hM52 (by omega) (by omega) (by rw [e53]; exact cpy_s hc (by omega) (by omega) (by omega) g42) rfl
  refine hx (t := cd_140) rfl (Nat.le_of_ble_eq_true rfl) (lv := [(0, .ref 68), (1, .int kd), (2, .int a), (3, .int b)]) rfl ?_
  refine hs (f := dm_ald 1 0) rfl rfl ?_
  refine r_geti (q.1 15) rfl hM rfl rfl ?_
  refine hs (f := dm_ist 6 4) (lv' := [(4, .int (q.1 15)), (0, .ref 68), (1, .int kd), (2, .int a), (3, .int b)]) rfl rfl ?_
  refine hs (f := dm_push 7 (.int 0)) rfl rfl ?_
  refine hs (f := dm_ist 9 5) (lv' := [(5, .int 0), (4, .int (q.1 15)), (0, .ref 68), (1, .int kd), (2, .int a), (3, .int b)]) rfl rfl ?_
  replace hM := rm_to (q' := (sB q 69 (q.2.2.2 69))) hM (Eq.trans (sB_id (q := q) (k := 69) (v := (q.2.2.2 69)) rfl) (show sB q 69 (q.2.2.2 69) = (sB q 69 (q.2.2.2 69)) from (show sB q 69 (q.2.2.2 69) = (sB q 69 (q.2.2.2 69)) from rfl)))
  replace hM := rm_to (q' := (sA (sB q 69 (q.2.2.2 69)) 70 (q.2.2.1 70))) hM (Eq.trans (sA_id (q := (sB q 69 (q.2.2.2 69))) (k := 70) (v := (q.2.2.1 70)) rfl) (show sA (sB q 69 (q.2.2.2 69)) 70 (q.2.2.1 70) = (sA (sB q 69 (q.2.2.2 69)) 70 (q.2.2.1 70)) from (show sA (sB q 69 (q.2.2.2 69)) 70 (q.2.2.1 70) = (sA (sB q 69 (q.2.2.2 69)) 70 (q.2.2.1 70)) from rfl)))
  exact (j9 _) 0 (q.2.2.2 69) (q.2.2.1 70) _ hM (by decide) (by show (0 : Int) ≤ _; omega) cpy_0 rfl
