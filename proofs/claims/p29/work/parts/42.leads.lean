/-! two stamps compared -/
set_option maxHeartbeats 4000000 in
theorem r_173 {X : dm_Mem} {q : rS} {M : dm_Mem} (hM : Rm X q M) (a b : Int32) (a0 : 0 ≤ a.toInt ∧ a.toInt < 1000) (b0 : 0 ≤ b.toInt ∧ b.toInt < 1000) (h0a : 0 ≤ rA (q.2.2.1 73) a.toInt) (h1a : rA (q.2.2.1 73) a.toInt < rA (q.2.2.1 73) (a.toInt + 1)) (h2a : rA (q.2.2.1 73) (a.toInt + 1) ≤ 24000) (h0b : 0 ≤ rA (q.2.2.1 73) b.toInt) (h1b : rA (q.2.2.1 73) b.toInt < rA (q.2.2.1 73) (b.toInt + 1)) (h2b : rA (q.2.2.1 73) (b.toInt + 1) ≤ 24000) : hT 1 173 [.ref 68, .int a, .int b] M (fun r M' => M' = M ∧ ((r = some (.int 1) ∧ True) ∨ (r = some (.int 0) ∧ True))) := by
  have jh : ∀ (nn : Nat), (∀ (i j : Int32) (p e7 e9 : Int64) (M : dm_Mem), Rm X q M → (rA (q.2.2.1 73) a.toInt ≤ i.toInt) → (i.toInt ≤ rA (q.2.2.1 73) (a.toInt + 1)) → (rA (q.2.2.1 73) b.toInt ≤ j.toInt) → (j.toInt ≤ rA (q.2.2.1 73) (b.toInt + 1)) → (p.toInt < 1152921504606846976 → i.toInt < rA (q.2.2.1 73) (a.toInt + 1) ∧ j.toInt < rA (q.2.2.1 73) (b.toInt + 1)) → ((rA (q.2.2.1 73) (a.toInt + 1) - i.toInt).toNat + (rA (q.2.2.1 73) (b.toInt + 1) - j.toInt).toNat) = nn → hG 0 cd_173 18 [(5, .long p), (4, .int j), (3, .int i), (0, .ref 68), (1, .int a), (2, .int b)] [] M (fun r M' => M' = M ∧ ((r = some (.int 1) ∧ True) ∨ (r = some (.int 0) ∧ True)))) ∧ (∀ (i j : Int32) (p e7 e9 : Int64) (M : dm_Mem), Rm X q M → (rA (q.2.2.1 73) a.toInt ≤ i.toInt) → (i.toInt ≤ rA (q.2.2.1 73) (a.toInt + 1)) → (rA (q.2.2.1 73) b.toInt ≤ j.toInt) → (j.toInt ≤ rA (q.2.2.1 73) (b.toInt + 1)) → (p.toInt < 1152921504606846976 → i.toInt < rA (q.2.2.1 73) (a.toInt + 1) ∧ j.toInt < rA (q.2.2.1 73) (b.toInt + 1)) → ((rA (q.2.2.1 73) (a.toInt + 1) - i.toInt).toNat + (rA (q.2.2.1 73) (b.toInt + 1) - j.toInt).toNat) = nn → hG 0 cd_173 18 [(3, .int i), (5, .long p), (9, .long e9), (7, .long e7), (4, .int j), (0, .ref 68), (1, .int a), (2, .int b)] [] M (fun r M' => M' = M ∧ ((r = some (.int 1) ∧ True) ∨ (r = some (.int 0) ∧ True)))) ∧ (∀ (i j : Int32) (p e7 e9 : Int64) (M : dm_Mem), Rm X q M → (rA (q.2.2.1 73) a.toInt ≤ i.toInt) → (i.toInt ≤ rA (q.2.2.1 73) (a.toInt + 1)) → (rA (q.2.2.1 73) b.toInt ≤ j.toInt) → (j.toInt ≤ rA (q.2.2.1 73) (b.toInt + 1)) → (p.toInt < 1152921504606846976 → i.toInt < rA (q.2.2.1 73) (a.toInt + 1) ∧ j.toInt < rA (q.2.2.1 73) (b.toInt + 1)) → ((rA (q.2.2.1 73) (a.toInt + 1) - i.toInt).toNat + (rA (q.2.2.1 73) (b.toInt + 1) - j.toInt).toNat) = nn → hG 0 cd_173 18 [(4, .int j), (5, .long p), (9, .long e9), (7, .long e7), (3, .int i), (0, .ref 68), (1, .int a), (2, .int b)] [] M (fun r M' => M' = M ∧ ((r = some (.int 1) ∧ True) ∨ (r = some (.int 0) ∧ True)))) ∧ (∀ (i j : Int32) (p e7 e9 : Int64) (M : dm_Mem), Rm X q M → (rA (q.2.2.1 73) a.toInt ≤ i.toInt) → (i.toInt ≤ rA (q.2.2.1 73) (a.toInt + 1)) → (rA (q.2.2.1 73) b.toInt ≤ j.toInt) → (j.toInt ≤ rA (q.2.2.1 73) (b.toInt + 1)) → (p.toInt < 1152921504606846976 → i.toInt < rA (q.2.2.1 73) (a.toInt + 1) ∧ j.toInt < rA (q.2.2.1 73) (b.toInt + 1)) → ((rA (q.2.2.1 73) (a.toInt + 1) - i.toInt).toNat + (rA (q.2.2.1 73) (b.toInt + 1) - j.toInt).toNat) = nn → hG 0 cd_173 18 [(4, .int j), (3, .int i), (5, .long p), (9, .long e9), (7, .long e7), (0, .ref 68), (1, .int a), (2, .int b)] [] M (fun r M' => M' = M ∧ ((r = some (.int 1) ∧ True) ∨ (r = some (.int 0) ∧ True)))) := by
    intro nn
    induction nn using Nat.strongRecOn with
    | ind nn IH =>
      refine ⟨?_, ?_, ?_, ?_⟩
      · skip
        intro i j p e7 e9 M hM i0 i1 j0 j1 hp hms
        refine hs (f := dm_lld 20 5) rfl rfl ?_
        refine hs (f := dm_push 23 (.long 1152921504606846976)) rfl rfl ?_
        refine g_lc_ge (x := p) (y := (1152921504606846976 : Int64)) (m := 24) (n := 27) (tt := 149) rfl rfl (fun h1 => ?_) (fun h1 => ?_)
        · skip
          have h1 : p.toInt ≥ 1152921504606846976 := h1
          refine hs (f := dm_push 150 (.int 1)) rfl rfl ?_
          exact h_retB rfl isB_1 (⟨rfl, by first | exact Or.inl ⟨rfl, trivial⟩ | exact Or.inr ⟨rfl, trivial⟩⟩)
        · skip
          have h1 : p.toInt < 1152921504606846976 := h1
          obtain ⟨i2, j2⟩ := hp (by clear hms; omega)
          have jm : ∀ (ei ej p2 : Int64) (M : dm_Mem), Rm X q M → (ei.toInt < 1152921504606846976 → i.toInt + 1 < rA (q.2.2.1 73) (a.toInt + 1)) → (ej.toInt < 1152921504606846976 → j.toInt + 1 < rA (q.2.2.1 73) (b.toInt + 1)) → ((p2.toInt = ei.toInt ∧ ei.toInt < ej.toInt) ∨ (p2.toInt = ej.toInt ∧ ej.toInt ≤ ei.toInt)) → hG 0 cd_173 122 [(9, .long ej), (7, .long ei), (5, .long p), (4, .int j), (3, .int i), (0, .ref 68), (1, .int a), (2, .int b)] [.long p2] M (fun r M' => M' = M ∧ ((r = some (.int 1) ∧ True) ∨ (r = some (.int 0) ∧ True))) := by
            intro ei ej p2 M hM hei hej hmn
            refine hs (f := dm_lst 124 5) (lv' := [(5, .long p2), (9, .long ej), (7, .long ei), (4, .int j), (3, .int i), (0, .ref 68), (1, .int a), (2, .int b)]) rfl rfl ?_
            refine hs (f := dm_lld 126 7) rfl rfl ?_
            refine hs (f := dm_lld 128 5) rfl rfl ?_
            refine g_lc_ne (x := ei) (y := p2) (m := 129) (n := 132) (tt := 135) rfl rfl (fun h2 => ?_) (fun h2 => ?_)
            · skip
              have h2 : ¬ ei.toInt = p2.toInt := h2
              refine hs (f := dm_lld 137 9) rfl rfl ?_
              refine hs (f := dm_lld 139 5) rfl rfl ?_
              refine g_lc_ne (x := ej) (y := p2) (m := 140) (n := 143) (tt := 146) rfl rfl (fun h3 => ?_) (fun h3 => ?_)
              · skip
                have h3 : ¬ ej.toInt = p2.toInt := h3
                refine hs (f := dm_goto 18) rfl rfl ?_
                exfalso
                clear hms
                omega
              · skip
                have h3 : ej.toInt = p2.toInt := h3
                have e4 : (j + 1).toInt = j.toInt + 1 := by have w := i_addc (x := j) (y := 1) 1 rfl (by omega) (by omega); omega
                refine hs (f := dm_iinc 146 4 1) (lv' := [(4, .int (j + 1)), (5, .long p2), (9, .long ej), (7, .long ei), (3, .int i), (0, .ref 68), (1, .int a), (2, .int b)]) rfl rfl ?_
                refine hs (f := dm_goto 18) rfl rfl ?_
                have hdec : (rA (q.2.2.1 73) (a.toInt + 1) - i.toInt).toNat + (rA (q.2.2.1 73) (b.toInt + 1) - (j + 1).toInt).toNat < nn := by rw [e4]; exact (tg_dec hms i2 j2).2.1
                exact (IH _ hdec).2.2.1 i (j + 1) p2 ei ej _ hM (by clear hms; omega) (by clear hms; omega) (by clear hms; omega) (by clear hms; omega) (by clear hms; omega) rfl
            · skip
              have h2 : ei.toInt = p2.toInt := h2
              have e5 : (i + 1).toInt = i.toInt + 1 := by have w := i_addc (x := i) (y := 1) 1 rfl (by omega) (by omega); omega
              refine hs (f := dm_iinc 135 3 1) (lv' := [(3, .int (i + 1)), (5, .long p2), (9, .long ej), (7, .long ei), (4, .int j), (0, .ref 68), (1, .int a), (2, .int b)]) rfl rfl ?_
              refine hs (f := dm_lld 137 9) rfl rfl ?_
              refine hs (f := dm_lld 139 5) rfl rfl ?_
              refine g_lc_ne (x := ej) (y := p2) (m := 140) (n := 143) (tt := 146) rfl rfl (fun h6 => ?_) (fun h6 => ?_)
              · skip
                have h6 : ¬ ej.toInt = p2.toInt := h6
                refine hs (f := dm_goto 18) rfl rfl ?_
                have hdec : (rA (q.2.2.1 73) (a.toInt + 1) - (i + 1).toInt).toNat + (rA (q.2.2.1 73) (b.toInt + 1) - j.toInt).toNat < nn := by rw [e5]; exact (tg_dec hms i2 j2).1
                exact (IH _ hdec).2.1 (i + 1) j p2 ei ej _ hM (by clear hms; omega) (by clear hms; omega) (by clear hms; omega) (by clear hms; omega) (by clear hms; omega) rfl
              · skip
                have h6 : ej.toInt = p2.toInt := h6
                have e7 : (j + 1).toInt = j.toInt + 1 := by have w := i_addc (x := j) (y := 1) 1 rfl (by omega) (by omega); omega
                refine hs (f := dm_iinc 146 4 1) (lv' := [(4, .int (j + 1)), (3, .int (i + 1)), (5, .long p2), (9, .long ej), (7, .long ei), (0, .ref 68), (1, .int a), (2, .int b)]) rfl rfl ?_
                refine hs (f := dm_goto 18) rfl rfl ?_
                have hdec : (rA (q.2.2.1 73) (a.toInt + 1) - (i + 1).toInt).toNat + (rA (q.2.2.1 73) (b.toInt + 1) - (j + 1).toInt).toNat < nn := by rw [e5, e7]; exact (tg_dec hms i2 j2).2.2
                exact (IH _ hdec).2.2.2 (i + 1) (j + 1) p2 ei ej _ hM (by clear hms; omega) (by clear hms; omega) (by clear hms; omega) (by clear hms; omega) (by clear hms; omega) rfl
          have j9 : ∀ (ei ej : Int64) (M : dm_Mem), Rm X q M → (ei.toInt < 1152921504606846976 → i.toInt + 1 < rA (q.2.2.1 73) (a.toInt + 1)) → (ej.toInt < 1152921504606846976 → j.toInt + 1 < rA (q.2.2.1 73) (b.toInt + 1)) → hG 0 cd_173 105 [(7, .long ei), (5, .long p), (4, .int j), (3, .int i), (0, .ref 68), (1, .int a), (2, .int b)] [.long ej] M (fun r M' => M' = M ∧ ((r = some (.int 1) ∧ True) ∨ (r = some (.int 0) ∧ True))) := by
            intro ei ej M hM hei hej
            refine hs (f := dm_lst 107 9) (lv' := [(9, .long ej), (7, .long ei), (5, .long p), (4, .int j), (3, .int i), (0, .ref 68), (1, .int a), (2, .int b)]) rfl rfl ?_
            refine hs (f := dm_lld 109 7) rfl rfl ?_
            refine hs (f := dm_lld 111 9) rfl rfl ?_
            refine g_lc_ge (x := ei) (y := ej) (m := 112) (n := 115) (tt := 120) rfl rfl (fun h8 => ?_) (fun h8 => ?_)
            · skip
              have h8 : ei.toInt ≥ ej.toInt := h8
              refine hs (f := dm_lld 122 9) rfl rfl ?_
              exact jm ei ej ej _ hM hei hej (by clear hms; omega)
            · skip
              have h8 : ei.toInt < ej.toInt := h8
              refine hs (f := dm_lld 117 7) rfl rfl ?_
              refine hs (f := dm_goto 122) rfl rfl ?_
              exact jm ei ej ei _ hM hei hej (by clear hms; omega)
          have j7 : ∀ (ei : Int64) (M : dm_Mem), Rm X q M → (ei.toInt < 1152921504606846976 → i.toInt + 1 < rA (q.2.2.1 73) (a.toInt + 1)) → hG 0 cd_173 73 [(5, .long p), (4, .int j), (3, .int i), (0, .ref 68), (1, .int a), (2, .int b)] [.long ei] M (fun r M' => M' = M ∧ ((r = some (.int 1) ∧ True) ∨ (r = some (.int 0) ∧ True))) := by
            intro ei M hM hei
            refine hs (f := dm_lst 75 7) (lv' := [(7, .long ei), (5, .long p), (4, .int j), (3, .int i), (0, .ref 68), (1, .int a), (2, .int b)]) rfl rfl ?_
            refine hs (f := dm_ild 77 4) rfl rfl ?_
            refine hs (f := dm_push 78 (.int 1)) rfl rfl ?_
            have e9 : (j + (1 : Int32)).toInt = j.toInt + 1 := by have w := i_addc (x := j) (y := (1 : Int32)) 1 rfl (by omega) (by omega); omega
            refine hs (f := dm_ii 79 (fun x y => x + y)) (st' := [.int (j + (1 : Int32))]) rfl rfl ?_
            refine hs (f := dm_ald 80 0) rfl rfl ?_
            refine r_geta (c := 70) rfl hM rfl ?_
            refine hs (f := dm_ild 84 2) rfl rfl ?_
            refine hs (f := dm_push 85 (.int 1)) rfl rfl ?_
            have e10 : (b + (1 : Int32)).toInt = b.toInt + 1 := by have w := i_addc (x := b) (y := (1 : Int32)) 1 rfl (by omega) (by omega); omega
            refine hs (f := dm_ii 86 (fun x y => x + y)) (st' := [.int (b + (1 : Int32)), .ref 73, .int (j + (1 : Int32))]) rfl rfl ?_
            refine r_iald (L := 1001) (i := (b + (1 : Int32))) ((q.2.2.1 73) (b + (1 : Int32)).toInt.toNat) rfl hM rfl (by omega) rfl ?_
            generalize g12 : (q.2.2.1 73) (b + (1 : Int32)).toInt.toNat = v11
            have x13 : v11.toInt = rA (q.2.2.1 73) (b.toInt + 1) := rA_of (i := (b + (1 : Int32))) g12 e10
            refine g_ic_ge (n := 90) (tt := 102) rfl (fun h14 => ?_) (fun h14 => ?_)
            · skip
              have h14 : (j + (1 : Int32)).toInt ≥ v11.toInt := h14
              refine hs (f := dm_push 105 (.long 1152921504606846976)) rfl rfl ?_
              exact j9 ei (1152921504606846976 : Int64) _ hM hei (by intro z; clear hms; first | omega | exact absurd z (by decide))
            · skip
              have h14 : (j + (1 : Int32)).toInt < v11.toInt := h14
              refine hs (f := dm_ald 91 0) rfl rfl ?_
              refine r_geta (c := 66) rfl hM rfl ?_
              refine hs (f := dm_ild 96 4) rfl rfl ?_
              refine hs (f := dm_push 97 (.int 1)) rfl rfl ?_
              have e15 : (j + (1 : Int32)).toInt = j.toInt + 1 := by have w := i_addc (x := j) (y := (1 : Int32)) 1 rfl (by omega) (by omega); omega
              refine hs (f := dm_ii 98 (fun x y => x + y)) (st' := [.int (j + (1 : Int32)), .ref 69]) rfl rfl ?_
              refine r_lald (L := 24000) (i := (j + (1 : Int32))) ((q.2.2.2 69) (j + (1 : Int32)).toInt.toNat) rfl hM rfl (by omega) rfl ?_
              generalize g17 : (q.2.2.2 69) (j + (1 : Int32)).toInt.toNat = v16
              have x18 : v16.toInt = rB (q.2.2.2 69) (j.toInt + 1) := rB_of (i := (j + (1 : Int32))) g17 e15
              refine hs (f := dm_goto 105) rfl rfl ?_
              exact j9 ei v16 _ hM hei (by intro z; clear hms; first | omega | exact absurd z (by decide))
          refine hs (f := dm_ald 28 0) rfl rfl ?_
          refine r_geta (c := 67) rfl hM rfl ?_
          refine hs (f := dm_ild 32 3) rfl rfl ?_
          refine r_iald (L := 24000) (i := i) ((q.2.2.1 70) i.toInt.toNat) rfl hM rfl (by omega) rfl ?_
          generalize g20 : (q.2.2.1 70) i.toInt.toNat = v19
          have x21 : v19.toInt = rA (q.2.2.1 70) i.toInt := rA_of (i := i) g20 rfl
          refine hs (f := dm_ald 34 0) rfl rfl ?_
          refine r_geta (c := 67) rfl hM rfl ?_
          refine hs (f := dm_ild 39 4) rfl rfl ?_
          refine r_iald (L := 24000) (i := j) ((q.2.2.1 70) j.toInt.toNat) rfl hM rfl (by omega) rfl ?_
          generalize g23 : (q.2.2.1 70) j.toInt.toNat = v22
          have x24 : v22.toInt = rA (q.2.2.1 70) j.toInt := rA_of (i := j) g23 rfl
          refine g_ic_le (n := 43) (tt := 45) rfl (fun h25 => ?_) (fun h25 => ?_)
          · skip
            have h25 : v19.toInt ≤ v22.toInt := h25
            refine hs (f := dm_ild 46 3) rfl rfl ?_
            refine hs (f := dm_push 47 (.int 1)) rfl rfl ?_
            have e26 : (i + (1 : Int32)).toInt = i.toInt + 1 := by have w := i_addc (x := i) (y := (1 : Int32)) 1 rfl (by omega) (by omega); omega
            refine hs (f := dm_ii 48 (fun x y => x + y)) (st' := [.int (i + (1 : Int32))]) rfl rfl ?_
            refine hs (f := dm_ald 49 0) rfl rfl ?_
            refine r_geta (c := 70) rfl hM rfl ?_
            refine hs (f := dm_ild 53 1) rfl rfl ?_
            refine hs (f := dm_push 54 (.int 1)) rfl rfl ?_
            have e27 : (a + (1 : Int32)).toInt = a.toInt + 1 := by have w := i_addc (x := a) (y := (1 : Int32)) 1 rfl (by omega) (by omega); omega
            refine hs (f := dm_ii 55 (fun x y => x + y)) (st' := [.int (a + (1 : Int32)), .ref 73, .int (i + (1 : Int32))]) rfl rfl ?_
            refine r_iald (L := 1001) (i := (a + (1 : Int32))) ((q.2.2.1 73) (a + (1 : Int32)).toInt.toNat) rfl hM rfl (by omega) rfl ?_
            generalize g29 : (q.2.2.1 73) (a + (1 : Int32)).toInt.toNat = v28
            have x30 : v28.toInt = rA (q.2.2.1 73) (a.toInt + 1) := rA_of (i := (a + (1 : Int32))) g29 e27
            refine g_ic_ge (n := 59) (tt := 70) rfl (fun h31 => ?_) (fun h31 => ?_)
            · skip
              have h31 : (i + (1 : Int32)).toInt ≥ v28.toInt := h31
              refine hs (f := dm_push 73 (.long 1152921504606846976)) rfl rfl ?_
              exact j7 (1152921504606846976 : Int64) _ hM (by intro z; clear hms; first | omega | exact absurd z (by decide))
            · skip
              have h31 : (i + (1 : Int32)).toInt < v28.toInt := h31
              refine hs (f := dm_ald 60 0) rfl rfl ?_
              refine r_geta (c := 66) rfl hM rfl ?_
              refine hs (f := dm_ild 64 3) rfl rfl ?_
              refine hs (f := dm_push 65 (.int 1)) rfl rfl ?_
              have e32 : (i + (1 : Int32)).toInt = i.toInt + 1 := by have w := i_addc (x := i) (y := (1 : Int32)) 1 rfl (by omega) (by omega); omega
              refine hs (f := dm_ii 66 (fun x y => x + y)) (st' := [.int (i + (1 : Int32)), .ref 69]) rfl rfl ?_
              refine r_lald (L := 24000) (i := (i + (1 : Int32))) ((q.2.2.2 69) (i + (1 : Int32)).toInt.toNat) rfl hM rfl (by omega) rfl ?_
              generalize g34 : (q.2.2.2 69) (i + (1 : Int32)).toInt.toNat = v33
              have x35 : v33.toInt = rB (q.2.2.2 69) (i.toInt + 1) := rB_of (i := (i + (1 : Int32))) g34 e32
              refine hs (f := dm_goto 73) rfl rfl ?_
              exact j7 v33 _ hM (by intro z; clear hms; first | omega | exact absurd z (by decide))
          · skip
            have h25 : v19.toInt > v22.toInt := h25
            refine hs (f := dm_push 44 (.int 0)) rfl rfl ?_
            exact h_retB rfl isB_0 (⟨rfl, by first | exact Or.inl ⟨rfl, trivial⟩ | exact Or.inr ⟨rfl, trivial⟩⟩)
      · skip
        intro i j p e7 e9 M hM i0 i1 j0 j1 hp hms
        refine hs (f := dm_lld 20 5) rfl rfl ?_
        refine hs (f := dm_push 23 (.long 1152921504606846976)) rfl rfl ?_
        refine g_lc_ge (x := p) (y := (1152921504606846976 : Int64)) (m := 24) (n := 27) (tt := 149) rfl rfl (fun h36 => ?_) (fun h36 => ?_)
        · skip
          have h36 : p.toInt ≥ 1152921504606846976 := h36
          refine hs (f := dm_push 150 (.int 1)) rfl rfl ?_
          exact h_retB rfl isB_1 (⟨rfl, by first | exact Or.inl ⟨rfl, trivial⟩ | exact Or.inr ⟨rfl, trivial⟩⟩)
        · skip
          have h36 : p.toInt < 1152921504606846976 := h36
          obtain ⟨i2, j2⟩ := hp (by clear hms; omega)
          have jm : ∀ (ei ej p2 : Int64) (M : dm_Mem), Rm X q M → (ei.toInt < 1152921504606846976 → i.toInt + 1 < rA (q.2.2.1 73) (a.toInt + 1)) → (ej.toInt < 1152921504606846976 → j.toInt + 1 < rA (q.2.2.1 73) (b.toInt + 1)) → ((p2.toInt = ei.toInt ∧ ei.toInt < ej.toInt) ∨ (p2.toInt = ej.toInt ∧ ej.toInt ≤ ei.toInt)) → hG 0 cd_173 122 [(9, .long ej), (7, .long ei), (3, .int i), (5, .long p), (4, .int j), (0, .ref 68), (1, .int a), (2, .int b)] [.long p2] M (fun r M' => M' = M ∧ ((r = some (.int 1) ∧ True) ∨ (r = some (.int 0) ∧ True))) := by
            intro ei ej p2 M hM hei hej hmn
            refine hs (f := dm_lst 124 5) (lv' := [(5, .long p2), (9, .long ej), (7, .long ei), (3, .int i), (4, .int j), (0, .ref 68), (1, .int a), (2, .int b)]) rfl rfl ?_
            refine hs (f := dm_lld 126 7) rfl rfl ?_
            refine hs (f := dm_lld 128 5) rfl rfl ?_
            refine g_lc_ne (x := ei) (y := p2) (m := 129) (n := 132) (tt := 135) rfl rfl (fun h37 => ?_) (fun h37 => ?_)
            · skip
              have h37 : ¬ ei.toInt = p2.toInt := h37
              refine hs (f := dm_lld 137 9) rfl rfl ?_
              refine hs (f := dm_lld 139 5) rfl rfl ?_
              refine g_lc_ne (x := ej) (y := p2) (m := 140) (n := 143) (tt := 146) rfl rfl (fun h38 => ?_) (fun h38 => ?_)
              · skip
                have h38 : ¬ ej.toInt = p2.toInt := h38
                refine hs (f := dm_goto 18) rfl rfl ?_
                exfalso
                clear hms
                omega
              · skip
                have h38 : ej.toInt = p2.toInt := h38
                have e39 : (j + 1).toInt = j.toInt + 1 := by have w := i_addc (x := j) (y := 1) 1 rfl (by omega) (by omega); omega
                refine hs (f := dm_iinc 146 4 1) (lv' := [(4, .int (j + 1)), (5, .long p2), (9, .long ej), (7, .long ei), (3, .int i), (0, .ref 68), (1, .int a), (2, .int b)]) rfl rfl ?_
                refine hs (f := dm_goto 18) rfl rfl ?_
                have hdec : (rA (q.2.2.1 73) (a.toInt + 1) - i.toInt).toNat + (rA (q.2.2.1 73) (b.toInt + 1) - (j + 1).toInt).toNat < nn := by rw [e39]; exact (tg_dec hms i2 j2).2.1
                exact (IH _ hdec).2.2.1 i (j + 1) p2 ei ej _ hM (by clear hms; omega) (by clear hms; omega) (by clear hms; omega) (by clear hms; omega) (by clear hms; omega) rfl
            · skip
              have h37 : ei.toInt = p2.toInt := h37
              have e40 : (i + 1).toInt = i.toInt + 1 := by have w := i_addc (x := i) (y := 1) 1 rfl (by omega) (by omega); omega
              refine hs (f := dm_iinc 135 3 1) (lv' := [(3, .int (i + 1)), (5, .long p2), (9, .long ej), (7, .long ei), (4, .int j), (0, .ref 68), (1, .int a), (2, .int b)]) rfl rfl ?_
              refine hs (f := dm_lld 137 9) rfl rfl ?_
              refine hs (f := dm_lld 139 5) rfl rfl ?_
              refine g_lc_ne (x := ej) (y := p2) (m := 140) (n := 143) (tt := 146) rfl rfl (fun h41 => ?_) (fun h41 => ?_)
              · skip
                have h41 : ¬ ej.toInt = p2.toInt := h41
                refine hs (f := dm_goto 18) rfl rfl ?_
                have hdec : (rA (q.2.2.1 73) (a.toInt + 1) - (i + 1).toInt).toNat + (rA (q.2.2.1 73) (b.toInt + 1) - j.toInt).toNat < nn := by rw [e40]; exact (tg_dec hms i2 j2).1
                exact (IH _ hdec).2.1 (i + 1) j p2 ei ej _ hM (by clear hms; omega) (by clear hms; omega) (by clear hms; omega) (by clear hms; omega) (by clear hms; omega) rfl
              · skip
                have h41 : ej.toInt = p2.toInt := h41
                have e42 : (j + 1).toInt = j.toInt + 1 := by have w := i_addc (x := j) (y := 1) 1 rfl (by omega) (by omega); omega
                refine hs (f := dm_iinc 146 4 1) (lv' := [(4, .int (j + 1)), (3, .int (i + 1)), (5, .long p2), (9, .long ej), (7, .long ei), (0, .ref 68), (1, .int a), (2, .int b)]) rfl rfl ?_
                refine hs (f := dm_goto 18) rfl rfl ?_
                have hdec : (rA (q.2.2.1 73) (a.toInt + 1) - (i + 1).toInt).toNat + (rA (q.2.2.1 73) (b.toInt + 1) - (j + 1).toInt).toNat < nn := by rw [e40, e42]; exact (tg_dec hms i2 j2).2.2
                exact (IH _ hdec).2.2.2 (i + 1) (j + 1) p2 ei ej _ hM (by clear hms; omega) (by clear hms; omega) (by clear hms; omega) (by clear hms; omega) (by clear hms; omega) rfl
          have j9 : ∀ (ei ej : Int64) (M : dm_Mem), Rm X q M → (ei.toInt < 1152921504606846976 → i.toInt + 1 < rA (q.2.2.1 73) (a.toInt + 1)) → (ej.toInt < 1152921504606846976 → j.toInt + 1 < rA (q.2.2.1 73) (b.toInt + 1)) → hG 0 cd_173 105 [(7, .long ei), (3, .int i), (5, .long p), (9, .long e9), (4, .int j), (0, .ref 68), (1, .int a), (2, .int b)] [.long ej] M (fun r M' => M' = M ∧ ((r = some (.int 1) ∧ True) ∨ (r = some (.int 0) ∧ True))) := by
            intro ei ej M hM hei hej
            refine hs (f := dm_lst 107 9) (lv' := [(9, .long ej), (7, .long ei), (3, .int i), (5, .long p), (4, .int j), (0, .ref 68), (1, .int a), (2, .int b)]) rfl rfl ?_
            refine hs (f := dm_lld 109 7) rfl rfl ?_
            refine hs (f := dm_lld 111 9) rfl rfl ?_
            refine g_lc_ge (x := ei) (y := ej) (m := 112) (n := 115) (tt := 120) rfl rfl (fun h43 => ?_) (fun h43 => ?_)
            · skip
              have h43 : ei.toInt ≥ ej.toInt := h43
              refine hs (f := dm_lld 122 9) rfl rfl ?_
              exact jm ei ej ej _ hM hei hej (by clear hms; omega)
            · skip
              have h43 : ei.toInt < ej.toInt := h43
              refine hs (f := dm_lld 117 7) rfl rfl ?_
              refine hs (f := dm_goto 122) rfl rfl ?_
              exact jm ei ej ei _ hM hei hej (by clear hms; omega)
          have j7 : ∀ (ei : Int64) (M : dm_Mem), Rm X q M → (ei.toInt < 1152921504606846976 → i.toInt + 1 < rA (q.2.2.1 73) (a.toInt + 1)) → hG 0 cd_173 73 [(3, .int i), (5, .long p), (9, .long e9), (7, .long e7), (4, .int j), (0, .ref 68), (1, .int a), (2, .int b)] [.long ei] M (fun r M' => M' = M ∧ ((r = some (.int 1) ∧ True) ∨ (r = some (.int 0) ∧ True))) := by
            intro ei M hM hei
            refine hs (f := dm_lst 75 7) (lv' := [(7, .long ei), (3, .int i), (5, .long p), (9, .long e9), (4, .int j), (0, .ref 68), (1, .int a), (2, .int b)]) rfl rfl ?_
            refine hs (f := dm_ild 77 4) rfl rfl ?_
            refine hs (f := dm_push 78 (.int 1)) rfl rfl ?_
            have e44 : (j + (1 : Int32)).toInt = j.toInt + 1 := by have w := i_addc (x := j) (y := (1 : Int32)) 1 rfl (by omega) (by omega); omega
            refine hs (f := dm_ii 79 (fun x y => x + y)) (st' := [.int (j + (1 : Int32))]) rfl rfl ?_
            refine hs (f := dm_ald 80 0) rfl rfl ?_
            refine r_geta (c := 70) rfl hM rfl ?_
            refine hs (f := dm_ild 84 2) rfl rfl ?_
            refine hs (f := dm_push 85 (.int 1)) rfl rfl ?_
            have e45 : (b + (1 : Int32)).toInt = b.toInt + 1 := by have w := i_addc (x := b) (y := (1 : Int32)) 1 rfl (by omega) (by omega); omega
            refine hs (f := dm_ii 86 (fun x y => x + y)) (st' := [.int (b + (1 : Int32)), .ref 73, .int (j + (1 : Int32))]) rfl rfl ?_
            refine r_iald (L := 1001) (i := (b + (1 : Int32))) ((q.2.2.1 73) (b + (1 : Int32)).toInt.toNat) rfl hM rfl (by omega) rfl ?_
            generalize g47 : (q.2.2.1 73) (b + (1 : Int32)).toInt.toNat = v46
            have x48 : v46.toInt = rA (q.2.2.1 73) (b.toInt + 1) := rA_of (i := (b + (1 : Int32))) g47 e45
            refine g_ic_ge (n := 90) (tt := 102) rfl (fun h49 => ?_) (fun h49 => ?_)
            · skip
              have h49 : (j + (1 : Int32)).toInt ≥ v46.toInt := h49
              refine hs (f := dm_push 105 (.long 1152921504606846976)) rfl rfl ?_
              exact j9 ei (1152921504606846976 : Int64) _ hM hei (by intro z; clear hms; first | omega | exact absurd z (by decide))
            · skip
              have h49 : (j + (1 : Int32)).toInt < v46.toInt := h49
              refine hs (f := dm_ald 91 0) rfl rfl ?_
              refine r_geta (c := 66) rfl hM rfl ?_
              refine hs (f := dm_ild 96 4) rfl rfl ?_
              refine hs (f := dm_push 97 (.int 1)) rfl rfl ?_
              have e50 : (j + (1 : Int32)).toInt = j.toInt + 1 := by have w := i_addc (x := j) (y := (1 : Int32)) 1 rfl (by omega) (by omega); omega
              refine hs (f := dm_ii 98 (fun x y => x + y)) (st' := [.int (j + (1 : Int32)), .ref 69]) rfl rfl ?_
              refine r_lald (L := 24000) (i := (j + (1 : Int32))) ((q.2.2.2 69) (j + (1 : Int32)).toInt.toNat) rfl hM rfl (by omega) rfl ?_
              generalize g52 : (q.2.2.2 69) (j + (1 : Int32)).toInt.toNat = v51
              have x53 : v51.toInt = rB (q.2.2.2 69) (j.toInt + 1) := rB_of (i := (j + (1 : Int32))) g52 e50
              refine hs (f := dm_goto 105) rfl rfl ?_
              exact j9 ei v51 _ hM hei (by intro z; clear hms; first | omega | exact absurd z (by decide))
          refine hs (f := dm_ald 28 0) rfl rfl ?_
          refine r_geta (c := 67) rfl hM rfl ?_
          refine hs (f := dm_ild 32 3) rfl rfl ?_
          refine r_iald (L := 24000) (i := i) ((q.2.2.1 70) i.toInt.toNat) rfl hM rfl (by omega) rfl ?_
          generalize g55 : (q.2.2.1 70) i.toInt.toNat = v54
          have x56 : v54.toInt = rA (q.2.2.1 70) i.toInt := rA_of (i := i) g55 rfl
          refine hs (f := dm_ald 34 0) rfl rfl ?_
          refine r_geta (c := 67) rfl hM rfl ?_
          refine hs (f := dm_ild 39 4) rfl rfl ?_
          refine r_iald (L := 24000) (i := j) ((q.2.2.1 70) j.toInt.toNat) rfl hM rfl (by omega) rfl ?_
          generalize g58 : (q.2.2.1 70) j.toInt.toNat = v57
          have x59 : v57.toInt = rA (q.2.2.1 70) j.toInt := rA_of (i := j) g58 rfl
          refine g_ic_le (n := 43) (tt := 45) rfl (fun h60 => ?_) (fun h60 => ?_)
          · skip
            have h60 : v54.toInt ≤ v57.toInt := h60
            refine hs (f := dm_ild 46 3) rfl rfl ?_
            refine hs (f := dm_push 47 (.int 1)) rfl rfl ?_
            have e61 : (i + (1 : Int32)).toInt = i.toInt + 1 := by have w := i_addc (x := i) (y := (1 : Int32)) 1 rfl (by omega) (by omega); omega
            refine hs (f := dm_ii 48 (fun x y => x + y)) (st' := [.int (i + (1 : Int32))]) rfl rfl ?_
            refine hs (f := dm_ald 49 0) rfl rfl ?_
            refine r_geta (c := 70) rfl hM rfl ?_
            refine hs (f := dm_ild 53 1) rfl rfl ?_
            refine hs (f := dm_push 54 (.int 1)) rfl rfl ?_
            have e62 : (a + (1 : Int32)).toInt = a.toInt + 1 := by have w := i_addc (x := a) (y := (1 : Int32)) 1 rfl (by omega) (by omega); omega
            refine hs (f := dm_ii 55 (fun x y => x + y)) (st' := [.int (a + (1 : Int32)), .ref 73, .int (i + (1 : Int32))]) rfl rfl ?_
            refine r_iald (L := 1001) (i := (a + (1 : Int32))) ((q.2.2.1 73) (a + (1 : Int32)).toInt.toNat) rfl hM rfl (by omega) rfl ?_
            generalize g64 : (q.2.2.1 73) (a + (1 : Int32)).toInt.toNat = v63
            have x65 : v63.toInt = rA (q.2.2.1 73) (a.toInt + 1) := rA_of (i := (a + (1 : Int32))) g64 e62
            refine g_ic_ge (n := 59) (tt := 70) rfl (fun h66 => ?_) (fun h66 => ?_)
            · skip
              have h66 : (i + (1 : Int32)).toInt ≥ v63.toInt := h66
              refine hs (f := dm_push 73 (.long 1152921504606846976)) rfl rfl ?_
              exact j7 (1152921504606846976 : Int64) _ hM (by intro z; clear hms; first | omega | exact absurd z (by decide))
            · skip
              have h66 : (i + (1 : Int32)).toInt < v63.toInt := h66
              refine hs (f := dm_ald 60 0) rfl rfl ?_
              refine r_geta (c := 66) rfl hM rfl ?_
              refine hs (f := dm_ild 64 3) rfl rfl ?_
              refine hs (f := dm_push 65 (.int 1)) rfl rfl ?_
              have e67 : (i + (1 : Int32)).toInt = i.toInt + 1 := by have w := i_addc (x := i) (y := (1 : Int32)) 1 rfl (by omega) (by omega); omega
              refine hs (f := dm_ii 66 (fun x y => x + y)) (st' := [.int (i + (1 : Int32)), .ref 69]) rfl rfl ?_
              refine r_lald (L := 24000) (i := (i + (1 : Int32))) ((q.2.2.2 69) (i + (1 : Int32)).toInt.toNat) rfl hM rfl (by omega) rfl ?_
              generalize g69 : (q.2.2.2 69) (i + (1 : Int32)).toInt.toNat = v68
              have x70 : v68.toInt = rB (q.2.2.2 69) (i.toInt + 1) := rB_of (i := (i + (1 : Int32))) g69 e67
              refine hs (f := dm_goto 73) rfl rfl ?_
              exact j7 v68 _ hM (by intro z; clear hms; first | omega | exact absurd z (by decide))
          · skip
            have h60 : v54.toInt > v57.toInt := h60
            refine hs (f := dm_push 44 (.int 0)) rfl rfl ?_
            exact h_retB rfl isB_0 (⟨rfl, by first | exact Or.inl ⟨rfl, trivial⟩ | exact Or.inr ⟨rfl, trivial⟩⟩)
      · skip
        intro i j p e7 e9 M hM i0 i1 j0 j1 hp hms
        refine hs (f := dm_lld 20 5) rfl rfl ?_
        refine hs (f := dm_push 23 (.long 1152921504606846976)) rfl rfl ?_
        refine g_lc_ge (x := p) (y := (1152921504606846976 : Int64)) (m := 24) (n := 27) (tt := 149) rfl rfl (fun h71 => ?_) (fun h71 => ?_)
        · skip
          have h71 : p.toInt ≥ 1152921504606846976 := h71
          refine hs (f := dm_push 150 (.int 1)) rfl rfl ?_
          exact h_retB rfl isB_1 (⟨rfl, by first | exact Or.inl ⟨rfl, trivial⟩ | exact Or.inr ⟨rfl, trivial⟩⟩)
        · skip
          have h71 : p.toInt < 1152921504606846976 := h71
          obtain ⟨i2, j2⟩ := hp (by clear hms; omega)
          have jm : ∀ (ei ej p2 : Int64) (M : dm_Mem), Rm X q M → (ei.toInt < 1152921504606846976 → i.toInt + 1 < rA (q.2.2.1 73) (a.toInt + 1)) → (ej.toInt < 1152921504606846976 → j.toInt + 1 < rA (q.2.2.1 73) (b.toInt + 1)) → ((p2.toInt = ei.toInt ∧ ei.toInt < ej.toInt) ∨ (p2.toInt = ej.toInt ∧ ej.toInt ≤ ei.toInt)) → hG 0 cd_173 122 [(9, .long ej), (7, .long ei), (4, .int j), (5, .long p), (3, .int i), (0, .ref 68), (1, .int a), (2, .int b)] [.long p2] M (fun r M' => M' = M ∧ ((r = some (.int 1) ∧ True) ∨ (r = some (.int 0) ∧ True))) := by
            intro ei ej p2 M hM hei hej hmn
            refine hs (f := dm_lst 124 5) (lv' := [(5, .long p2), (9, .long ej), (7, .long ei), (4, .int j), (3, .int i), (0, .ref 68), (1, .int a), (2, .int b)]) rfl rfl ?_
            refine hs (f := dm_lld 126 7) rfl rfl ?_
            refine hs (f := dm_lld 128 5) rfl rfl ?_
            refine g_lc_ne (x := ei) (y := p2) (m := 129) (n := 132) (tt := 135) rfl rfl (fun h72 => ?_) (fun h72 => ?_)
            · skip
              have h72 : ¬ ei.toInt = p2.toInt := h72
              refine hs (f := dm_lld 137 9) rfl rfl ?_
              refine hs (f := dm_lld 139 5) rfl rfl ?_
              refine g_lc_ne (x := ej) (y := p2) (m := 140) (n := 143) (tt := 146) rfl rfl (fun h73 => ?_) (fun h73 => ?_)
              · skip
                have h73 : ¬ ej.toInt = p2.toInt := h73
                refine hs (f := dm_goto 18) rfl rfl ?_
                exfalso
                clear hms
                omega
              · skip
                have h73 : ej.toInt = p2.toInt := h73
                have e74 : (j + 1).toInt = j.toInt + 1 := by have w := i_addc (x := j) (y := 1) 1 rfl (by omega) (by omega); omega
                refine hs (f := dm_iinc 146 4 1) (lv' := [(4, .int (j + 1)), (5, .long p2), (9, .long ej), (7, .long ei), (3, .int i), (0, .ref 68), (1, .int a), (2, .int b)]) rfl rfl ?_
                refine hs (f := dm_goto 18) rfl rfl ?_
                have hdec : (rA (q.2.2.1 73) (a.toInt + 1) - i.toInt).toNat + (rA (q.2.2.1 73) (b.toInt + 1) - (j + 1).toInt).toNat < nn := by rw [e74]; exact (tg_dec hms i2 j2).2.1
                exact (IH _ hdec).2.2.1 i (j + 1) p2 ei ej _ hM (by clear hms; omega) (by clear hms; omega) (by clear hms; omega) (by clear hms; omega) (by clear hms; omega) rfl
            · skip
              have h72 : ei.toInt = p2.toInt := h72
              have e75 : (i + 1).toInt = i.toInt + 1 := by have w := i_addc (x := i) (y := 1) 1 rfl (by omega) (by omega); omega
              refine hs (f := dm_iinc 135 3 1) (lv' := [(3, .int (i + 1)), (5, .long p2), (9, .long ej), (7, .long ei), (4, .int j), (0, .ref 68), (1, .int a), (2, .int b)]) rfl rfl ?_
              refine hs (f := dm_lld 137 9) rfl rfl ?_
              refine hs (f := dm_lld 139 5) rfl rfl ?_
              refine g_lc_ne (x := ej) (y := p2) (m := 140) (n := 143) (tt := 146) rfl rfl (fun h76 => ?_) (fun h76 => ?_)
              · skip
                have h76 : ¬ ej.toInt = p2.toInt := h76
                refine hs (f := dm_goto 18) rfl rfl ?_
                have hdec : (rA (q.2.2.1 73) (a.toInt + 1) - (i + 1).toInt).toNat + (rA (q.2.2.1 73) (b.toInt + 1) - j.toInt).toNat < nn := by rw [e75]; exact (tg_dec hms i2 j2).1
                exact (IH _ hdec).2.1 (i + 1) j p2 ei ej _ hM (by clear hms; omega) (by clear hms; omega) (by clear hms; omega) (by clear hms; omega) (by clear hms; omega) rfl
              · skip
                have h76 : ej.toInt = p2.toInt := h76
                have e77 : (j + 1).toInt = j.toInt + 1 := by have w := i_addc (x := j) (y := 1) 1 rfl (by omega) (by omega); omega
                refine hs (f := dm_iinc 146 4 1) (lv' := [(4, .int (j + 1)), (3, .int (i + 1)), (5, .long p2), (9, .long ej), (7, .long ei), (0, .ref 68), (1, .int a), (2, .int b)]) rfl rfl ?_
                refine hs (f := dm_goto 18) rfl rfl ?_
                have hdec : (rA (q.2.2.1 73) (a.toInt + 1) - (i + 1).toInt).toNat + (rA (q.2.2.1 73) (b.toInt + 1) - (j + 1).toInt).toNat < nn := by rw [e75, e77]; exact (tg_dec hms i2 j2).2.2
                exact (IH _ hdec).2.2.2 (i + 1) (j + 1) p2 ei ej _ hM (by clear hms; omega) (by clear hms; omega) (by clear hms; omega) (by clear hms; omega) (by clear hms; omega) rfl
          have j9 : ∀ (ei ej : Int64) (M : dm_Mem), Rm X q M → (ei.toInt < 1152921504606846976 → i.toInt + 1 < rA (q.2.2.1 73) (a.toInt + 1)) → (ej.toInt < 1152921504606846976 → j.toInt + 1 < rA (q.2.2.1 73) (b.toInt + 1)) → hG 0 cd_173 105 [(7, .long ei), (4, .int j), (5, .long p), (9, .long e9), (3, .int i), (0, .ref 68), (1, .int a), (2, .int b)] [.long ej] M (fun r M' => M' = M ∧ ((r = some (.int 1) ∧ True) ∨ (r = some (.int 0) ∧ True))) := by
            intro ei ej M hM hei hej
            refine hs (f := dm_lst 107 9) (lv' := [(9, .long ej), (7, .long ei), (4, .int j), (5, .long p), (3, .int i), (0, .ref 68), (1, .int a), (2, .int b)]) rfl rfl ?_
            refine hs (f := dm_lld 109 7) rfl rfl ?_
            refine hs (f := dm_lld 111 9) rfl rfl ?_
            refine g_lc_ge (x := ei) (y := ej) (m := 112) (n := 115) (tt := 120) rfl rfl (fun h78 => ?_) (fun h78 => ?_)
            · skip
              have h78 : ei.toInt ≥ ej.toInt := h78
              refine hs (f := dm_lld 122 9) rfl rfl ?_
              exact jm ei ej ej _ hM hei hej (by clear hms; omega)
            · skip
              have h78 : ei.toInt < ej.toInt := h78
              refine hs (f := dm_lld 117 7) rfl rfl ?_
              refine hs (f := dm_goto 122) rfl rfl ?_
              exact jm ei ej ei _ hM hei hej (by clear hms; omega)
          have j7 : ∀ (ei : Int64) (M : dm_Mem), Rm X q M → (ei.toInt < 1152921504606846976 → i.toInt + 1 < rA (q.2.2.1 73) (a.toInt + 1)) → hG 0 cd_173 73 [(4, .int j), (5, .long p), (9, .long e9), (7, .long e7), (3, .int i), (0, .ref 68), (1, .int a), (2, .int b)] [.long ei] M (fun r M' => M' = M ∧ ((r = some (.int 1) ∧ True) ∨ (r = some (.int 0) ∧ True))) := by
            intro ei M hM hei
            refine hs (f := dm_lst 75 7) (lv' := [(7, .long ei), (4, .int j), (5, .long p), (9, .long e9), (3, .int i), (0, .ref 68), (1, .int a), (2, .int b)]) rfl rfl ?_
            refine hs (f := dm_ild 77 4) rfl rfl ?_
            refine hs (f := dm_push 78 (.int 1)) rfl rfl ?_
            have e79 : (j + (1 : Int32)).toInt = j.toInt + 1 := by have w := i_addc (x := j) (y := (1 : Int32)) 1 rfl (by omega) (by omega); omega
            refine hs (f := dm_ii 79 (fun x y => x + y)) (st' := [.int (j + (1 : Int32))]) rfl rfl ?_
            refine hs (f := dm_ald 80 0) rfl rfl ?_
            refine r_geta (c := 70) rfl hM rfl ?_
            refine hs (f := dm_ild 84 2) rfl rfl ?_
            refine hs (f := dm_push 85 (.int 1)) rfl rfl ?_
            have e80 : (b + (1 : Int32)).toInt = b.toInt + 1 := by have w := i_addc (x := b) (y := (1 : Int32)) 1 rfl (by omega) (by omega); omega
            refine hs (f := dm_ii 86 (fun x y => x + y)) (st' := [.int (b + (1 : Int32)), .ref 73, .int (j + (1 : Int32))]) rfl rfl ?_
            refine r_iald (L := 1001) (i := (b + (1 : Int32))) ((q.2.2.1 73) (b + (1 : Int32)).toInt.toNat) rfl hM rfl (by omega) rfl ?_
            generalize g82 : (q.2.2.1 73) (b + (1 : Int32)).toInt.toNat = v81
            have x83 : v81.toInt = rA (q.2.2.1 73) (b.toInt + 1) := rA_of (i := (b + (1 : Int32))) g82 e80
            refine g_ic_ge (n := 90) (tt := 102) rfl (fun h84 => ?_) (fun h84 => ?_)
            · skip
              have h84 : (j + (1 : Int32)).toInt ≥ v81.toInt := h84
              refine hs (f := dm_push 105 (.long 1152921504606846976)) rfl rfl ?_
              exact j9 ei (1152921504606846976 : Int64) _ hM hei (by intro z; clear hms; first | omega | exact absurd z (by decide))
            · skip
              have h84 : (j + (1 : Int32)).toInt < v81.toInt := h84
              refine hs (f := dm_ald 91 0) rfl rfl ?_
              refine r_geta (c := 66) rfl hM rfl ?_
              refine hs (f := dm_ild 96 4) rfl rfl ?_
              refine hs (f := dm_push 97 (.int 1)) rfl rfl ?_
              have e85 : (j + (1 : Int32)).toInt = j.toInt + 1 := by have w := i_addc (x := j) (y := (1 : Int32)) 1 rfl (by omega) (by omega); omega
              refine hs (f := dm_ii 98 (fun x y => x + y)) (st' := [.int (j + (1 : Int32)), .ref 69]) rfl rfl ?_
              refine r_lald (L := 24000) (i := (j + (1 : Int32))) ((q.2.2.2 69) (j + (1 : Int32)).toInt.toNat) rfl hM rfl (by omega) rfl ?_
              generalize g87 : (q.2.2.2 69) (j + (1 : Int32)).toInt.toNat = v86
              have x88 : v86.toInt = rB (q.2.2.2 69) (j.toInt + 1) := rB_of (i := (j + (1 : Int32))) g87 e85
              refine hs (f := dm_goto 105) rfl rfl ?_
              exact j9 ei v86 _ hM hei (by intro z; clear hms; first | omega | exact absurd z (by decide))
          refine hs (f := dm_ald 28 0) rfl rfl ?_
          refine r_geta (c := 67) rfl hM rfl ?_
          refine hs (f := dm_ild 32 3) rfl rfl ?_
          refine r_iald (L := 24000) (i := i) ((q.2.2.1 70) i.toInt.toNat) rfl hM rfl (by omega) rfl ?_
          generalize g90 : (q.2.2.1 70) i.toInt.toNat = v89
          have x91 : v89.toInt = rA (q.2.2.1 70) i.toInt := rA_of (i := i) g90 rfl
          refine hs (f := dm_ald 34 0) rfl rfl ?_
          refine r_geta (c := 67) rfl hM rfl ?_
          refine hs (f := dm_ild 39 4) rfl rfl ?_
          refine r_iald (L := 24000) (i := j) ((q.2.2.1 70) j.toInt.toNat) rfl hM rfl (by omega) rfl ?_
          generalize g93 : (q.2.2.1 70) j.toInt.toNat = v92
          have x94 : v92.toInt = rA (q.2.2.1 70) j.toInt := rA_of (i := j) g93 rfl
          refine g_ic_le (n := 43) (tt := 45) rfl (fun h95 => ?_) (fun h95 => ?_)
          · skip
            have h95 : v89.toInt ≤ v92.toInt := h95
            refine hs (f := dm_ild 46 3) rfl rfl ?_
            refine hs (f := dm_push 47 (.int 1)) rfl rfl ?_
            have e96 : (i + (1 : Int32)).toInt = i.toInt + 1 := by have w := i_addc (x := i) (y := (1 : Int32)) 1 rfl (by omega) (by omega); omega
            refine hs (f := dm_ii 48 (fun x y => x + y)) (st' := [.int (i + (1 : Int32))]) rfl rfl ?_
            refine hs (f := dm_ald 49 0) rfl rfl ?_
            refine r_geta (c := 70) rfl hM rfl ?_
            refine hs (f := dm_ild 53 1) rfl rfl ?_
            refine hs (f := dm_push 54 (.int 1)) rfl rfl ?_
            have e97 : (a + (1 : Int32)).toInt = a.toInt + 1 := by have w := i_addc (x := a) (y := (1 : Int32)) 1 rfl (by omega) (by omega); omega
            refine hs (f := dm_ii 55 (fun x y => x + y)) (st' := [.int (a + (1 : Int32)), .ref 73, .int (i + (1 : Int32))]) rfl rfl ?_
            refine r_iald (L := 1001) (i := (a + (1 : Int32))) ((q.2.2.1 73) (a + (1 : Int32)).toInt.toNat) rfl hM rfl (by omega) rfl ?_
            generalize g99 : (q.2.2.1 73) (a + (1 : Int32)).toInt.toNat = v98
            have x100 : v98.toInt = rA (q.2.2.1 73) (a.toInt + 1) := rA_of (i := (a + (1 : Int32))) g99 e97
            refine g_ic_ge (n := 59) (tt := 70) rfl (fun h101 => ?_) (fun h101 => ?_)
            · skip
              have h101 : (i + (1 : Int32)).toInt ≥ v98.toInt := h101
              refine hs (f := dm_push 73 (.long 1152921504606846976)) rfl rfl ?_
              exact j7 (1152921504606846976 : Int64) _ hM (by intro z; clear hms; first | omega | exact absurd z (by decide))
            · skip
              have h101 : (i + (1 : Int32)).toInt < v98.toInt := h101
              refine hs (f := dm_ald 60 0) rfl rfl ?_
              refine r_geta (c := 66) rfl hM rfl ?_
              refine hs (f := dm_ild 64 3) rfl rfl ?_
              refine hs (f := dm_push 65 (.int 1)) rfl rfl ?_
              have e102 : (i + (1 : Int32)).toInt = i.toInt + 1 := by have w := i_addc (x := i) (y := (1 : Int32)) 1 rfl (by omega) (by omega); omega
              refine hs (f := dm_ii 66 (fun x y => x + y)) (st' := [.int (i + (1 : Int32)), .ref 69]) rfl rfl ?_
              refine r_lald (L := 24000) (i := (i + (1 : Int32))) ((q.2.2.2 69) (i + (1 : Int32)).toInt.toNat) rfl hM rfl (by omega) rfl ?_
              generalize g104 : (q.2.2.2 69) (i + (1 : Int32)).toInt.toNat = v103
              have x105 : v103.toInt = rB (q.2.2.2 69) (i.toInt + 1) := rB_of (i := (i + (1 : Int32))) g104 e102
              refine hs (f := dm_goto 73) rfl rfl ?_
              exact j7 v103 _ hM (by intro z; clear hms; first | omega | exact absurd z (by decide))
          · skip
            have h95 : v89.toInt > v92.toInt := h95
            refine hs (f := dm_push 44 (.int 0)) rfl rfl ?_
            exact h_retB rfl isB_0 (⟨rfl, by first | exact Or.inl ⟨rfl, trivial⟩ | exact Or.inr ⟨rfl, trivial⟩⟩)
      · skip
        intro i j p e7 e9 M hM i0 i1 j0 j1 hp hms
        refine hs (f := dm_lld 20 5) rfl rfl ?_
        refine hs (f := dm_push 23 (.long 1152921504606846976)) rfl rfl ?_
        refine g_lc_ge (x := p) (y := (1152921504606846976 : Int64)) (m := 24) (n := 27) (tt := 149) rfl rfl (fun h106 => ?_) (fun h106 => ?_)
        · skip
          have h106 : p.toInt ≥ 1152921504606846976 := h106
          refine hs (f := dm_push 150 (.int 1)) rfl rfl ?_
          exact h_retB rfl isB_1 (⟨rfl, by first | exact Or.inl ⟨rfl, trivial⟩ | exact Or.inr ⟨rfl, trivial⟩⟩)
        · skip
          have h106 : p.toInt < 1152921504606846976 := h106
          obtain ⟨i2, j2⟩ := hp (by clear hms; omega)
          have jm : ∀ (ei ej p2 : Int64) (M : dm_Mem), Rm X q M → (ei.toInt < 1152921504606846976 → i.toInt + 1 < rA (q.2.2.1 73) (a.toInt + 1)) → (ej.toInt < 1152921504606846976 → j.toInt + 1 < rA (q.2.2.1 73) (b.toInt + 1)) → ((p2.toInt = ei.toInt ∧ ei.toInt < ej.toInt) ∨ (p2.toInt = ej.toInt ∧ ej.toInt ≤ ei.toInt)) → hG 0 cd_173 122 [(9, .long ej), (7, .long ei), (4, .int j), (3, .int i), (5, .long p), (0, .ref 68), (1, .int a), (2, .int b)] [.long p2] M (fun r M' => M' = M ∧ ((r = some (.int 1) ∧ True) ∨ (r = some (.int 0) ∧ True))) := by
            intro ei ej p2 M hM hei hej hmn
            refine hs (f := dm_lst 124 5) (lv' := [(5, .long p2), (9, .long ej), (7, .long ei), (4, .int j), (3, .int i), (0, .ref 68), (1, .int a), (2, .int b)]) rfl rfl ?_
            refine hs (f := dm_lld 126 7) rfl rfl ?_
            refine hs (f := dm_lld 128 5) rfl rfl ?_
            refine g_lc_ne (x := ei) (y := p2) (m := 129) (n := 132) (tt := 135) rfl rfl (fun h107 => ?_) (fun h107 => ?_)
            · skip
              have h107 : ¬ ei.toInt = p2.toInt := h107
              refine hs (f := dm_lld 137 9) rfl rfl ?_
              refine hs (f := dm_lld 139 5) rfl rfl ?_
              refine g_lc_ne (x := ej) (y := p2) (m := 140) (n := 143) (tt := 146) rfl rfl (fun h108 => ?_) (fun h108 => ?_)
              · skip
                have h108 : ¬ ej.toInt = p2.toInt := h108
                refine hs (f := dm_goto 18) rfl rfl ?_
                exfalso
                clear hms
                omega
              · skip
                have h108 : ej.toInt = p2.toInt := h108
                have e109 : (j + 1).toInt = j.toInt + 1 := by have w := i_addc (x := j) (y := 1) 1 rfl (by omega) (by omega); omega
                refine hs (f := dm_iinc 146 4 1) (lv' := [(4, .int (j + 1)), (5, .long p2), (9, .long ej), (7, .long ei), (3, .int i), (0, .ref 68), (1, .int a), (2, .int b)]) rfl rfl ?_
                refine hs (f := dm_goto 18) rfl rfl ?_
                have hdec : (rA (q.2.2.1 73) (a.toInt + 1) - i.toInt).toNat + (rA (q.2.2.1 73) (b.toInt + 1) - (j + 1).toInt).toNat < nn := by rw [e109]; exact (tg_dec hms i2 j2).2.1
                exact (IH _ hdec).2.2.1 i (j + 1) p2 ei ej _ hM (by clear hms; omega) (by clear hms; omega) (by clear hms; omega) (by clear hms; omega) (by clear hms; omega) rfl
            · skip
              have h107 : ei.toInt = p2.toInt := h107
              have e110 : (i + 1).toInt = i.toInt + 1 := by have w := i_addc (x := i) (y := 1) 1 rfl (by omega) (by omega); omega
              refine hs (f := dm_iinc 135 3 1) (lv' := [(3, .int (i + 1)), (5, .long p2), (9, .long ej), (7, .long ei), (4, .int j), (0, .ref 68), (1, .int a), (2, .int b)]) rfl rfl ?_
              refine hs (f := dm_lld 137 9) rfl rfl ?_
              refine hs (f := dm_lld 139 5) rfl rfl ?_
              refine g_lc_ne (x := ej) (y := p2) (m := 140) (n := 143) (tt := 146) rfl rfl (fun h111 => ?_) (fun h111 => ?_)
              · skip
                have h111 : ¬ ej.toInt = p2.toInt := h111
                refine hs (f := dm_goto 18) rfl rfl ?_
                have hdec : (rA (q.2.2.1 73) (a.toInt + 1) - (i + 1).toInt).toNat + (rA (q.2.2.1 73) (b.toInt + 1) - j.toInt).toNat < nn := by rw [e110]; exact (tg_dec hms i2 j2).1
                exact (IH _ hdec).2.1 (i + 1) j p2 ei ej _ hM (by clear hms; omega) (by clear hms; omega) (by clear hms; omega) (by clear hms; omega) (by clear hms; omega) rfl
              · skip
                have h111 : ej.toInt = p2.toInt := h111
                have e112 : (j + 1).toInt = j.toInt + 1 := by have w := i_addc (x := j) (y := 1) 1 rfl (by omega) (by omega); omega
                refine hs (f := dm_iinc 146 4 1) (lv' := [(4, .int (j + 1)), (3, .int (i + 1)), (5, .long p2), (9, .long ej), (7, .long ei), (0, .ref 68), (1, .int a), (2, .int b)]) rfl rfl ?_
                refine hs (f := dm_goto 18) rfl rfl ?_
                have hdec : (rA (q.2.2.1 73) (a.toInt + 1) - (i + 1).toInt).toNat + (rA (q.2.2.1 73) (b.toInt + 1) - (j + 1).toInt).toNat < nn := by rw [e110, e112]; exact (tg_dec hms i2 j2).2.2
                exact (IH _ hdec).2.2.2 (i + 1) (j + 1) p2 ei ej _ hM (by clear hms; omega) (by clear hms; omega) (by clear hms; omega) (by clear hms; omega) (by clear hms; omega) rfl
          have j9 : ∀ (ei ej : Int64) (M : dm_Mem), Rm X q M → (ei.toInt < 1152921504606846976 → i.toInt + 1 < rA (q.2.2.1 73) (a.toInt + 1)) → (ej.toInt < 1152921504606846976 → j.toInt + 1 < rA (q.2.2.1 73) (b.toInt + 1)) → hG 0 cd_173 105 [(7, .long ei), (4, .int j), (3, .int i), (5, .long p), (9, .long e9), (0, .ref 68), (1, .int a), (2, .int b)] [.long ej] M (fun r M' => M' = M ∧ ((r = some (.int 1) ∧ True) ∨ (r = some (.int 0) ∧ True))) := by
            intro ei ej M hM hei hej
            refine hs (f := dm_lst 107 9) (lv' := [(9, .long ej), (7, .long ei), (4, .int j), (3, .int i), (5, .long p), (0, .ref 68), (1, .int a), (2, .int b)]) rfl rfl ?_
            refine hs (f := dm_lld 109 7) rfl rfl ?_
            refine hs (f := dm_lld 111 9) rfl rfl ?_
            refine g_lc_ge (x := ei) (y := ej) (m := 112) (n := 115) (tt := 120) rfl rfl (fun h113 => ?_) (fun h113 => ?_)
            · skip
              have h113 : ei.toInt ≥ ej.toInt := h113
              refine hs (f := dm_lld 122 9) rfl rfl ?_
              exact jm ei ej ej _ hM hei hej (by clear hms; omega)
            · skip
              have h113 : ei.toInt < ej.toInt := h113
              refine hs (f := dm_lld 117 7) rfl rfl ?_
              refine hs (f := dm_goto 122) rfl rfl ?_
              exact jm ei ej ei _ hM hei hej (by clear hms; omega)
          have j7 : ∀ (ei : Int64) (M : dm_Mem), Rm X q M → (ei.toInt < 1152921504606846976 → i.toInt + 1 < rA (q.2.2.1 73) (a.toInt + 1)) → hG 0 cd_173 73 [(4, .int j), (3, .int i), (5, .long p), (9, .long e9), (7, .long e7), (0, .ref 68), (1, .int a), (2, .int b)] [.long ei] M (fun r M' => M' = M ∧ ((r = some (.int 1) ∧ True) ∨ (r = some (.int 0) ∧ True))) := by
            intro ei M hM hei
            refine hs (f := dm_lst 75 7) (lv' := [(7, .long ei), (4, .int j), (3, .int i), (5, .long p), (9, .long e9), (0, .ref 68), (1, .int a), (2, .int b)]) rfl rfl ?_
            refine hs (f := dm_ild 77 4) rfl rfl ?_
            refine hs (f := dm_push 78 (.int 1)) rfl rfl ?_
            have e114 : (j + (1 : Int32)).toInt = j.toInt + 1 := by have w := i_addc (x := j) (y := (1 : Int32)) 1 rfl (by omega) (by omega); omega
            refine hs (f := dm_ii 79 (fun x y => x + y)) (st' := [.int (j + (1 : Int32))]) rfl rfl ?_
            refine hs (f := dm_ald 80 0) rfl rfl ?_
            refine r_geta (c := 70) rfl hM rfl ?_
            refine hs (f := dm_ild 84 2) rfl rfl ?_
            refine hs (f := dm_push 85 (.int 1)) rfl rfl ?_
            have e115 : (b + (1 : Int32)).toInt = b.toInt + 1 := by have w := i_addc (x := b) (y := (1 : Int32)) 1 rfl (by omega) (by omega); omega
            refine hs (f := dm_ii 86 (fun x y => x + y)) (st' := [.int (b + (1 : Int32)), .ref 73, .int (j + (1 : Int32))]) rfl rfl ?_
            refine r_iald (L := 1001) (i := (b + (1 : Int32))) ((q.2.2.1 73) (b + (1 : Int32)).toInt.toNat) rfl hM rfl (by omega) rfl ?_
            generalize g117 : (q.2.2.1 73) (b + (1 : Int32)).toInt.toNat = v116
            have x118 : v116.toInt = rA (q.2.2.1 73) (b.toInt + 1) := rA_of (i := (b + (1 : Int32))) g117 e115
            refine g_ic_ge (n := 90) (tt := 102) rfl (fun h119 => ?_) (fun h119 => ?_)
            · skip
              have h119 : (j + (1 : Int32)).toInt ≥ v116.toInt := h119
              refine hs (f := dm_push 105 (.long 1152921504606846976)) rfl rfl ?_
              exact j9 ei (1152921504606846976 : Int64) _ hM hei (by intro z; clear hms; first | omega | exact absurd z (by decide))
            · skip
              have h119 : (j + (1 : Int32)).toInt < v116.toInt := h119
              refine hs (f := dm_ald 91 0) rfl rfl ?_
              refine r_geta (c := 66) rfl hM rfl ?_
              refine hs (f := dm_ild 96 4) rfl rfl ?_
              refine hs (f := dm_push 97 (.int 1)) rfl rfl ?_
              have e120 : (j + (1 : Int32)).toInt = j.toInt + 1 := by have w := i_addc (x := j) (y := (1 : Int32)) 1 rfl (by omega) (by omega); omega
              refine hs (f := dm_ii 98 (fun x y => x + y)) (st' := [.int (j + (1 : Int32)), .ref 69]) rfl rfl ?_
              refine r_lald (L := 24000) (i := (j + (1 : Int32))) ((q.2.2.2 69) (j + (1 : Int32)).toInt.toNat) rfl hM rfl (by omega) rfl ?_
              generalize g122 : (q.2.2.2 69) (j + (1 : Int32)).toInt.toNat = v121
              have x123 : v121.toInt = rB (q.2.2.2 69) (j.toInt + 1) := rB_of (i := (j + (1 : Int32))) g122 e120
              refine hs (f := dm_goto 105) rfl rfl ?_
              exact j9 ei v121 _ hM hei (by intro z; clear hms; first | omega | exact absurd z (by decide))
          refine hs (f := dm_ald 28 0) rfl rfl ?_
          refine r_geta (c := 67) rfl hM rfl ?_
          refine hs (f := dm_ild 32 3) rfl rfl ?_
          refine r_iald (L := 24000) (i := i) ((q.2.2.1 70) i.toInt.toNat) rfl hM rfl (by omega) rfl ?_
          generalize g125 : (q.2.2.1 70) i.toInt.toNat = v124
          have x126 : v124.toInt = rA (q.2.2.1 70) i.toInt := rA_of (i := i) g125 rfl
          refine hs (f := dm_ald 34 0) rfl rfl ?_
          refine r_geta (c := 67) rfl hM rfl ?_
          refine hs (f := dm_ild 39 4) rfl rfl ?_
          refine r_iald (L := 24000) (i := j) ((q.2.2.1 70) j.toInt.toNat) rfl hM rfl (by omega) rfl ?_
          generalize g128 : (q.2.2.1 70) j.toInt.toNat = v127
          have x129 : v127.toInt = rA (q.2.2.1 70) j.toInt := rA_of (i := j) g128 rfl
          refine g_ic_le (n := 43) (tt := 45) rfl (fun h130 => ?_) (fun h130 => ?_)
          · skip
            have h130 : v124.toInt ≤ v127.toInt := h130
            refine hs (f := dm_ild 46 3) rfl rfl ?_
            refine hs (f := dm_push 47 (.int 1)) rfl rfl ?_
            have e131 : (i + (1 : Int32)).toInt = i.toInt + 1 := by have w := i_addc (x := i) (y := (1 : Int32)) 1 rfl (by omega) (by omega); omega
            refine hs (f := dm_ii 48 (fun x y => x + y)) (st' := [.int (i + (1 : Int32))]) rfl rfl ?_
            refine hs (f := dm_ald 49 0) rfl rfl ?_
            refine r_geta (c := 70) rfl hM rfl ?_
            refine hs (f := dm_ild 53 1) rfl rfl ?_
            refine hs (f := dm_push 54 (.int 1)) rfl rfl ?_
            have e132 : (a + (1 : Int32)).toInt = a.toInt + 1 := by have w := i_addc (x := a) (y := (1 : Int32)) 1 rfl (by omega) (by omega); omega
            refine hs (f := dm_ii 55 (fun x y => x + y)) (st' := [.int (a + (1 : Int32)), .ref 73, .int (i + (1 : Int32))]) rfl rfl ?_
            refine r_iald (L := 1001) (i := (a + (1 : Int32))) ((q.2.2.1 73) (a + (1 : Int32)).toInt.toNat) rfl hM rfl (by omega) rfl ?_
            generalize g134 : (q.2.2.1 73) (a + (1 : Int32)).toInt.toNat = v133
            have x135 : v133.toInt = rA (q.2.2.1 73) (a.toInt + 1) := rA_of (i := (a + (1 : Int32))) g134 e132
            refine g_ic_ge (n := 59) (tt := 70) rfl (fun h136 => ?_) (fun h136 => ?_)
            · skip
              have h136 : (i + (1 : Int32)).toInt ≥ v133.toInt := h136
              refine hs (f := dm_push 73 (.long 1152921504606846976)) rfl rfl ?_
              exact j7 (1152921504606846976 : Int64) _ hM (by intro z; clear hms; first | omega | exact absurd z (by decide))
            · skip
              have h136 : (i + (1 : Int32)).toInt < v133.toInt := h136
              refine hs (f := dm_ald 60 0) rfl rfl ?_
              refine r_geta (c := 66) rfl hM rfl ?_
              refine hs (f := dm_ild 64 3) rfl rfl ?_
              refine hs (f := dm_push 65 (.int 1)) rfl rfl ?_
              have e137 : (i + (1 : Int32)).toInt = i.toInt + 1 := by have w := i_addc (x := i) (y := (1 : Int32)) 1 rfl (by omega) (by omega); omega
              refine hs (f := dm_ii 66 (fun x y => x + y)) (st' := [.int (i + (1 : Int32)), .ref 69]) rfl rfl ?_
              refine r_lald (L := 24000) (i := (i + (1 : Int32))) ((q.2.2.2 69) (i + (1 : Int32)).toInt.toNat) rfl hM rfl (by omega) rfl ?_
              generalize g139 : (q.2.2.2 69) (i + (1 : Int32)).toInt.toNat = v138
              have x140 : v138.toInt = rB (q.2.2.2 69) (i.toInt + 1) := rB_of (i := (i + (1 : Int32))) g139 e137
              refine hs (f := dm_goto 73) rfl rfl ?_
              exact j7 v138 _ hM (by intro z; clear hms; first | omega | exact absurd z (by decide))
          · skip
            have h130 : v124.toInt > v127.toInt := h130
            refine hs (f := dm_push 44 (.int 0)) rfl rfl ?_
            exact h_retB rfl isB_0 (⟨rfl, by first | exact Or.inl ⟨rfl, trivial⟩ | exact Or.inr ⟨rfl, trivial⟩⟩)
  refine hx (t := cd_173) rfl (Nat.le_of_ble_eq_true rfl) (lv := [(0, .ref 68), (1, .int a), (2, .int b)]) rfl ?_
  refine hs (f := dm_ald 1 0) rfl rfl ?_
  refine r_geta (c := 70) rfl hM rfl ?_
  refine hs (f := dm_ild 5 1) rfl rfl ?_
  refine r_iald (L := 1001) (i := a) ((q.2.2.1 73) a.toInt.toNat) rfl hM rfl (by omega) rfl ?_
  generalize g142 : (q.2.2.1 73) a.toInt.toNat = v141
  have x143 : v141.toInt = rA (q.2.2.1 73) a.toInt := rA_of (i := a) g142 rfl
  refine hs (f := dm_ist 7 3) (lv' := [(3, .int v141), (0, .ref 68), (1, .int a), (2, .int b)]) rfl rfl ?_
  refine hs (f := dm_ald 8 0) rfl rfl ?_
  refine r_geta (c := 70) rfl hM rfl ?_
  refine hs (f := dm_ild 12 2) rfl rfl ?_
  refine r_iald (L := 1001) (i := b) ((q.2.2.1 73) b.toInt.toNat) rfl hM rfl (by omega) rfl ?_
  generalize g145 : (q.2.2.1 73) b.toInt.toNat = v144
  have x146 : v144.toInt = rA (q.2.2.1 73) b.toInt := rA_of (i := b) g145 rfl
  refine hs (f := dm_ist 15 4) (lv' := [(4, .int v144), (3, .int v141), (0, .ref 68), (1, .int a), (2, .int b)]) rfl rfl ?_
  refine hs (f := dm_push 16 (.long 0)) rfl rfl ?_
  refine hs (f := dm_lst 18 5) (lv' := [(5, .long 0), (4, .int v144), (3, .int v141), (0, .ref 68), (1, .int a), (2, .int b)]) rfl rfl ?_
  exact (jh _).1 v141 v144 (0 : Int64) 0 0 _ hM (by omega) (by omega) (by omega) (by omega) (by intro _; omega) rfl
set_option maxHeartbeats 4000000 in
theorem r_183 {X : dm_Mem} {q : rS} {M : dm_Mem} (hM : Rm X q M) (a b : Int32) (fr : Int64) (up : Int32) (a0 : 0 ≤ a.toInt ∧ a.toInt < 1000) (b0 : 0 ≤ b.toInt ∧ b.toInt < 1000) (h0a : 0 ≤ rA (q.2.2.1 73) a.toInt) (h1a : rA (q.2.2.1 73) a.toInt < rA (q.2.2.1 73) (a.toInt + 1)) (h2a : rA (q.2.2.1 73) (a.toInt + 1) ≤ 24000) (h0b : 0 ≤ rA (q.2.2.1 73) b.toInt) (h1b : rA (q.2.2.1 73) b.toInt < rA (q.2.2.1 73) (b.toInt + 1)) (h2b : rA (q.2.2.1 73) (b.toInt + 1) ≤ 24000) : hT 1 183 [.ref 68, .int a, .int b, .long fr, .int up] M (fun r M' => M' = M ∧ ∃ v : Int64, r = some (.long v)) := by
  have jh : ∀ (nn : Nat), (∀ (i j : Int32) (p e7 e9 em : Int64) (M : dm_Mem), Rm X q M → (rA (q.2.2.1 73) a.toInt ≤ i.toInt) → (i.toInt ≤ rA (q.2.2.1 73) (a.toInt + 1)) → (rA (q.2.2.1 73) b.toInt ≤ j.toInt) → (j.toInt ≤ rA (q.2.2.1 73) (b.toInt + 1)) → (p.toInt < 1152921504606846976 → i.toInt < rA (q.2.2.1 73) (a.toInt + 1) ∧ j.toInt < rA (q.2.2.1 73) (b.toInt + 1)) → ((rA (q.2.2.1 73) (a.toInt + 1) - i.toInt).toNat + (rA (q.2.2.1 73) (b.toInt + 1) - j.toInt).toNat) = nn → hG 0 cd_183 19 [(8, .long p), (7, .int j), (6, .int i), (0, .ref 68), (1, .int a), (2, .int b), (3, .long fr), (5, .int up)] [] M (fun r M' => M' = M ∧ ∃ v : Int64, r = some (.long v))) ∧ (∀ (i j : Int32) (p e7 e9 em : Int64) (M : dm_Mem), Rm X q M → (rA (q.2.2.1 73) a.toInt ≤ i.toInt) → (i.toInt ≤ rA (q.2.2.1 73) (a.toInt + 1)) → (rA (q.2.2.1 73) b.toInt ≤ j.toInt) → (j.toInt ≤ rA (q.2.2.1 73) (b.toInt + 1)) → (p.toInt < 1152921504606846976 → i.toInt < rA (q.2.2.1 73) (a.toInt + 1) ∧ j.toInt < rA (q.2.2.1 73) (b.toInt + 1)) → ((rA (q.2.2.1 73) (a.toInt + 1) - i.toInt).toNat + (rA (q.2.2.1 73) (b.toInt + 1) - j.toInt).toNat) = nn → hG 0 cd_183 19 [(6, .int i), (8, .long p), (14, .long em), (12, .long e9), (10, .long e7), (7, .int j), (0, .ref 68), (1, .int a), (2, .int b), (3, .long fr), (5, .int up)] [] M (fun r M' => M' = M ∧ ∃ v : Int64, r = some (.long v))) ∧ (∀ (i j : Int32) (p e7 e9 em : Int64) (M : dm_Mem), Rm X q M → (rA (q.2.2.1 73) a.toInt ≤ i.toInt) → (i.toInt ≤ rA (q.2.2.1 73) (a.toInt + 1)) → (rA (q.2.2.1 73) b.toInt ≤ j.toInt) → (j.toInt ≤ rA (q.2.2.1 73) (b.toInt + 1)) → (p.toInt < 1152921504606846976 → i.toInt < rA (q.2.2.1 73) (a.toInt + 1) ∧ j.toInt < rA (q.2.2.1 73) (b.toInt + 1)) → ((rA (q.2.2.1 73) (a.toInt + 1) - i.toInt).toNat + (rA (q.2.2.1 73) (b.toInt + 1) - j.toInt).toNat) = nn → hG 0 cd_183 19 [(7, .int j), (8, .long p), (14, .long em), (12, .long e9), (10, .long e7), (6, .int i), (0, .ref 68), (1, .int a), (2, .int b), (3, .long fr), (5, .int up)] [] M (fun r M' => M' = M ∧ ∃ v : Int64, r = some (.long v))) ∧ (∀ (i j : Int32) (p e7 e9 em : Int64) (M : dm_Mem), Rm X q M → (rA (q.2.2.1 73) a.toInt ≤ i.toInt) → (i.toInt ≤ rA (q.2.2.1 73) (a.toInt + 1)) → (rA (q.2.2.1 73) b.toInt ≤ j.toInt) → (j.toInt ≤ rA (q.2.2.1 73) (b.toInt + 1)) → (p.toInt < 1152921504606846976 → i.toInt < rA (q.2.2.1 73) (a.toInt + 1) ∧ j.toInt < rA (q.2.2.1 73) (b.toInt + 1)) → ((rA (q.2.2.1 73) (a.toInt + 1) - i.toInt).toNat + (rA (q.2.2.1 73) (b.toInt + 1) - j.toInt).toNat) = nn → hG 0 cd_183 19 [(7, .int j), (6, .int i), (8, .long p), (14, .long em), (12, .long e9), (10, .long e7), (0, .ref 68), (1, .int a), (2, .int b), (3, .long fr), (5, .int up)] [] M (fun r M' => M' = M ∧ ∃ v : Int64, r = some (.long v))) := by
    intro nn
    induction nn using Nat.strongRecOn with
    | ind nn IH =>
      refine ⟨?_, ?_, ?_, ?_⟩
      · skip
        intro i j p e7 e9 em M hM i0 i1 j0 j1 hp hms
        refine hs (f := dm_lld 21 8) rfl rfl ?_
        refine hs (f := dm_push 24 (.long 1152921504606846976)) rfl rfl ?_
        refine g_lc_ge (x := p) (y := (1152921504606846976 : Int64)) (m := 25) (n := 28) (tt := 186) rfl rfl (fun h1 => ?_) (fun h1 => ?_)
        · skip
          have h1 : p.toInt ≥ 1152921504606846976 := h1
          refine hs (f := dm_push 189 (.long 1152921504606846976)) rfl rfl ?_
          exact hr (f := dm_lret) rfl rfl (⟨rfl, _, rfl⟩)
        · skip
          have h1 : p.toInt < 1152921504606846976 := h1
          obtain ⟨i2, j2⟩ := hp (by clear hms; omega)
          have jm : ∀ (ei ej p2 : Int64) (M : dm_Mem), Rm X q M → (ei.toInt < 1152921504606846976 → i.toInt + 1 < rA (q.2.2.1 73) (a.toInt + 1)) → (ej.toInt < 1152921504606846976 → j.toInt + 1 < rA (q.2.2.1 73) (b.toInt + 1)) → ((p2.toInt = ei.toInt ∧ ei.toInt < ej.toInt) ∨ (p2.toInt = ej.toInt ∧ ej.toInt ≤ ei.toInt)) → hG 0 cd_183 107 [(12, .long ej), (10, .long ei), (8, .long p), (7, .int j), (6, .int i), (0, .ref 68), (1, .int a), (2, .int b), (3, .long fr), (5, .int up)] [.long p2] M (fun r M' => M' = M ∧ ∃ v : Int64, r = some (.long v)) := by
            intro ei ej p2 M hM hei hej hmn
            refine hs (f := dm_lst 109 14) (lv' := [(14, .long p2), (12, .long ej), (10, .long ei), (8, .long p), (7, .int j), (6, .int i), (0, .ref 68), (1, .int a), (2, .int b), (3, .long fr), (5, .int up)]) rfl rfl ?_
            refine hs (f := dm_lld 111 14) rfl rfl ?_
            refine hs (f := dm_lld 112 3) rfl rfl ?_
            refine g_lc_le (x := p2) (y := fr) (m := 113) (n := 116) (tt := 157) rfl rfl (fun h2 => ?_) (fun h2 => ?_)
            · skip
              have h2 : p2.toInt ≤ fr.toInt := h2
              refine hs (f := dm_lld 159 14) rfl rfl ?_
              refine hs (f := dm_lst 161 8) (lv' := [(8, .long p2), (14, .long p2), (12, .long ej), (10, .long ei), (7, .int j), (6, .int i), (0, .ref 68), (1, .int a), (2, .int b), (3, .long fr), (5, .int up)]) rfl rfl ?_
              refine hs (f := dm_lld 163 10) rfl rfl ?_
              refine hs (f := dm_lld 165 8) rfl rfl ?_
              refine g_lc_ne (x := ei) (y := p2) (m := 166) (n := 169) (tt := 172) rfl rfl (fun h3 => ?_) (fun h3 => ?_)
              · skip
                have h3 : ¬ ei.toInt = p2.toInt := h3
                refine hs (f := dm_lld 174 12) rfl rfl ?_
                refine hs (f := dm_lld 176 8) rfl rfl ?_
                refine g_lc_ne (x := ej) (y := p2) (m := 177) (n := 180) (tt := 183) rfl rfl (fun h4 => ?_) (fun h4 => ?_)
                · skip
                  have h4 : ¬ ej.toInt = p2.toInt := h4
                  refine hs (f := dm_goto 19) rfl rfl ?_
                  exfalso
                  clear hms
                  omega
                · skip
                  have h4 : ej.toInt = p2.toInt := h4
                  have e5 : (j + 1).toInt = j.toInt + 1 := by have w := i_addc (x := j) (y := 1) 1 rfl (by omega) (by omega); omega
                  refine hs (f := dm_iinc 183 7 1) (lv' := [(7, .int (j + 1)), (8, .long p2), (14, .long p2), (12, .long ej), (10, .long ei), (6, .int i), (0, .ref 68), (1, .int a), (2, .int b), (3, .long fr), (5, .int up)]) rfl rfl ?_
                  refine hs (f := dm_goto 19) rfl rfl ?_
                  have hdec : (rA (q.2.2.1 73) (a.toInt + 1) - i.toInt).toNat + (rA (q.2.2.1 73) (b.toInt + 1) - (j + 1).toInt).toNat < nn := by rw [e5]; exact (tg_dec hms i2 j2).2.1
                  exact (IH _ hdec).2.2.1 i (j + 1) p2 ei ej p2 _ hM (by clear hms; omega) (by clear hms; omega) (by clear hms; omega) (by clear hms; omega) (by clear hms; omega) rfl
              · skip
                have h3 : ei.toInt = p2.toInt := h3
                have e6 : (i + 1).toInt = i.toInt + 1 := by have w := i_addc (x := i) (y := 1) 1 rfl (by omega) (by omega); omega
                refine hs (f := dm_iinc 172 6 1) (lv' := [(6, .int (i + 1)), (8, .long p2), (14, .long p2), (12, .long ej), (10, .long ei), (7, .int j), (0, .ref 68), (1, .int a), (2, .int b), (3, .long fr), (5, .int up)]) rfl rfl ?_
                refine hs (f := dm_lld 174 12) rfl rfl ?_
                refine hs (f := dm_lld 176 8) rfl rfl ?_
                refine g_lc_ne (x := ej) (y := p2) (m := 177) (n := 180) (tt := 183) rfl rfl (fun h7 => ?_) (fun h7 => ?_)
                · skip
                  have h7 : ¬ ej.toInt = p2.toInt := h7
                  refine hs (f := dm_goto 19) rfl rfl ?_
                  have hdec : (rA (q.2.2.1 73) (a.toInt + 1) - (i + 1).toInt).toNat + (rA (q.2.2.1 73) (b.toInt + 1) - j.toInt).toNat < nn := by rw [e6]; exact (tg_dec hms i2 j2).1
                  exact (IH _ hdec).2.1 (i + 1) j p2 ei ej p2 _ hM (by clear hms; omega) (by clear hms; omega) (by clear hms; omega) (by clear hms; omega) (by clear hms; omega) rfl
                · skip
                  have h7 : ej.toInt = p2.toInt := h7
                  have e8 : (j + 1).toInt = j.toInt + 1 := by have w := i_addc (x := j) (y := 1) 1 rfl (by omega) (by omega); omega
                  refine hs (f := dm_iinc 183 7 1) (lv' := [(7, .int (j + 1)), (6, .int (i + 1)), (8, .long p2), (14, .long p2), (12, .long ej), (10, .long ei), (0, .ref 68), (1, .int a), (2, .int b), (3, .long fr), (5, .int up)]) rfl rfl ?_
                  refine hs (f := dm_goto 19) rfl rfl ?_
                  have hdec : (rA (q.2.2.1 73) (a.toInt + 1) - (i + 1).toInt).toNat + (rA (q.2.2.1 73) (b.toInt + 1) - (j + 1).toInt).toNat < nn := by rw [e6, e8]; exact (tg_dec hms i2 j2).2.2
                  exact (IH _ hdec).2.2.2 (i + 1) (j + 1) p2 ei ej p2 _ hM (by clear hms; omega) (by clear hms; omega) (by clear hms; omega) (by clear hms; omega) (by clear hms; omega) rfl
            · skip
              have h2 : p2.toInt > fr.toInt := h2
              refine hs (f := dm_ald 117 0) rfl rfl ?_
              refine r_geta (c := 67) rfl hM rfl ?_
              refine hs (f := dm_ild 122 6) rfl rfl ?_
              refine r_iald (L := 24000) (i := i) ((q.2.2.1 70) i.toInt.toNat) rfl hM rfl (by omega) rfl ?_
              generalize g10 : (q.2.2.1 70) i.toInt.toNat = v9
              have x11 : v9.toInt = rA (q.2.2.1 70) i.toInt := rA_of (i := i) g10 rfl
              refine hs (f := dm_ald 124 0) rfl rfl ?_
              refine r_geta (c := 67) rfl hM rfl ?_
              refine hs (f := dm_ild 129 7) rfl rfl ?_
              refine r_iald (L := 24000) (i := j) ((q.2.2.1 70) j.toInt.toNat) rfl hM rfl (by omega) rfl ?_
              generalize g13 : (q.2.2.1 70) j.toInt.toNat = v12
              have x14 : v12.toInt = rA (q.2.2.1 70) j.toInt := rA_of (i := j) g13 rfl
              refine g_ic_le (n := 133) (tt := 137) rfl (fun h15 => ?_) (fun h15 => ?_)
              · skip
                have h15 : v9.toInt ≤ v12.toInt := h15
                refine hs (f := dm_push 138 (.int 0)) rfl rfl ?_
                refine hs (f := dm_ild 140 5) rfl rfl ?_
                refine g_ic_ne (n := 143) (tt := 157) rfl (fun h16 => ?_) (fun h16 => ?_)
                · skip
                  have h16 : ¬ 0 = up.toInt := h16
                  refine hs (f := dm_lld 159 14) rfl rfl ?_
                  refine hs (f := dm_lst 161 8) (lv' := [(8, .long p2), (14, .long p2), (12, .long ej), (10, .long ei), (7, .int j), (6, .int i), (0, .ref 68), (1, .int a), (2, .int b), (3, .long fr), (5, .int up)]) rfl rfl ?_
                  refine hs (f := dm_lld 163 10) rfl rfl ?_
                  refine hs (f := dm_lld 165 8) rfl rfl ?_
                  refine g_lc_ne (x := ei) (y := p2) (m := 166) (n := 169) (tt := 172) rfl rfl (fun h17 => ?_) (fun h17 => ?_)
                  · skip
                    have h17 : ¬ ei.toInt = p2.toInt := h17
                    refine hs (f := dm_lld 174 12) rfl rfl ?_
                    refine hs (f := dm_lld 176 8) rfl rfl ?_
                    refine g_lc_ne (x := ej) (y := p2) (m := 177) (n := 180) (tt := 183) rfl rfl (fun h18 => ?_) (fun h18 => ?_)
                    · skip
                      have h18 : ¬ ej.toInt = p2.toInt := h18
                      refine hs (f := dm_goto 19) rfl rfl ?_
                      exfalso
                      clear hms
                      omega
                    · skip
                      have h18 : ej.toInt = p2.toInt := h18
                      have e19 : (j + 1).toInt = j.toInt + 1 := by have w := i_addc (x := j) (y := 1) 1 rfl (by omega) (by omega); omega
                      refine hs (f := dm_iinc 183 7 1) (lv' := [(7, .int (j + 1)), (8, .long p2), (14, .long p2), (12, .long ej), (10, .long ei), (6, .int i), (0, .ref 68), (1, .int a), (2, .int b), (3, .long fr), (5, .int up)]) rfl rfl ?_
                      refine hs (f := dm_goto 19) rfl rfl ?_
                      have hdec : (rA (q.2.2.1 73) (a.toInt + 1) - i.toInt).toNat + (rA (q.2.2.1 73) (b.toInt + 1) - (j + 1).toInt).toNat < nn := by rw [e19]; exact (tg_dec hms i2 j2).2.1
                      exact (IH _ hdec).2.2.1 i (j + 1) p2 ei ej p2 _ hM (by clear hms; omega) (by clear hms; omega) (by clear hms; omega) (by clear hms; omega) (by clear hms; omega) rfl
                  · skip
                    have h17 : ei.toInt = p2.toInt := h17
                    have e20 : (i + 1).toInt = i.toInt + 1 := by have w := i_addc (x := i) (y := 1) 1 rfl (by omega) (by omega); omega
                    refine hs (f := dm_iinc 172 6 1) (lv' := [(6, .int (i + 1)), (8, .long p2), (14, .long p2), (12, .long ej), (10, .long ei), (7, .int j), (0, .ref 68), (1, .int a), (2, .int b), (3, .long fr), (5, .int up)]) rfl rfl ?_
                    refine hs (f := dm_lld 174 12) rfl rfl ?_
                    refine hs (f := dm_lld 176 8) rfl rfl ?_
                    refine g_lc_ne (x := ej) (y := p2) (m := 177) (n := 180) (tt := 183) rfl rfl (fun h21 => ?_) (fun h21 => ?_)
                    · skip
                      have h21 : ¬ ej.toInt = p2.toInt := h21
                      refine hs (f := dm_goto 19) rfl rfl ?_
                      have hdec : (rA (q.2.2.1 73) (a.toInt + 1) - (i + 1).toInt).toNat + (rA (q.2.2.1 73) (b.toInt + 1) - j.toInt).toNat < nn := by rw [e20]; exact (tg_dec hms i2 j2).1
                      exact (IH _ hdec).2.1 (i + 1) j p2 ei ej p2 _ hM (by clear hms; omega) (by clear hms; omega) (by clear hms; omega) (by clear hms; omega) (by clear hms; omega) rfl
                    · skip
                      have h21 : ej.toInt = p2.toInt := h21
                      have e22 : (j + 1).toInt = j.toInt + 1 := by have w := i_addc (x := j) (y := 1) 1 rfl (by omega) (by omega); omega
                      refine hs (f := dm_iinc 183 7 1) (lv' := [(7, .int (j + 1)), (6, .int (i + 1)), (8, .long p2), (14, .long p2), (12, .long ej), (10, .long ei), (0, .ref 68), (1, .int a), (2, .int b), (3, .long fr), (5, .int up)]) rfl rfl ?_
                      refine hs (f := dm_goto 19) rfl rfl ?_
                      have hdec : (rA (q.2.2.1 73) (a.toInt + 1) - (i + 1).toInt).toNat + (rA (q.2.2.1 73) (b.toInt + 1) - (j + 1).toInt).toNat < nn := by rw [e20, e22]; exact (tg_dec hms i2 j2).2.2
                      exact (IH _ hdec).2.2.2 (i + 1) (j + 1) p2 ei ej p2 _ hM (by clear hms; omega) (by clear hms; omega) (by clear hms; omega) (by clear hms; omega) (by clear hms; omega) rfl
                · skip
                  have h16 : 0 = up.toInt := h16
                  refine hs (f := dm_lld 145 8) rfl rfl ?_
                  refine hs (f := dm_lld 146 3) rfl rfl ?_
                  refine g_lc_le (x := p) (y := fr) (m := 147) (n := 150) (tt := 155) rfl rfl (fun h23 => ?_) (fun h23 => ?_)
                  · skip
                    have h23 : p.toInt ≤ fr.toInt := h23
                    refine hs (f := dm_lld 156 3) rfl rfl ?_
                    exact hr (f := dm_lret) rfl rfl (⟨rfl, _, rfl⟩)
                  · skip
                    have h23 : p.toInt > fr.toInt := h23
                    refine hs (f := dm_lld 152 8) rfl rfl ?_
                    refine hs (f := dm_goto 156) rfl rfl ?_
                    exact hr (f := dm_lret) rfl rfl (⟨rfl, _, rfl⟩)
              · skip
                have h15 : v9.toInt > v12.toInt := h15
                refine hs (f := dm_push 134 (.int 1)) rfl rfl ?_
                refine hs (f := dm_goto 138) rfl rfl ?_
                refine hs (f := dm_ild 140 5) rfl rfl ?_
                refine g_ic_ne (n := 143) (tt := 157) rfl (fun h24 => ?_) (fun h24 => ?_)
                · skip
                  have h24 : ¬ 1 = up.toInt := h24
                  refine hs (f := dm_lld 159 14) rfl rfl ?_
                  refine hs (f := dm_lst 161 8) (lv' := [(8, .long p2), (14, .long p2), (12, .long ej), (10, .long ei), (7, .int j), (6, .int i), (0, .ref 68), (1, .int a), (2, .int b), (3, .long fr), (5, .int up)]) rfl rfl ?_
                  refine hs (f := dm_lld 163 10) rfl rfl ?_
                  refine hs (f := dm_lld 165 8) rfl rfl ?_
                  refine g_lc_ne (x := ei) (y := p2) (m := 166) (n := 169) (tt := 172) rfl rfl (fun h25 => ?_) (fun h25 => ?_)
                  · skip
                    have h25 : ¬ ei.toInt = p2.toInt := h25
                    refine hs (f := dm_lld 174 12) rfl rfl ?_
                    refine hs (f := dm_lld 176 8) rfl rfl ?_
                    refine g_lc_ne (x := ej) (y := p2) (m := 177) (n := 180) (tt := 183) rfl rfl (fun h26 => ?_) (fun h26 => ?_)
                    · skip
                      have h26 : ¬ ej.toInt = p2.toInt := h26
                      refine hs (f := dm_goto 19) rfl rfl ?_
                      exfalso
                      clear hms
                      omega
                    · skip
                      have h26 : ej.toInt = p2.toInt := h26
                      have e27 : (j + 1).toInt = j.toInt + 1 := by have w := i_addc (x := j) (y := 1) 1 rfl (by omega) (by omega); omega
                      refine hs (f := dm_iinc 183 7 1) (lv' := [(7, .int (j + 1)), (8, .long p2), (14, .long p2), (12, .long ej), (10, .long ei), (6, .int i), (0, .ref 68), (1, .int a), (2, .int b), (3, .long fr), (5, .int up)]) rfl rfl ?_
                      refine hs (f := dm_goto 19) rfl rfl ?_
                      have hdec : (rA (q.2.2.1 73) (a.toInt + 1) - i.toInt).toNat + (rA (q.2.2.1 73) (b.toInt + 1) - (j + 1).toInt).toNat < nn := by rw [e27]; exact (tg_dec hms i2 j2).2.1
                      exact (IH _ hdec).2.2.1 i (j + 1) p2 ei ej p2 _ hM (by clear hms; omega) (by clear hms; omega) (by clear hms; omega) (by clear hms; omega) (by clear hms; omega) rfl
                  · skip
                    have h25 : ei.toInt = p2.toInt := h25
                    have e28 : (i + 1).toInt = i.toInt + 1 := by have w := i_addc (x := i) (y := 1) 1 rfl (by omega) (by omega); omega
                    refine hs (f := dm_iinc 172 6 1) (lv' := [(6, .int (i + 1)), (8, .long p2), (14, .long p2), (12, .long ej), (10, .long ei), (7, .int j), (0, .ref 68), (1, .int a), (2, .int b), (3, .long fr), (5, .int up)]) rfl rfl ?_
                    refine hs (f := dm_lld 174 12) rfl rfl ?_
                    refine hs (f := dm_lld 176 8) rfl rfl ?_
                    refine g_lc_ne (x := ej) (y := p2) (m := 177) (n := 180) (tt := 183) rfl rfl (fun h29 => ?_) (fun h29 => ?_)
                    · skip
                      have h29 : ¬ ej.toInt = p2.toInt := h29
                      refine hs (f := dm_goto 19) rfl rfl ?_
                      have hdec : (rA (q.2.2.1 73) (a.toInt + 1) - (i + 1).toInt).toNat + (rA (q.2.2.1 73) (b.toInt + 1) - j.toInt).toNat < nn := by rw [e28]; exact (tg_dec hms i2 j2).1
                      exact (IH _ hdec).2.1 (i + 1) j p2 ei ej p2 _ hM (by clear hms; omega) (by clear hms; omega) (by clear hms; omega) (by clear hms; omega) (by clear hms; omega) rfl
                    · skip
                      have h29 : ej.toInt = p2.toInt := h29
                      have e30 : (j + 1).toInt = j.toInt + 1 := by have w := i_addc (x := j) (y := 1) 1 rfl (by omega) (by omega); omega
                      refine hs (f := dm_iinc 183 7 1) (lv' := [(7, .int (j + 1)), (6, .int (i + 1)), (8, .long p2), (14, .long p2), (12, .long ej), (10, .long ei), (0, .ref 68), (1, .int a), (2, .int b), (3, .long fr), (5, .int up)]) rfl rfl ?_
                      refine hs (f := dm_goto 19) rfl rfl ?_
                      have hdec : (rA (q.2.2.1 73) (a.toInt + 1) - (i + 1).toInt).toNat + (rA (q.2.2.1 73) (b.toInt + 1) - (j + 1).toInt).toNat < nn := by rw [e28, e30]; exact (tg_dec hms i2 j2).2.2
                      exact (IH _ hdec).2.2.2 (i + 1) (j + 1) p2 ei ej p2 _ hM (by clear hms; omega) (by clear hms; omega) (by clear hms; omega) (by clear hms; omega) (by clear hms; omega) rfl
                · skip
                  have h24 : 1 = up.toInt := h24
                  refine hs (f := dm_lld 145 8) rfl rfl ?_
                  refine hs (f := dm_lld 146 3) rfl rfl ?_
                  refine g_lc_le (x := p) (y := fr) (m := 147) (n := 150) (tt := 155) rfl rfl (fun h31 => ?_) (fun h31 => ?_)
                  · skip
                    have h31 : p.toInt ≤ fr.toInt := h31
                    refine hs (f := dm_lld 156 3) rfl rfl ?_
                    exact hr (f := dm_lret) rfl rfl (⟨rfl, _, rfl⟩)
                  · skip
                    have h31 : p.toInt > fr.toInt := h31
                    refine hs (f := dm_lld 152 8) rfl rfl ?_
                    refine hs (f := dm_goto 156) rfl rfl ?_
                    exact hr (f := dm_lret) rfl rfl (⟨rfl, _, rfl⟩)
          have j9 : ∀ (ei ej : Int64) (M : dm_Mem), Rm X q M → (ei.toInt < 1152921504606846976 → i.toInt + 1 < rA (q.2.2.1 73) (a.toInt + 1)) → (ej.toInt < 1152921504606846976 → j.toInt + 1 < rA (q.2.2.1 73) (b.toInt + 1)) → hG 0 cd_183 90 [(10, .long ei), (8, .long p), (7, .int j), (6, .int i), (0, .ref 68), (1, .int a), (2, .int b), (3, .long fr), (5, .int up)] [.long ej] M (fun r M' => M' = M ∧ ∃ v : Int64, r = some (.long v)) := by
            intro ei ej M hM hei hej
            refine hs (f := dm_lst 92 12) (lv' := [(12, .long ej), (10, .long ei), (8, .long p), (7, .int j), (6, .int i), (0, .ref 68), (1, .int a), (2, .int b), (3, .long fr), (5, .int up)]) rfl rfl ?_
            refine hs (f := dm_lld 94 10) rfl rfl ?_
            refine hs (f := dm_lld 96 12) rfl rfl ?_
            refine g_lc_ge (x := ei) (y := ej) (m := 97) (n := 100) (tt := 105) rfl rfl (fun h32 => ?_) (fun h32 => ?_)
            · skip
              have h32 : ei.toInt ≥ ej.toInt := h32
              refine hs (f := dm_lld 107 12) rfl rfl ?_
              exact jm ei ej ej _ hM hei hej (by clear hms; omega)
            · skip
              have h32 : ei.toInt < ej.toInt := h32
              refine hs (f := dm_lld 102 10) rfl rfl ?_
              refine hs (f := dm_goto 107) rfl rfl ?_
              exact jm ei ej ei _ hM hei hej (by clear hms; omega)
          have j7 : ∀ (ei : Int64) (M : dm_Mem), Rm X q M → (ei.toInt < 1152921504606846976 → i.toInt + 1 < rA (q.2.2.1 73) (a.toInt + 1)) → hG 0 cd_183 58 [(8, .long p), (7, .int j), (6, .int i), (0, .ref 68), (1, .int a), (2, .int b), (3, .long fr), (5, .int up)] [.long ei] M (fun r M' => M' = M ∧ ∃ v : Int64, r = some (.long v)) := by
            intro ei M hM hei
            refine hs (f := dm_lst 60 10) (lv' := [(10, .long ei), (8, .long p), (7, .int j), (6, .int i), (0, .ref 68), (1, .int a), (2, .int b), (3, .long fr), (5, .int up)]) rfl rfl ?_
            refine hs (f := dm_ild 62 7) rfl rfl ?_
            refine hs (f := dm_push 63 (.int 1)) rfl rfl ?_
            have e33 : (j + (1 : Int32)).toInt = j.toInt + 1 := by have w := i_addc (x := j) (y := (1 : Int32)) 1 rfl (by omega) (by omega); omega
            refine hs (f := dm_ii 64 (fun x y => x + y)) (st' := [.int (j + (1 : Int32))]) rfl rfl ?_
            refine hs (f := dm_ald 65 0) rfl rfl ?_
            refine r_geta (c := 70) rfl hM rfl ?_
            refine hs (f := dm_ild 69 2) rfl rfl ?_
            refine hs (f := dm_push 70 (.int 1)) rfl rfl ?_
            have e34 : (b + (1 : Int32)).toInt = b.toInt + 1 := by have w := i_addc (x := b) (y := (1 : Int32)) 1 rfl (by omega) (by omega); omega
            refine hs (f := dm_ii 71 (fun x y => x + y)) (st' := [.int (b + (1 : Int32)), .ref 73, .int (j + (1 : Int32))]) rfl rfl ?_
            refine r_iald (L := 1001) (i := (b + (1 : Int32))) ((q.2.2.1 73) (b + (1 : Int32)).toInt.toNat) rfl hM rfl (by omega) rfl ?_
            generalize g36 : (q.2.2.1 73) (b + (1 : Int32)).toInt.toNat = v35
            have x37 : v35.toInt = rA (q.2.2.1 73) (b.toInt + 1) := rA_of (i := (b + (1 : Int32))) g36 e34
            refine g_ic_ge (n := 75) (tt := 87) rfl (fun h38 => ?_) (fun h38 => ?_)
            · skip
              have h38 : (j + (1 : Int32)).toInt ≥ v35.toInt := h38
              refine hs (f := dm_push 90 (.long 1152921504606846976)) rfl rfl ?_
              exact j9 ei (1152921504606846976 : Int64) _ hM hei (by intro z; clear hms; first | omega | exact absurd z (by decide))
            · skip
              have h38 : (j + (1 : Int32)).toInt < v35.toInt := h38
              refine hs (f := dm_ald 76 0) rfl rfl ?_
              refine r_geta (c := 66) rfl hM rfl ?_
              refine hs (f := dm_ild 81 7) rfl rfl ?_
              refine hs (f := dm_push 82 (.int 1)) rfl rfl ?_
              have e39 : (j + (1 : Int32)).toInt = j.toInt + 1 := by have w := i_addc (x := j) (y := (1 : Int32)) 1 rfl (by omega) (by omega); omega
              refine hs (f := dm_ii 83 (fun x y => x + y)) (st' := [.int (j + (1 : Int32)), .ref 69]) rfl rfl ?_
              refine r_lald (L := 24000) (i := (j + (1 : Int32))) ((q.2.2.2 69) (j + (1 : Int32)).toInt.toNat) rfl hM rfl (by omega) rfl ?_
              generalize g41 : (q.2.2.2 69) (j + (1 : Int32)).toInt.toNat = v40
              have x42 : v40.toInt = rB (q.2.2.2 69) (j.toInt + 1) := rB_of (i := (j + (1 : Int32))) g41 e39
              refine hs (f := dm_goto 90) rfl rfl ?_
              exact j9 ei v40 _ hM hei (by intro z; clear hms; first | omega | exact absurd z (by decide))
          refine hs (f := dm_ild 30 6) rfl rfl ?_
          refine hs (f := dm_push 31 (.int 1)) rfl rfl ?_
          have e43 : (i + (1 : Int32)).toInt = i.toInt + 1 := by have w := i_addc (x := i) (y := (1 : Int32)) 1 rfl (by omega) (by omega); omega
          refine hs (f := dm_ii 32 (fun x y => x + y)) (st' := [.int (i + (1 : Int32))]) rfl rfl ?_
          refine hs (f := dm_ald 33 0) rfl rfl ?_
          refine r_geta (c := 70) rfl hM rfl ?_
          refine hs (f := dm_ild 37 1) rfl rfl ?_
          refine hs (f := dm_push 38 (.int 1)) rfl rfl ?_
          have e44 : (a + (1 : Int32)).toInt = a.toInt + 1 := by have w := i_addc (x := a) (y := (1 : Int32)) 1 rfl (by omega) (by omega); omega
          refine hs (f := dm_ii 39 (fun x y => x + y)) (st' := [.int (a + (1 : Int32)), .ref 73, .int (i + (1 : Int32))]) rfl rfl ?_
          refine r_iald (L := 1001) (i := (a + (1 : Int32))) ((q.2.2.1 73) (a + (1 : Int32)).toInt.toNat) rfl hM rfl (by omega) rfl ?_
          generalize g46 : (q.2.2.1 73) (a + (1 : Int32)).toInt.toNat = v45
          have x47 : v45.toInt = rA (q.2.2.1 73) (a.toInt + 1) := rA_of (i := (a + (1 : Int32))) g46 e44
          refine g_ic_ge (n := 43) (tt := 55) rfl (fun h48 => ?_) (fun h48 => ?_)
          · skip
            have h48 : (i + (1 : Int32)).toInt ≥ v45.toInt := h48
            refine hs (f := dm_push 58 (.long 1152921504606846976)) rfl rfl ?_
            exact j7 (1152921504606846976 : Int64) _ hM (by intro z; clear hms; first | omega | exact absurd z (by decide))
          · skip
            have h48 : (i + (1 : Int32)).toInt < v45.toInt := h48
            refine hs (f := dm_ald 44 0) rfl rfl ?_
            refine r_geta (c := 66) rfl hM rfl ?_
            refine hs (f := dm_ild 49 6) rfl rfl ?_
            refine hs (f := dm_push 50 (.int 1)) rfl rfl ?_
            have e49 : (i + (1 : Int32)).toInt = i.toInt + 1 := by have w := i_addc (x := i) (y := (1 : Int32)) 1 rfl (by omega) (by omega); omega
            refine hs (f := dm_ii 51 (fun x y => x + y)) (st' := [.int (i + (1 : Int32)), .ref 69]) rfl rfl ?_
            refine r_lald (L := 24000) (i := (i + (1 : Int32))) ((q.2.2.2 69) (i + (1 : Int32)).toInt.toNat) rfl hM rfl (by omega) rfl ?_
            generalize g51 : (q.2.2.2 69) (i + (1 : Int32)).toInt.toNat = v50
            have x52 : v50.toInt = rB (q.2.2.2 69) (i.toInt + 1) := rB_of (i := (i + (1 : Int32))) g51 e49
            refine hs (f := dm_goto 58) rfl rfl ?_
            exact j7 v50 _ hM (by intro z; clear hms; first | omega | exact absurd z (by decide))
      · skip
        intro i j p e7 e9 em M hM i0 i1 j0 j1 hp hms
        refine hs (f := dm_lld 21 8) rfl rfl ?_
        refine hs (f := dm_push 24 (.long 1152921504606846976)) rfl rfl ?_
        refine g_lc_ge (x := p) (y := (1152921504606846976 : Int64)) (m := 25) (n := 28) (tt := 186) rfl rfl (fun h53 => ?_) (fun h53 => ?_)
        · skip
          have h53 : p.toInt ≥ 1152921504606846976 := h53
          refine hs (f := dm_push 189 (.long 1152921504606846976)) rfl rfl ?_
          exact hr (f := dm_lret) rfl rfl (⟨rfl, _, rfl⟩)
        · skip
          have h53 : p.toInt < 1152921504606846976 := h53
          obtain ⟨i2, j2⟩ := hp (by clear hms; omega)
          have jm : ∀ (ei ej p2 : Int64) (M : dm_Mem), Rm X q M → (ei.toInt < 1152921504606846976 → i.toInt + 1 < rA (q.2.2.1 73) (a.toInt + 1)) → (ej.toInt < 1152921504606846976 → j.toInt + 1 < rA (q.2.2.1 73) (b.toInt + 1)) → ((p2.toInt = ei.toInt ∧ ei.toInt < ej.toInt) ∨ (p2.toInt = ej.toInt ∧ ej.toInt ≤ ei.toInt)) → hG 0 cd_183 107 [(12, .long ej), (10, .long ei), (6, .int i), (8, .long p), (14, .long em), (7, .int j), (0, .ref 68), (1, .int a), (2, .int b), (3, .long fr), (5, .int up)] [.long p2] M (fun r M' => M' = M ∧ ∃ v : Int64, r = some (.long v)) := by
            intro ei ej p2 M hM hei hej hmn
            refine hs (f := dm_lst 109 14) (lv' := [(14, .long p2), (12, .long ej), (10, .long ei), (6, .int i), (8, .long p), (7, .int j), (0, .ref 68), (1, .int a), (2, .int b), (3, .long fr), (5, .int up)]) rfl rfl ?_
            refine hs (f := dm_lld 111 14) rfl rfl ?_
            refine hs (f := dm_lld 112 3) rfl rfl ?_
            refine g_lc_le (x := p2) (y := fr) (m := 113) (n := 116) (tt := 157) rfl rfl (fun h54 => ?_) (fun h54 => ?_)
            · skip
              have h54 : p2.toInt ≤ fr.toInt := h54
              refine hs (f := dm_lld 159 14) rfl rfl ?_
              refine hs (f := dm_lst 161 8) (lv' := [(8, .long p2), (14, .long p2), (12, .long ej), (10, .long ei), (6, .int i), (7, .int j), (0, .ref 68), (1, .int a), (2, .int b), (3, .long fr), (5, .int up)]) rfl rfl ?_
              refine hs (f := dm_lld 163 10) rfl rfl ?_
              refine hs (f := dm_lld 165 8) rfl rfl ?_
              refine g_lc_ne (x := ei) (y := p2) (m := 166) (n := 169) (tt := 172) rfl rfl (fun h55 => ?_) (fun h55 => ?_)
              · skip
                have h55 : ¬ ei.toInt = p2.toInt := h55
                refine hs (f := dm_lld 174 12) rfl rfl ?_
                refine hs (f := dm_lld 176 8) rfl rfl ?_
                refine g_lc_ne (x := ej) (y := p2) (m := 177) (n := 180) (tt := 183) rfl rfl (fun h56 => ?_) (fun h56 => ?_)
                · skip
                  have h56 : ¬ ej.toInt = p2.toInt := h56
                  refine hs (f := dm_goto 19) rfl rfl ?_
                  exfalso
                  clear hms
                  omega
                · skip
                  have h56 : ej.toInt = p2.toInt := h56
                  have e57 : (j + 1).toInt = j.toInt + 1 := by have w := i_addc (x := j) (y := 1) 1 rfl (by omega) (by omega); omega
                  refine hs (f := dm_iinc 183 7 1) (lv' := [(7, .int (j + 1)), (8, .long p2), (14, .long p2), (12, .long ej), (10, .long ei), (6, .int i), (0, .ref 68), (1, .int a), (2, .int b), (3, .long fr), (5, .int up)]) rfl rfl ?_
                  refine hs (f := dm_goto 19) rfl rfl ?_
                  have hdec : (rA (q.2.2.1 73) (a.toInt + 1) - i.toInt).toNat + (rA (q.2.2.1 73) (b.toInt + 1) - (j + 1).toInt).toNat < nn := by rw [e57]; exact (tg_dec hms i2 j2).2.1
                  exact (IH _ hdec).2.2.1 i (j + 1) p2 ei ej p2 _ hM (by clear hms; omega) (by clear hms; omega) (by clear hms; omega) (by clear hms; omega) (by clear hms; omega) rfl
              · skip
                have h55 : ei.toInt = p2.toInt := h55
                have e58 : (i + 1).toInt = i.toInt + 1 := by have w := i_addc (x := i) (y := 1) 1 rfl (by omega) (by omega); omega
                refine hs (f := dm_iinc 172 6 1) (lv' := [(6, .int (i + 1)), (8, .long p2), (14, .long p2), (12, .long ej), (10, .long ei), (7, .int j), (0, .ref 68), (1, .int a), (2, .int b), (3, .long fr), (5, .int up)]) rfl rfl ?_
                refine hs (f := dm_lld 174 12) rfl rfl ?_
                refine hs (f := dm_lld 176 8) rfl rfl ?_
                refine g_lc_ne (x := ej) (y := p2) (m := 177) (n := 180) (tt := 183) rfl rfl (fun h59 => ?_) (fun h59 => ?_)
                · skip
                  have h59 : ¬ ej.toInt = p2.toInt := h59
                  refine hs (f := dm_goto 19) rfl rfl ?_
                  have hdec : (rA (q.2.2.1 73) (a.toInt + 1) - (i + 1).toInt).toNat + (rA (q.2.2.1 73) (b.toInt + 1) - j.toInt).toNat < nn := by rw [e58]; exact (tg_dec hms i2 j2).1
                  exact (IH _ hdec).2.1 (i + 1) j p2 ei ej p2 _ hM (by clear hms; omega) (by clear hms; omega) (by clear hms; omega) (by clear hms; omega) (by clear hms; omega) rfl
                · skip
                  have h59 : ej.toInt = p2.toInt := h59
                  have e60 : (j + 1).toInt = j.toInt + 1 := by have w := i_addc (x := j) (y := 1) 1 rfl (by omega) (by omega); omega
                  refine hs (f := dm_iinc 183 7 1) (lv' := [(7, .int (j + 1)), (6, .int (i + 1)), (8, .long p2), (14, .long p2), (12, .long ej), (10, .long ei), (0, .ref 68), (1, .int a), (2, .int b), (3, .long fr), (5, .int up)]) rfl rfl ?_
                  refine hs (f := dm_goto 19) rfl rfl ?_
                  have hdec : (rA (q.2.2.1 73) (a.toInt + 1) - (i + 1).toInt).toNat + (rA (q.2.2.1 73) (b.toInt + 1) - (j + 1).toInt).toNat < nn := by rw [e58, e60]; exact (tg_dec hms i2 j2).2.2
                  exact (IH _ hdec).2.2.2 (i + 1) (j + 1) p2 ei ej p2 _ hM (by clear hms; omega) (by clear hms; omega) (by clear hms; omega) (by clear hms; omega) (by clear hms; omega) rfl
            · skip
              have h54 : p2.toInt > fr.toInt := h54
              refine hs (f := dm_ald 117 0) rfl rfl ?_
              refine r_geta (c := 67) rfl hM rfl ?_
              refine hs (f := dm_ild 122 6) rfl rfl ?_
              refine r_iald (L := 24000) (i := i) ((q.2.2.1 70) i.toInt.toNat) rfl hM rfl (by omega) rfl ?_
              generalize g62 : (q.2.2.1 70) i.toInt.toNat = v61
              have x63 : v61.toInt = rA (q.2.2.1 70) i.toInt := rA_of (i := i) g62 rfl
              refine hs (f := dm_ald 124 0) rfl rfl ?_
              refine r_geta (c := 67) rfl hM rfl ?_
              refine hs (f := dm_ild 129 7) rfl rfl ?_
              refine r_iald (L := 24000) (i := j) ((q.2.2.1 70) j.toInt.toNat) rfl hM rfl (by omega) rfl ?_
              generalize g65 : (q.2.2.1 70) j.toInt.toNat = v64
              have x66 : v64.toInt = rA (q.2.2.1 70) j.toInt := rA_of (i := j) g65 rfl
              refine g_ic_le (n := 133) (tt := 137) rfl (fun h67 => ?_) (fun h67 => ?_)
              · skip
                have h67 : v61.toInt ≤ v64.toInt := h67
                refine hs (f := dm_push 138 (.int 0)) rfl rfl ?_
                refine hs (f := dm_ild 140 5) rfl rfl ?_
                refine g_ic_ne (n := 143) (tt := 157) rfl (fun h68 => ?_) (fun h68 => ?_)
                · skip
                  have h68 : ¬ 0 = up.toInt := h68
                  refine hs (f := dm_lld 159 14) rfl rfl ?_
                  refine hs (f := dm_lst 161 8) (lv' := [(8, .long p2), (14, .long p2), (12, .long ej), (10, .long ei), (6, .int i), (7, .int j), (0, .ref 68), (1, .int a), (2, .int b), (3, .long fr), (5, .int up)]) rfl rfl ?_
                  refine hs (f := dm_lld 163 10) rfl rfl ?_
                  refine hs (f := dm_lld 165 8) rfl rfl ?_
                  refine g_lc_ne (x := ei) (y := p2) (m := 166) (n := 169) (tt := 172) rfl rfl (fun h69 => ?_) (fun h69 => ?_)
                  · skip
                    have h69 : ¬ ei.toInt = p2.toInt := h69
                    refine hs (f := dm_lld 174 12) rfl rfl ?_
                    refine hs (f := dm_lld 176 8) rfl rfl ?_
                    refine g_lc_ne (x := ej) (y := p2) (m := 177) (n := 180) (tt := 183) rfl rfl (fun h70 => ?_) (fun h70 => ?_)
                    · skip
                      have h70 : ¬ ej.toInt = p2.toInt := h70
                      refine hs (f := dm_goto 19) rfl rfl ?_
                      exfalso
                      clear hms
                      omega
                    · skip
                      have h70 : ej.toInt = p2.toInt := h70
                      have e71 : (j + 1).toInt = j.toInt + 1 := by have w := i_addc (x := j) (y := 1) 1 rfl (by omega) (by omega); omega
                      refine hs (f := dm_iinc 183 7 1) (lv' := [(7, .int (j + 1)), (8, .long p2), (14, .long p2), (12, .long ej), (10, .long ei), (6, .int i), (0, .ref 68), (1, .int a), (2, .int b), (3, .long fr), (5, .int up)]) rfl rfl ?_
                      refine hs (f := dm_goto 19) rfl rfl ?_
                      have hdec : (rA (q.2.2.1 73) (a.toInt + 1) - i.toInt).toNat + (rA (q.2.2.1 73) (b.toInt + 1) - (j + 1).toInt).toNat < nn := by rw [e71]; exact (tg_dec hms i2 j2).2.1
                      exact (IH _ hdec).2.2.1 i (j + 1) p2 ei ej p2 _ hM (by clear hms; omega) (by clear hms; omega) (by clear hms; omega) (by clear hms; omega) (by clear hms; omega) rfl
                  · skip
                    have h69 : ei.toInt = p2.toInt := h69
                    have e72 : (i + 1).toInt = i.toInt + 1 := by have w := i_addc (x := i) (y := 1) 1 rfl (by omega) (by omega); omega
                    refine hs (f := dm_iinc 172 6 1) (lv' := [(6, .int (i + 1)), (8, .long p2), (14, .long p2), (12, .long ej), (10, .long ei), (7, .int j), (0, .ref 68), (1, .int a), (2, .int b), (3, .long fr), (5, .int up)]) rfl rfl ?_
                    refine hs (f := dm_lld 174 12) rfl rfl ?_
                    refine hs (f := dm_lld 176 8) rfl rfl ?_
                    refine g_lc_ne (x := ej) (y := p2) (m := 177) (n := 180) (tt := 183) rfl rfl (fun h73 => ?_) (fun h73 => ?_)
                    · skip
                      have h73 : ¬ ej.toInt = p2.toInt := h73
                      refine hs (f := dm_goto 19) rfl rfl ?_
                      have hdec : (rA (q.2.2.1 73) (a.toInt + 1) - (i + 1).toInt).toNat + (rA (q.2.2.1 73) (b.toInt + 1) - j.toInt).toNat < nn := by rw [e72]; exact (tg_dec hms i2 j2).1
                      exact (IH _ hdec).2.1 (i + 1) j p2 ei ej p2 _ hM (by clear hms; omega) (by clear hms; omega) (by clear hms; omega) (by clear hms; omega) (by clear hms; omega) rfl
                    · skip
                      have h73 : ej.toInt = p2.toInt := h73
                      have e74 : (j + 1).toInt = j.toInt + 1 := by have w := i_addc (x := j) (y := 1) 1 rfl (by omega) (by omega); omega
                      refine hs (f := dm_iinc 183 7 1) (lv' := [(7, .int (j + 1)), (6, .int (i + 1)), (8, .long p2), (14, .long p2), (12, .long ej), (10, .long ei), (0, .ref 68), (1, .int a), (2, .int b), (3, .long fr), (5, .int up)]) rfl rfl ?_
                      refine hs (f := dm_goto 19) rfl rfl ?_
                      have hdec : (rA (q.2.2.1 73) (a.toInt + 1) - (i + 1).toInt).toNat + (rA (q.2.2.1 73) (b.toInt + 1) - (j + 1).toInt).toNat < nn := by rw [e72, e74]; exact (tg_dec hms i2 j2).2.2
                      exact (IH _ hdec).2.2.2 (i + 1) (j + 1) p2 ei ej p2 _ hM (by clear hms; omega) (by clear hms; omega) (by clear hms; omega) (by clear hms; omega) (by clear hms; omega) rfl
                · skip
                  have h68 : 0 = up.toInt := h68
                  refine hs (f := dm_lld 145 8) rfl rfl ?_
                  refine hs (f := dm_lld 146 3) rfl rfl ?_
                  refine g_lc_le (x := p) (y := fr) (m := 147) (n := 150) (tt := 155) rfl rfl (fun h75 => ?_) (fun h75 => ?_)
                  · skip
                    have h75 : p.toInt ≤ fr.toInt := h75
                    refine hs (f := dm_lld 156 3) rfl rfl ?_
                    exact hr (f := dm_lret) rfl rfl (⟨rfl, _, rfl⟩)
                  · skip
                    have h75 : p.toInt > fr.toInt := h75
                    refine hs (f := dm_lld 152 8) rfl rfl ?_
                    refine hs (f := dm_goto 156) rfl rfl ?_
                    exact hr (f := dm_lret) rfl rfl (⟨rfl, _, rfl⟩)
              · skip
                have h67 : v61.toInt > v64.toInt := h67
                refine hs (f := dm_push 134 (.int 1)) rfl rfl ?_
                refine hs (f := dm_goto 138) rfl rfl ?_
                refine hs (f := dm_ild 140 5) rfl rfl ?_
                refine g_ic_ne (n := 143) (tt := 157) rfl (fun h76 => ?_) (fun h76 => ?_)
                · skip
                  have h76 : ¬ 1 = up.toInt := h76
                  refine hs (f := dm_lld 159 14) rfl rfl ?_
                  refine hs (f := dm_lst 161 8) (lv' := [(8, .long p2), (14, .long p2), (12, .long ej), (10, .long ei), (6, .int i), (7, .int j), (0, .ref 68), (1, .int a), (2, .int b), (3, .long fr), (5, .int up)]) rfl rfl ?_
                  refine hs (f := dm_lld 163 10) rfl rfl ?_
                  refine hs (f := dm_lld 165 8) rfl rfl ?_
                  refine g_lc_ne (x := ei) (y := p2) (m := 166) (n := 169) (tt := 172) rfl rfl (fun h77 => ?_) (fun h77 => ?_)
                  · skip
                    have h77 : ¬ ei.toInt = p2.toInt := h77
                    refine hs (f := dm_lld 174 12) rfl rfl ?_
                    refine hs (f := dm_lld 176 8) rfl rfl ?_
                    refine g_lc_ne (x := ej) (y := p2) (m := 177) (n := 180) (tt := 183) rfl rfl (fun h78 => ?_) (fun h78 => ?_)
                    · skip
                      have h78 : ¬ ej.toInt = p2.toInt := h78
                      refine hs (f := dm_goto 19) rfl rfl ?_
                      exfalso
                      clear hms
                      omega
                    · skip
                      have h78 : ej.toInt = p2.toInt := h78
                      have e79 : (j + 1).toInt = j.toInt + 1 := by have w := i_addc (x := j) (y := 1) 1 rfl (by omega) (by omega); omega
                      refine hs (f := dm_iinc 183 7 1) (lv' := [(7, .int (j + 1)), (8, .long p2), (14, .long p2), (12, .long ej), (10, .long ei), (6, .int i), (0, .ref 68), (1, .int a), (2, .int b), (3, .long fr), (5, .int up)]) rfl rfl ?_
                      refine hs (f := dm_goto 19) rfl rfl ?_
                      have hdec : (rA (q.2.2.1 73) (a.toInt + 1) - i.toInt).toNat + (rA (q.2.2.1 73) (b.toInt + 1) - (j + 1).toInt).toNat < nn := by rw [e79]; exact (tg_dec hms i2 j2).2.1
                      exact (IH _ hdec).2.2.1 i (j + 1) p2 ei ej p2 _ hM (by clear hms; omega) (by clear hms; omega) (by clear hms; omega) (by clear hms; omega) (by clear hms; omega) rfl
                  · skip
                    have h77 : ei.toInt = p2.toInt := h77
                    have e80 : (i + 1).toInt = i.toInt + 1 := by have w := i_addc (x := i) (y := 1) 1 rfl (by omega) (by omega); omega
                    refine hs (f := dm_iinc 172 6 1) (lv' := [(6, .int (i + 1)), (8, .long p2), (14, .long p2), (12, .long ej), (10, .long ei), (7, .int j), (0, .ref 68), (1, .int a), (2, .int b), (3, .long fr), (5, .int up)]) rfl rfl ?_
                    refine hs (f := dm_lld 174 12) rfl rfl ?_
                    refine hs (f := dm_lld 176 8) rfl rfl ?_
                    refine g_lc_ne (x := ej) (y := p2) (m := 177) (n := 180) (tt := 183) rfl rfl (fun h81 => ?_) (fun h81 => ?_)
                    · skip
                      have h81 : ¬ ej.toInt = p2.toInt := h81
                      refine hs (f := dm_goto 19) rfl rfl ?_
                      have hdec : (rA (q.2.2.1 73) (a.toInt + 1) - (i + 1).toInt).toNat + (rA (q.2.2.1 73) (b.toInt + 1) - j.toInt).toNat < nn := by rw [e80]; exact (tg_dec hms i2 j2).1
                      exact (IH _ hdec).2.1 (i + 1) j p2 ei ej p2 _ hM (by clear hms; omega) (by clear hms; omega) (by clear hms; omega) (by clear hms; omega) (by clear hms; omega) rfl
                    · skip
                      have h81 : ej.toInt = p2.toInt := h81
                      have e82 : (j + 1).toInt = j.toInt + 1 := by have w := i_addc (x := j) (y := 1) 1 rfl (by omega) (by omega); omega
                      refine hs (f := dm_iinc 183 7 1) (lv' := [(7, .int (j + 1)), (6, .int (i + 1)), (8, .long p2), (14, .long p2), (12, .long ej), (10, .long ei), (0, .ref 68), (1, .int a), (2, .int b), (3, .long fr), (5, .int up)]) rfl rfl ?_
                      refine hs (f := dm_goto 19) rfl rfl ?_
                      have hdec : (rA (q.2.2.1 73) (a.toInt + 1) - (i + 1).toInt).toNat + (rA (q.2.2.1 73) (b.toInt + 1) - (j + 1).toInt).toNat < nn := by rw [e80, e82]; exact (tg_dec hms i2 j2).2.2
                      exact (IH _ hdec).2.2.2 (i + 1) (j + 1) p2 ei ej p2 _ hM (by clear hms; omega) (by clear hms; omega) (by clear hms; omega) (by clear hms; omega) (by clear hms; omega) rfl
                · skip
                  have h76 : 1 = up.toInt := h76
                  refine hs (f := dm_lld 145 8) rfl rfl ?_
                  refine hs (f := dm_lld 146 3) rfl rfl ?_
                  refine g_lc_le (x := p) (y := fr) (m := 147) (n := 150) (tt := 155) rfl rfl (fun h83 => ?_) (fun h83 => ?_)
                  · skip
                    have h83 : p.toInt ≤ fr.toInt := h83
                    refine hs (f := dm_lld 156 3) rfl rfl ?_
                    exact hr (f := dm_lret) rfl rfl (⟨rfl, _, rfl⟩)
                  · skip
                    have h83 : p.toInt > fr.toInt := h83
                    refine hs (f := dm_lld 152 8) rfl rfl ?_
                    refine hs (f := dm_goto 156) rfl rfl ?_
                    exact hr (f := dm_lret) rfl rfl (⟨rfl, _, rfl⟩)
          have j9 : ∀ (ei ej : Int64) (M : dm_Mem), Rm X q M → (ei.toInt < 1152921504606846976 → i.toInt + 1 < rA (q.2.2.1 73) (a.toInt + 1)) → (ej.toInt < 1152921504606846976 → j.toInt + 1 < rA (q.2.2.1 73) (b.toInt + 1)) → hG 0 cd_183 90 [(10, .long ei), (6, .int i), (8, .long p), (14, .long em), (12, .long e9), (7, .int j), (0, .ref 68), (1, .int a), (2, .int b), (3, .long fr), (5, .int up)] [.long ej] M (fun r M' => M' = M ∧ ∃ v : Int64, r = some (.long v)) := by
            intro ei ej M hM hei hej
            refine hs (f := dm_lst 92 12) (lv' := [(12, .long ej), (10, .long ei), (6, .int i), (8, .long p), (14, .long em), (7, .int j), (0, .ref 68), (1, .int a), (2, .int b), (3, .long fr), (5, .int up)]) rfl rfl ?_
            refine hs (f := dm_lld 94 10) rfl rfl ?_
            refine hs (f := dm_lld 96 12) rfl rfl ?_
            refine g_lc_ge (x := ei) (y := ej) (m := 97) (n := 100) (tt := 105) rfl rfl (fun h84 => ?_) (fun h84 => ?_)
            · skip
              have h84 : ei.toInt ≥ ej.toInt := h84
              refine hs (f := dm_lld 107 12) rfl rfl ?_
              exact jm ei ej ej _ hM hei hej (by clear hms; omega)
            · skip
              have h84 : ei.toInt < ej.toInt := h84
              refine hs (f := dm_lld 102 10) rfl rfl ?_
              refine hs (f := dm_goto 107) rfl rfl ?_
              exact jm ei ej ei _ hM hei hej (by clear hms; omega)
          have j7 : ∀ (ei : Int64) (M : dm_Mem), Rm X q M → (ei.toInt < 1152921504606846976 → i.toInt + 1 < rA (q.2.2.1 73) (a.toInt + 1)) → hG 0 cd_183 58 [(6, .int i), (8, .long p), (14, .long em), (12, .long e9), (10, .long e7), (7, .int j), (0, .ref 68), (1, .int a), (2, .int b), (3, .long fr), (5, .int up)] [.long ei] M (fun r M' => M' = M ∧ ∃ v : Int64, r = some (.long v)) := by
            intro ei M hM hei
            refine hs (f := dm_lst 60 10) (lv' := [(10, .long ei), (6, .int i), (8, .long p), (14, .long em), (12, .long e9), (7, .int j), (0, .ref 68), (1, .int a), (2, .int b), (3, .long fr), (5, .int up)]) rfl rfl ?_
            refine hs (f := dm_ild 62 7) rfl rfl ?_
            refine hs (f := dm_push 63 (.int 1)) rfl rfl ?_
            have e85 : (j + (1 : Int32)).toInt = j.toInt + 1 := by have w := i_addc (x := j) (y := (1 : Int32)) 1 rfl (by omega) (by omega); omega
            refine hs (f := dm_ii 64 (fun x y => x + y)) (st' := [.int (j + (1 : Int32))]) rfl rfl ?_
            refine hs (f := dm_ald 65 0) rfl rfl ?_
            refine r_geta (c := 70) rfl hM rfl ?_
            refine hs (f := dm_ild 69 2) rfl rfl ?_
            refine hs (f := dm_push 70 (.int 1)) rfl rfl ?_
            have e86 : (b + (1 : Int32)).toInt = b.toInt + 1 := by have w := i_addc (x := b) (y := (1 : Int32)) 1 rfl (by omega) (by omega); omega
            refine hs (f := dm_ii 71 (fun x y => x + y)) (st' := [.int (b + (1 : Int32)), .ref 73, .int (j + (1 : Int32))]) rfl rfl ?_
            refine r_iald (L := 1001) (i := (b + (1 : Int32))) ((q.2.2.1 73) (b + (1 : Int32)).toInt.toNat) rfl hM rfl (by omega) rfl ?_
            generalize g88 : (q.2.2.1 73) (b + (1 : Int32)).toInt.toNat = v87
            have x89 : v87.toInt = rA (q.2.2.1 73) (b.toInt + 1) := rA_of (i := (b + (1 : Int32))) g88 e86
            refine g_ic_ge (n := 75) (tt := 87) rfl (fun h90 => ?_) (fun h90 => ?_)
            · skip
              have h90 : (j + (1 : Int32)).toInt ≥ v87.toInt := h90
              refine hs (f := dm_push 90 (.long 1152921504606846976)) rfl rfl ?_
              exact j9 ei (1152921504606846976 : Int64) _ hM hei (by intro z; clear hms; first | omega | exact absurd z (by decide))
            · skip
              have h90 : (j + (1 : Int32)).toInt < v87.toInt := h90
              refine hs (f := dm_ald 76 0) rfl rfl ?_
              refine r_geta (c := 66) rfl hM rfl ?_
              refine hs (f := dm_ild 81 7) rfl rfl ?_
              refine hs (f := dm_push 82 (.int 1)) rfl rfl ?_
              have e91 : (j + (1 : Int32)).toInt = j.toInt + 1 := by have w := i_addc (x := j) (y := (1 : Int32)) 1 rfl (by omega) (by omega); omega
              refine hs (f := dm_ii 83 (fun x y => x + y)) (st' := [.int (j + (1 : Int32)), .ref 69]) rfl rfl ?_
              refine r_lald (L := 24000) (i := (j + (1 : Int32))) ((q.2.2.2 69) (j + (1 : Int32)).toInt.toNat) rfl hM rfl (by omega) rfl ?_
              generalize g93 : (q.2.2.2 69) (j + (1 : Int32)).toInt.toNat = v92
              have x94 : v92.toInt = rB (q.2.2.2 69) (j.toInt + 1) := rB_of (i := (j + (1 : Int32))) g93 e91
              refine hs (f := dm_goto 90) rfl rfl ?_
              exact j9 ei v92 _ hM hei (by intro z; clear hms; first | omega | exact absurd z (by decide))
          refine hs (f := dm_ild 30 6) rfl rfl ?_
          refine hs (f := dm_push 31 (.int 1)) rfl rfl ?_
          have e95 : (i + (1 : Int32)).toInt = i.toInt + 1 := by have w := i_addc (x := i) (y := (1 : Int32)) 1 rfl (by omega) (by omega); omega
          refine hs (f := dm_ii 32 (fun x y => x + y)) (st' := [.int (i + (1 : Int32))]) rfl rfl ?_
          refine hs (f := dm_ald 33 0) rfl rfl ?_
          refine r_geta (c := 70) rfl hM rfl ?_
          refine hs (f := dm_ild 37 1) rfl rfl ?_
          refine hs (f := dm_push 38 (.int 1)) rfl rfl ?_
          have e96 : (a + (1 : Int32)).toInt = a.toInt + 1 := by have w := i_addc (x := a) (y := (1 : Int32)) 1 rfl (by omega) (by omega); omega
          refine hs (f := dm_ii 39 (fun x y => x + y)) (st' := [.int (a + (1 : Int32)), .ref 73, .int (i + (1 : Int32))]) rfl rfl ?_
          refine r_iald (L := 1001) (i := (a + (1 : Int32))) ((q.2.2.1 73) (a + (1 : Int32)).toInt.toNat) rfl hM rfl (by omega) rfl ?_
          generalize g98 : (q.2.2.1 73) (a + (1 : Int32)).toInt.toNat = v97
          have x99 : v97.toInt = rA (q.2.2.1 73) (a.toInt + 1) := rA_of (i := (a + (1 : Int32))) g98 e96
          refine g_ic_ge (n := 43) (tt := 55) rfl (fun h100 => ?_) (fun h100 => ?_)
          · skip
            have h100 : (i + (1 : Int32)).toInt ≥ v97.toInt := h100
            refine hs (f := dm_push 58 (.long 1152921504606846976)) rfl rfl ?_
            exact j7 (1152921504606846976 : Int64) _ hM (by intro z; clear hms; first | omega | exact absurd z (by decide))
          · skip
            have h100 : (i + (1 : Int32)).toInt < v97.toInt := h100
            refine hs (f := dm_ald 44 0) rfl rfl ?_
            refine r_geta (c := 66) rfl hM rfl ?_
            refine hs (f := dm_ild 49 6) rfl rfl ?_
            refine hs (f := dm_push 50 (.int 1)) rfl rfl ?_
            have e101 : (i + (1 : Int32)).toInt = i.toInt + 1 := by have w := i_addc (x := i) (y := (1 : Int32)) 1 rfl (by omega) (by omega); omega
            refine hs (f := dm_ii 51 (fun x y => x + y)) (st' := [.int (i + (1 : Int32)), .ref 69]) rfl rfl ?_
            refine r_lald (L := 24000) (i := (i + (1 : Int32))) ((q.2.2.2 69) (i + (1 : Int32)).toInt.toNat) rfl hM rfl (by omega) rfl ?_
            generalize g103 : (q.2.2.2 69) (i + (1 : Int32)).toInt.toNat = v102
            have x104 : v102.toInt = rB (q.2.2.2 69) (i.toInt + 1) := rB_of (i := (i + (1 : Int32))) g103 e101
            refine hs (f := dm_goto 58) rfl rfl ?_
            exact j7 v102 _ hM (by intro z; clear hms; first | omega | exact absurd z (by decide))
      · skip
        intro i j p e7 e9 em M hM i0 i1 j0 j1 hp hms
        refine hs (f := dm_lld 21 8) rfl rfl ?_
        refine hs (f := dm_push 24 (.long 1152921504606846976)) rfl rfl ?_
        refine g_lc_ge (x := p) (y := (1152921504606846976 : Int64)) (m := 25) (n := 28) (tt := 186) rfl rfl (fun h105 => ?_) (fun h105 => ?_)
        · skip
          have h105 : p.toInt ≥ 1152921504606846976 := h105
          refine hs (f := dm_push 189 (.long 1152921504606846976)) rfl rfl ?_
          exact hr (f := dm_lret) rfl rfl (⟨rfl, _, rfl⟩)
        · skip
          have h105 : p.toInt < 1152921504606846976 := h105
          obtain ⟨i2, j2⟩ := hp (by clear hms; omega)
          have jm : ∀ (ei ej p2 : Int64) (M : dm_Mem), Rm X q M → (ei.toInt < 1152921504606846976 → i.toInt + 1 < rA (q.2.2.1 73) (a.toInt + 1)) → (ej.toInt < 1152921504606846976 → j.toInt + 1 < rA (q.2.2.1 73) (b.toInt + 1)) → ((p2.toInt = ei.toInt ∧ ei.toInt < ej.toInt) ∨ (p2.toInt = ej.toInt ∧ ej.toInt ≤ ei.toInt)) → hG 0 cd_183 107 [(12, .long ej), (10, .long ei), (7, .int j), (8, .long p), (14, .long em), (6, .int i), (0, .ref 68), (1, .int a), (2, .int b), (3, .long fr), (5, .int up)] [.long p2] M (fun r M' => M' = M ∧ ∃ v : Int64, r = some (.long v)) := by
            intro ei ej p2 M hM hei hej hmn
            refine hs (f := dm_lst 109 14) (lv' := [(14, .long p2), (12, .long ej), (10, .long ei), (7, .int j), (8, .long p), (6, .int i), (0, .ref 68), (1, .int a), (2, .int b), (3, .long fr), (5, .int up)]) rfl rfl ?_
            refine hs (f := dm_lld 111 14) rfl rfl ?_
            refine hs (f := dm_lld 112 3) rfl rfl ?_
            refine g_lc_le (x := p2) (y := fr) (m := 113) (n := 116) (tt := 157) rfl rfl (fun h106 => ?_) (fun h106 => ?_)
            · skip
              have h106 : p2.toInt ≤ fr.toInt := h106
              refine hs (f := dm_lld 159 14) rfl rfl ?_
              refine hs (f := dm_lst 161 8) (lv' := [(8, .long p2), (14, .long p2), (12, .long ej), (10, .long ei), (7, .int j), (6, .int i), (0, .ref 68), (1, .int a), (2, .int b), (3, .long fr), (5, .int up)]) rfl rfl ?_
              refine hs (f := dm_lld 163 10) rfl rfl ?_
              refine hs (f := dm_lld 165 8) rfl rfl ?_
              refine g_lc_ne (x := ei) (y := p2) (m := 166) (n := 169) (tt := 172) rfl rfl (fun h107 => ?_) (fun h107 => ?_)
              · skip
                have h107 : ¬ ei.toInt = p2.toInt := h107
                refine hs (f := dm_lld 174 12) rfl rfl ?_
                refine hs (f := dm_lld 176 8) rfl rfl ?_
                refine g_lc_ne (x := ej) (y := p2) (m := 177) (n := 180) (tt := 183) rfl rfl (fun h108 => ?_) (fun h108 => ?_)
                · skip
                  have h108 : ¬ ej.toInt = p2.toInt := h108
                  refine hs (f := dm_goto 19) rfl rfl ?_
                  exfalso
                  clear hms
                  omega
                · skip
                  have h108 : ej.toInt = p2.toInt := h108
                  have e109 : (j + 1).toInt = j.toInt + 1 := by have w := i_addc (x := j) (y := 1) 1 rfl (by omega) (by omega); omega
                  refine hs (f := dm_iinc 183 7 1) (lv' := [(7, .int (j + 1)), (8, .long p2), (14, .long p2), (12, .long ej), (10, .long ei), (6, .int i), (0, .ref 68), (1, .int a), (2, .int b), (3, .long fr), (5, .int up)]) rfl rfl ?_
                  refine hs (f := dm_goto 19) rfl rfl ?_
                  have hdec : (rA (q.2.2.1 73) (a.toInt + 1) - i.toInt).toNat + (rA (q.2.2.1 73) (b.toInt + 1) - (j + 1).toInt).toNat < nn := by rw [e109]; exact (tg_dec hms i2 j2).2.1
                  exact (IH _ hdec).2.2.1 i (j + 1) p2 ei ej p2 _ hM (by clear hms; omega) (by clear hms; omega) (by clear hms; omega) (by clear hms; omega) (by clear hms; omega) rfl
              · skip
                have h107 : ei.toInt = p2.toInt := h107
                have e110 : (i + 1).toInt = i.toInt + 1 := by have w := i_addc (x := i) (y := 1) 1 rfl (by omega) (by omega); omega
                refine hs (f := dm_iinc 172 6 1) (lv' := [(6, .int (i + 1)), (8, .long p2), (14, .long p2), (12, .long ej), (10, .long ei), (7, .int j), (0, .ref 68), (1, .int a), (2, .int b), (3, .long fr), (5, .int up)]) rfl rfl ?_
                refine hs (f := dm_lld 174 12) rfl rfl ?_
                refine hs (f := dm_lld 176 8) rfl rfl ?_
                refine g_lc_ne (x := ej) (y := p2) (m := 177) (n := 180) (tt := 183) rfl rfl (fun h111 => ?_) (fun h111 => ?_)
                · skip
                  have h111 : ¬ ej.toInt = p2.toInt := h111
                  refine hs (f := dm_goto 19) rfl rfl ?_
                  have hdec : (rA (q.2.2.1 73) (a.toInt + 1) - (i + 1).toInt).toNat + (rA (q.2.2.1 73) (b.toInt + 1) - j.toInt).toNat < nn := by rw [e110]; exact (tg_dec hms i2 j2).1
                  exact (IH _ hdec).2.1 (i + 1) j p2 ei ej p2 _ hM (by clear hms; omega) (by clear hms; omega) (by clear hms; omega) (by clear hms; omega) (by clear hms; omega) rfl
                · skip
                  have h111 : ej.toInt = p2.toInt := h111
                  have e112 : (j + 1).toInt = j.toInt + 1 := by have w := i_addc (x := j) (y := 1) 1 rfl (by omega) (by omega); omega
                  refine hs (f := dm_iinc 183 7 1) (lv' := [(7, .int (j + 1)), (6, .int (i + 1)), (8, .long p2), (14, .long p2), (12, .long ej), (10, .long ei), (0, .ref 68), (1, .int a), (2, .int b), (3, .long fr), (5, .int up)]) rfl rfl ?_
                  refine hs (f := dm_goto 19) rfl rfl ?_
                  have hdec : (rA (q.2.2.1 73) (a.toInt + 1) - (i + 1).toInt).toNat + (rA (q.2.2.1 73) (b.toInt + 1) - (j + 1).toInt).toNat < nn := by rw [e110, e112]; exact (tg_dec hms i2 j2).2.2
                  exact (IH _ hdec).2.2.2 (i + 1) (j + 1) p2 ei ej p2 _ hM (by clear hms; omega) (by clear hms; omega) (by clear hms; omega) (by clear hms; omega) (by clear hms; omega) rfl
            · skip
              have h106 : p2.toInt > fr.toInt := h106
              refine hs (f := dm_ald 117 0) rfl rfl ?_
              refine r_geta (c := 67) rfl hM rfl ?_
              refine hs (f := dm_ild 122 6) rfl rfl ?_
              refine r_iald (L := 24000) (i := i) ((q.2.2.1 70) i.toInt.toNat) rfl hM rfl (by omega) rfl ?_
              generalize g114 : (q.2.2.1 70) i.toInt.toNat = v113
              have x115 : v113.toInt = rA (q.2.2.1 70) i.toInt := rA_of (i := i) g114 rfl
              refine hs (f := dm_ald 124 0) rfl rfl ?_
              refine r_geta (c := 67) rfl hM rfl ?_
              refine hs (f := dm_ild 129 7) rfl rfl ?_
              refine r_iald (L := 24000) (i := j) ((q.2.2.1 70) j.toInt.toNat) rfl hM rfl (by omega) rfl ?_
              generalize g117 : (q.2.2.1 70) j.toInt.toNat = v116
              have x118 : v116.toInt = rA (q.2.2.1 70) j.toInt := rA_of (i := j) g117 rfl
              refine g_ic_le (n := 133) (tt := 137) rfl (fun h119 => ?_) (fun h119 => ?_)
              · skip
                have h119 : v113.toInt ≤ v116.toInt := h119
                refine hs (f := dm_push 138 (.int 0)) rfl rfl ?_
                refine hs (f := dm_ild 140 5) rfl rfl ?_
                refine g_ic_ne (n := 143) (tt := 157) rfl (fun h120 => ?_) (fun h120 => ?_)
                · skip
                  have h120 : ¬ 0 = up.toInt := h120
                  refine hs (f := dm_lld 159 14) rfl rfl ?_
                  refine hs (f := dm_lst 161 8) (lv' := [(8, .long p2), (14, .long p2), (12, .long ej), (10, .long ei), (7, .int j), (6, .int i), (0, .ref 68), (1, .int a), (2, .int b), (3, .long fr), (5, .int up)]) rfl rfl ?_
                  refine hs (f := dm_lld 163 10) rfl rfl ?_
                  refine hs (f := dm_lld 165 8) rfl rfl ?_
                  refine g_lc_ne (x := ei) (y := p2) (m := 166) (n := 169) (tt := 172) rfl rfl (fun h121 => ?_) (fun h121 => ?_)
                  · skip
                    have h121 : ¬ ei.toInt = p2.toInt := h121
                    refine hs (f := dm_lld 174 12) rfl rfl ?_
                    refine hs (f := dm_lld 176 8) rfl rfl ?_
                    refine g_lc_ne (x := ej) (y := p2) (m := 177) (n := 180) (tt := 183) rfl rfl (fun h122 => ?_) (fun h122 => ?_)
                    · skip
                      have h122 : ¬ ej.toInt = p2.toInt := h122
                      refine hs (f := dm_goto 19) rfl rfl ?_
                      exfalso
                      clear hms
                      omega
                    · skip
                      have h122 : ej.toInt = p2.toInt := h122
                      have e123 : (j + 1).toInt = j.toInt + 1 := by have w := i_addc (x := j) (y := 1) 1 rfl (by omega) (by omega); omega
                      refine hs (f := dm_iinc 183 7 1) (lv' := [(7, .int (j + 1)), (8, .long p2), (14, .long p2), (12, .long ej), (10, .long ei), (6, .int i), (0, .ref 68), (1, .int a), (2, .int b), (3, .long fr), (5, .int up)]) rfl rfl ?_
                      refine hs (f := dm_goto 19) rfl rfl ?_
                      have hdec : (rA (q.2.2.1 73) (a.toInt + 1) - i.toInt).toNat + (rA (q.2.2.1 73) (b.toInt + 1) - (j + 1).toInt).toNat < nn := by rw [e123]; exact (tg_dec hms i2 j2).2.1
                      exact (IH _ hdec).2.2.1 i (j + 1) p2 ei ej p2 _ hM (by clear hms; omega) (by clear hms; omega) (by clear hms; omega) (by clear hms; omega) (by clear hms; omega) rfl
                  · skip
                    have h121 : ei.toInt = p2.toInt := h121
                    have e124 : (i + 1).toInt = i.toInt + 1 := by have w := i_addc (x := i) (y := 1) 1 rfl (by omega) (by omega); omega
                    refine hs (f := dm_iinc 172 6 1) (lv' := [(6, .int (i + 1)), (8, .long p2), (14, .long p2), (12, .long ej), (10, .long ei), (7, .int j), (0, .ref 68), (1, .int a), (2, .int b), (3, .long fr), (5, .int up)]) rfl rfl ?_
                    refine hs (f := dm_lld 174 12) rfl rfl ?_
                    refine hs (f := dm_lld 176 8) rfl rfl ?_
                    refine g_lc_ne (x := ej) (y := p2) (m := 177) (n := 180) (tt := 183) rfl rfl (fun h125 => ?_) (fun h125 => ?_)
                    · skip
                      have h125 : ¬ ej.toInt = p2.toInt := h125
                      refine hs (f := dm_goto 19) rfl rfl ?_
                      have hdec : (rA (q.2.2.1 73) (a.toInt + 1) - (i + 1).toInt).toNat + (rA (q.2.2.1 73) (b.toInt + 1) - j.toInt).toNat < nn := by rw [e124]; exact (tg_dec hms i2 j2).1
                      exact (IH _ hdec).2.1 (i + 1) j p2 ei ej p2 _ hM (by clear hms; omega) (by clear hms; omega) (by clear hms; omega) (by clear hms; omega) (by clear hms; omega) rfl
                    · skip
                      have h125 : ej.toInt = p2.toInt := h125
                      have e126 : (j + 1).toInt = j.toInt + 1 := by have w := i_addc (x := j) (y := 1) 1 rfl (by omega) (by omega); omega
                      refine hs (f := dm_iinc 183 7 1) (lv' := [(7, .int (j + 1)), (6, .int (i + 1)), (8, .long p2), (14, .long p2), (12, .long ej), (10, .long ei), (0, .ref 68), (1, .int a), (2, .int b), (3, .long fr), (5, .int up)]) rfl rfl ?_
                      refine hs (f := dm_goto 19) rfl rfl ?_
                      have hdec : (rA (q.2.2.1 73) (a.toInt + 1) - (i + 1).toInt).toNat + (rA (q.2.2.1 73) (b.toInt + 1) - (j + 1).toInt).toNat < nn := by rw [e124, e126]; exact (tg_dec hms i2 j2).2.2
                      exact (IH _ hdec).2.2.2 (i + 1) (j + 1) p2 ei ej p2 _ hM (by clear hms; omega) (by clear hms; omega) (by clear hms; omega) (by clear hms; omega) (by clear hms; omega) rfl
                · skip
                  have h120 : 0 = up.toInt := h120
                  refine hs (f := dm_lld 145 8) rfl rfl ?_
                  refine hs (f := dm_lld 146 3) rfl rfl ?_
                  refine g_lc_le (x := p) (y := fr) (m := 147) (n := 150) (tt := 155) rfl rfl (fun h127 => ?_) (fun h127 => ?_)
                  · skip
                    have h127 : p.toInt ≤ fr.toInt := h127
                    refine hs (f := dm_lld 156 3) rfl rfl ?_
                    exact hr (f := dm_lret) rfl rfl (⟨rfl, _, rfl⟩)
                  · skip
                    have h127 : p.toInt > fr.toInt := h127
                    refine hs (f := dm_lld 152 8) rfl rfl ?_
                    refine hs (f := dm_goto 156) rfl rfl ?_
                    exact hr (f := dm_lret) rfl rfl (⟨rfl, _, rfl⟩)
              · skip
                have h119 : v113.toInt > v116.toInt := h119
                refine hs (f := dm_push 134 (.int 1)) rfl rfl ?_
                refine hs (f := dm_goto 138) rfl rfl ?_
                refine hs (f := dm_ild 140 5) rfl rfl ?_
                refine g_ic_ne (n := 143) (tt := 157) rfl (fun h128 => ?_) (fun h128 => ?_)
                · skip
                  have h128 : ¬ 1 = up.toInt := h128
                  refine hs (f := dm_lld 159 14) rfl rfl ?_
                  refine hs (f := dm_lst 161 8) (lv' := [(8, .long p2), (14, .long p2), (12, .long ej), (10, .long ei), (7, .int j), (6, .int i), (0, .ref 68), (1, .int a), (2, .int b), (3, .long fr), (5, .int up)]) rfl rfl ?_
                  refine hs (f := dm_lld 163 10) rfl rfl ?_
                  refine hs (f := dm_lld 165 8) rfl rfl ?_
                  refine g_lc_ne (x := ei) (y := p2) (m := 166) (n := 169) (tt := 172) rfl rfl (fun h129 => ?_) (fun h129 => ?_)
                  · skip
                    have h129 : ¬ ei.toInt = p2.toInt := h129
                    refine hs (f := dm_lld 174 12) rfl rfl ?_
                    refine hs (f := dm_lld 176 8) rfl rfl ?_
                    refine g_lc_ne (x := ej) (y := p2) (m := 177) (n := 180) (tt := 183) rfl rfl (fun h130 => ?_) (fun h130 => ?_)
                    · skip
                      have h130 : ¬ ej.toInt = p2.toInt := h130
                      refine hs (f := dm_goto 19) rfl rfl ?_
                      exfalso
                      clear hms
                      omega
                    · skip
                      have h130 : ej.toInt = p2.toInt := h130
                      have e131 : (j + 1).toInt = j.toInt + 1 := by have w := i_addc (x := j) (y := 1) 1 rfl (by omega) (by omega); omega
                      refine hs (f := dm_iinc 183 7 1) (lv' := [(7, .int (j + 1)), (8, .long p2), (14, .long p2), (12, .long ej), (10, .long ei), (6, .int i), (0, .ref 68), (1, .int a), (2, .int b), (3, .long fr), (5, .int up)]) rfl rfl ?_
                      refine hs (f := dm_goto 19) rfl rfl ?_
                      have hdec : (rA (q.2.2.1 73) (a.toInt + 1) - i.toInt).toNat + (rA (q.2.2.1 73) (b.toInt + 1) - (j + 1).toInt).toNat < nn := by rw [e131]; exact (tg_dec hms i2 j2).2.1
                      exact (IH _ hdec).2.2.1 i (j + 1) p2 ei ej p2 _ hM (by clear hms; omega) (by clear hms; omega) (by clear hms; omega) (by clear hms; omega) (by clear hms; omega) rfl
                  · skip
                    have h129 : ei.toInt = p2.toInt := h129
                    have e132 : (i + 1).toInt = i.toInt + 1 := by have w := i_addc (x := i) (y := 1) 1 rfl (by omega) (by omega); omega
                    refine hs (f := dm_iinc 172 6 1) (lv' := [(6, .int (i + 1)), (8, .long p2), (14, .long p2), (12, .long ej), (10, .long ei), (7, .int j), (0, .ref 68), (1, .int a), (2, .int b), (3, .long fr), (5, .int up)]) rfl rfl ?_
                    refine hs (f := dm_lld 174 12) rfl rfl ?_
                    refine hs (f := dm_lld 176 8) rfl rfl ?_
                    refine g_lc_ne (x := ej) (y := p2) (m := 177) (n := 180) (tt := 183) rfl rfl (fun h133 => ?_) (fun h133 => ?_)
                    · skip
                      have h133 : ¬ ej.toInt = p2.toInt := h133
                      refine hs (f := dm_goto 19) rfl rfl ?_
                      have hdec : (rA (q.2.2.1 73) (a.toInt + 1) - (i + 1).toInt).toNat + (rA (q.2.2.1 73) (b.toInt + 1) - j.toInt).toNat < nn := by rw [e132]; exact (tg_dec hms i2 j2).1
                      exact (IH _ hdec).2.1 (i + 1) j p2 ei ej p2 _ hM (by clear hms; omega) (by clear hms; omega) (by clear hms; omega) (by clear hms; omega) (by clear hms; omega) rfl
                    · skip
                      have h133 : ej.toInt = p2.toInt := h133
                      have e134 : (j + 1).toInt = j.toInt + 1 := by have w := i_addc (x := j) (y := 1) 1 rfl (by omega) (by omega); omega
                      refine hs (f := dm_iinc 183 7 1) (lv' := [(7, .int (j + 1)), (6, .int (i + 1)), (8, .long p2), (14, .long p2), (12, .long ej), (10, .long ei), (0, .ref 68), (1, .int a), (2, .int b), (3, .long fr), (5, .int up)]) rfl rfl ?_
                      refine hs (f := dm_goto 19) rfl rfl ?_
                      have hdec : (rA (q.2.2.1 73) (a.toInt + 1) - (i + 1).toInt).toNat + (rA (q.2.2.1 73) (b.toInt + 1) - (j + 1).toInt).toNat < nn := by rw [e132, e134]; exact (tg_dec hms i2 j2).2.2
                      exact (IH _ hdec).2.2.2 (i + 1) (j + 1) p2 ei ej p2 _ hM (by clear hms; omega) (by clear hms; omega) (by clear hms; omega) (by clear hms; omega) (by clear hms; omega) rfl
                · skip
                  have h128 : 1 = up.toInt := h128
                  refine hs (f := dm_lld 145 8) rfl rfl ?_
                  refine hs (f := dm_lld 146 3) rfl rfl ?_
                  refine g_lc_le (x := p) (y := fr) (m := 147) (n := 150) (tt := 155) rfl rfl (fun h135 => ?_) (fun h135 => ?_)
                  · skip
                    have h135 : p.toInt ≤ fr.toInt := h135
                    refine hs (f := dm_lld 156 3) rfl rfl ?_
                    exact hr (f := dm_lret) rfl rfl (⟨rfl, _, rfl⟩)
                  · skip
                    have h135 : p.toInt > fr.toInt := h135
                    refine hs (f := dm_lld 152 8) rfl rfl ?_
                    refine hs (f := dm_goto 156) rfl rfl ?_
                    exact hr (f := dm_lret) rfl rfl (⟨rfl, _, rfl⟩)
          have j9 : ∀ (ei ej : Int64) (M : dm_Mem), Rm X q M → (ei.toInt < 1152921504606846976 → i.toInt + 1 < rA (q.2.2.1 73) (a.toInt + 1)) → (ej.toInt < 1152921504606846976 → j.toInt + 1 < rA (q.2.2.1 73) (b.toInt + 1)) → hG 0 cd_183 90 [(10, .long ei), (7, .int j), (8, .long p), (14, .long em), (12, .long e9), (6, .int i), (0, .ref 68), (1, .int a), (2, .int b), (3, .long fr), (5, .int up)] [.long ej] M (fun r M' => M' = M ∧ ∃ v : Int64, r = some (.long v)) := by
            intro ei ej M hM hei hej
            refine hs (f := dm_lst 92 12) (lv' := [(12, .long ej), (10, .long ei), (7, .int j), (8, .long p), (14, .long em), (6, .int i), (0, .ref 68), (1, .int a), (2, .int b), (3, .long fr), (5, .int up)]) rfl rfl ?_
            refine hs (f := dm_lld 94 10) rfl rfl ?_
            refine hs (f := dm_lld 96 12) rfl rfl ?_
            refine g_lc_ge (x := ei) (y := ej) (m := 97) (n := 100) (tt := 105) rfl rfl (fun h136 => ?_) (fun h136 => ?_)
            · skip
              have h136 : ei.toInt ≥ ej.toInt := h136
              refine hs (f := dm_lld 107 12) rfl rfl ?_
              exact jm ei ej ej _ hM hei hej (by clear hms; omega)
            · skip
              have h136 : ei.toInt < ej.toInt := h136
              refine hs (f := dm_lld 102 10) rfl rfl ?_
              refine hs (f := dm_goto 107) rfl rfl ?_
              exact jm ei ej ei _ hM hei hej (by clear hms; omega)
          have j7 : ∀ (ei : Int64) (M : dm_Mem), Rm X q M → (ei.toInt < 1152921504606846976 → i.toInt + 1 < rA (q.2.2.1 73) (a.toInt + 1)) → hG 0 cd_183 58 [(7, .int j), (8, .long p), (14, .long em), (12, .long e9), (10, .long e7), (6, .int i), (0, .ref 68), (1, .int a), (2, .int b), (3, .long fr), (5, .int up)] [.long ei] M (fun r M' => M' = M ∧ ∃ v : Int64, r = some (.long v)) := by
            intro ei M hM hei
            refine hs (f := dm_lst 60 10) (lv' := [(10, .long ei), (7, .int j), (8, .long p), (14, .long em), (12, .long e9), (6, .int i), (0, .ref 68), (1, .int a), (2, .int b), (3, .long fr), (5, .int up)]) rfl rfl ?_
            refine hs (f := dm_ild 62 7) rfl rfl ?_
            refine hs (f := dm_push 63 (.int 1)) rfl rfl ?_
            have e137 : (j + (1 : Int32)).toInt = j.toInt + 1 := by have w := i_addc (x := j) (y := (1 : Int32)) 1 rfl (by omega) (by omega); omega
            refine hs (f := dm_ii 64 (fun x y => x + y)) (st' := [.int (j + (1 : Int32))]) rfl rfl ?_
            refine hs (f := dm_ald 65 0) rfl rfl ?_
            refine r_geta (c := 70) rfl hM rfl ?_
            refine hs (f := dm_ild 69 2) rfl rfl ?_
            refine hs (f := dm_push 70 (.int 1)) rfl rfl ?_
            have e138 : (b + (1 : Int32)).toInt = b.toInt + 1 := by have w := i_addc (x := b) (y := (1 : Int32)) 1 rfl (by omega) (by omega); omega
            refine hs (f := dm_ii 71 (fun x y => x + y)) (st' := [.int (b + (1 : Int32)), .ref 73, .int (j + (1 : Int32))]) rfl rfl ?_
            refine r_iald (L := 1001) (i := (b + (1 : Int32))) ((q.2.2.1 73) (b + (1 : Int32)).toInt.toNat) rfl hM rfl (by omega) rfl ?_
            generalize g140 : (q.2.2.1 73) (b + (1 : Int32)).toInt.toNat = v139
            have x141 : v139.toInt = rA (q.2.2.1 73) (b.toInt + 1) := rA_of (i := (b + (1 : Int32))) g140 e138
            refine g_ic_ge (n := 75) (tt := 87) rfl (fun h142 => ?_) (fun h142 => ?_)
            · skip
              have h142 : (j + (1 : Int32)).toInt ≥ v139.toInt := h142
              refine hs (f := dm_push 90 (.long 1152921504606846976)) rfl rfl ?_
              exact j9 ei (1152921504606846976 : Int64) _ hM hei (by intro z; clear hms; first | omega | exact absurd z (by decide))
            · skip
              have h142 : (j + (1 : Int32)).toInt < v139.toInt := h142
              refine hs (f := dm_ald 76 0) rfl rfl ?_
              refine r_geta (c := 66) rfl hM rfl ?_
              refine hs (f := dm_ild 81 7) rfl rfl ?_
              refine hs (f := dm_push 82 (.int 1)) rfl rfl ?_
              have e143 : (j + (1 : Int32)).toInt = j.toInt + 1 := by have w := i_addc (x := j) (y := (1 : Int32)) 1 rfl (by omega) (by omega); omega
              refine hs (f := dm_ii 83 (fun x y => x + y)) (st' := [.int (j + (1 : Int32)), .ref 69]) rfl rfl ?_
              refine r_lald (L := 24000) (i := (j + (1 : Int32))) ((q.2.2.2 69) (j + (1 : Int32)).toInt.toNat) rfl hM rfl (by omega) rfl ?_
              generalize g145 : (q.2.2.2 69) (j + (1 : Int32)).toInt.toNat = v144
              have x146 : v144.toInt = rB (q.2.2.2 69) (j.toInt + 1) := rB_of (i := (j + (1 : Int32))) g145 e143
              refine hs (f := dm_goto 90) rfl rfl ?_
              exact j9 ei v144 _ hM hei (by intro z; clear hms; first | omega | exact absurd z (by decide))
          refine hs (f := dm_ild 30 6) rfl rfl ?_
          refine hs (f := dm_push 31 (.int 1)) rfl rfl ?_
          have e147 : (i + (1 : Int32)).toInt = i.toInt + 1 := by have w := i_addc (x := i) (y := (1 : Int32)) 1 rfl (by omega) (by omega); omega
          refine hs (f := dm_ii 32 (fun x y => x + y)) (st' := [.int (i + (1 : Int32))]) rfl rfl ?_
          refine hs (f := dm_ald 33 0) rfl rfl ?_
          refine r_geta (c := 70) rfl hM rfl ?_
          refine hs (f := dm_ild 37 1) rfl rfl ?_
          refine hs (f := dm_push 38 (.int 1)) rfl rfl ?_
          have e148 : (a + (1 : Int32)).toInt = a.toInt + 1 := by have w := i_addc (x := a) (y := (1 : Int32)) 1 rfl (by omega) (by omega); omega
          refine hs (f := dm_ii 39 (fun x y => x + y)) (st' := [.int (a + (1 : Int32)), .ref 73, .int (i + (1 : Int32))]) rfl rfl ?_
          refine r_iald (L := 1001) (i := (a + (1 : Int32))) ((q.2.2.1 73) (a + (1 : Int32)).toInt.toNat) rfl hM rfl (by omega) rfl ?_
          generalize g150 : (q.2.2.1 73) (a + (1 : Int32)).toInt.toNat = v149
          have x151 : v149.toInt = rA (q.2.2.1 73) (a.toInt + 1) := rA_of (i := (a + (1 : Int32))) g150 e148
          refine g_ic_ge (n := 43) (tt := 55) rfl (fun h152 => ?_) (fun h152 => ?_)
          · skip
            have h152 : (i + (1 : Int32)).toInt ≥ v149.toInt := h152
            refine hs (f := dm_push 58 (.long 1152921504606846976)) rfl rfl ?_
            exact j7 (1152921504606846976 : Int64) _ hM (by intro z; clear hms; first | omega | exact absurd z (by decide))
          · skip
            have h152 : (i + (1 : Int32)).toInt < v149.toInt := h152
            refine hs (f := dm_ald 44 0) rfl rfl ?_
            refine r_geta (c := 66) rfl hM rfl ?_
            refine hs (f := dm_ild 49 6) rfl rfl ?_
            refine hs (f := dm_push 50 (.int 1)) rfl rfl ?_
            have e153 : (i + (1 : Int32)).toInt = i.toInt + 1 := by have w := i_addc (x := i) (y := (1 : Int32)) 1 rfl (by omega) (by omega); omega
            refine hs (f := dm_ii 51 (fun x y => x + y)) (st' := [.int (i + (1 : Int32)), .ref 69]) rfl rfl ?_
            refine r_lald (L := 24000) (i := (i + (1 : Int32))) ((q.2.2.2 69) (i + (1 : Int32)).toInt.toNat) rfl hM rfl (by omega) rfl ?_
            generalize g155 : (q.2.2.2 69) (i + (1 : Int32)).toInt.toNat = v154
            have x156 : v154.toInt = rB (q.2.2.2 69) (i.toInt + 1) := rB_of (i := (i + (1 : Int32))) g155 e153
            refine hs (f := dm_goto 58) rfl rfl ?_
            exact j7 v154 _ hM (by intro z; clear hms; first | omega | exact absurd z (by decide))
      · skip
        intro i j p e7 e9 em M hM i0 i1 j0 j1 hp hms
        refine hs (f := dm_lld 21 8) rfl rfl ?_
        refine hs (f := dm_push 24 (.long 1152921504606846976)) rfl rfl ?_
        refine g_lc_ge (x := p) (y := (1152921504606846976 : Int64)) (m := 25) (n := 28) (tt := 186) rfl rfl (fun h157 => ?_) (fun h157 => ?_)
        · skip
          have h157 : p.toInt ≥ 1152921504606846976 := h157
          refine hs (f := dm_push 189 (.long 1152921504606846976)) rfl rfl ?_
          exact hr (f := dm_lret) rfl rfl (⟨rfl, _, rfl⟩)
        · skip
          have h157 : p.toInt < 1152921504606846976 := h157
          obtain ⟨i2, j2⟩ := hp (by clear hms; omega)
          have jm : ∀ (ei ej p2 : Int64) (M : dm_Mem), Rm X q M → (ei.toInt < 1152921504606846976 → i.toInt + 1 < rA (q.2.2.1 73) (a.toInt + 1)) → (ej.toInt < 1152921504606846976 → j.toInt + 1 < rA (q.2.2.1 73) (b.toInt + 1)) → ((p2.toInt = ei.toInt ∧ ei.toInt < ej.toInt) ∨ (p2.toInt = ej.toInt ∧ ej.toInt ≤ ei.toInt)) → hG 0 cd_183 107 [(12, .long ej), (10, .long ei), (7, .int j), (6, .int i), (8, .long p), (14, .long em), (0, .ref 68), (1, .int a), (2, .int b), (3, .long fr), (5, .int up)] [.long p2] M (fun r M' => M' = M ∧ ∃ v : Int64, r = some (.long v)) := by
            intro ei ej p2 M hM hei hej hmn
            refine hs (f := dm_lst 109 14) (lv' := [(14, .long p2), (12, .long ej), (10, .long ei), (7, .int j), (6, .int i), (8, .long p), (0, .ref 68), (1, .int a), (2, .int b), (3, .long fr), (5, .int up)]) rfl rfl ?_
            refine hs (f := dm_lld 111 14) rfl rfl ?_
            refine hs (f := dm_lld 112 3) rfl rfl ?_
            refine g_lc_le (x := p2) (y := fr) (m := 113) (n := 116) (tt := 157) rfl rfl (fun h158 => ?_) (fun h158 => ?_)
            · skip
              have h158 : p2.toInt ≤ fr.toInt := h158
              refine hs (f := dm_lld 159 14) rfl rfl ?_
              refine hs (f := dm_lst 161 8) (lv' := [(8, .long p2), (14, .long p2), (12, .long ej), (10, .long ei), (7, .int j), (6, .int i), (0, .ref 68), (1, .int a), (2, .int b), (3, .long fr), (5, .int up)]) rfl rfl ?_
              refine hs (f := dm_lld 163 10) rfl rfl ?_
              refine hs (f := dm_lld 165 8) rfl rfl ?_
              refine g_lc_ne (x := ei) (y := p2) (m := 166) (n := 169) (tt := 172) rfl rfl (fun h159 => ?_) (fun h159 => ?_)
              · skip
                have h159 : ¬ ei.toInt = p2.toInt := h159
                refine hs (f := dm_lld 174 12) rfl rfl ?_
                refine hs (f := dm_lld 176 8) rfl rfl ?_
                refine g_lc_ne (x := ej) (y := p2) (m := 177) (n := 180) (tt := 183) rfl rfl (fun h160 => ?_) (fun h160 => ?_)
                · skip
                  have h160 : ¬ ej.toInt = p2.toInt := h160
                  refine hs (f := dm_goto 19) rfl rfl ?_
                  exfalso
                  clear hms
                  omega
                · skip
                  have h160 : ej.toInt = p2.toInt := h160
                  have e161 : (j + 1).toInt = j.toInt + 1 := by have w := i_addc (x := j) (y := 1) 1 rfl (by omega) (by omega); omega
                  refine hs (f := dm_iinc 183 7 1) (lv' := [(7, .int (j + 1)), (8, .long p2), (14, .long p2), (12, .long ej), (10, .long ei), (6, .int i), (0, .ref 68), (1, .int a), (2, .int b), (3, .long fr), (5, .int up)]) rfl rfl ?_
                  refine hs (f := dm_goto 19) rfl rfl ?_
                  have hdec : (rA (q.2.2.1 73) (a.toInt + 1) - i.toInt).toNat + (rA (q.2.2.1 73) (b.toInt + 1) - (j + 1).toInt).toNat < nn := by rw [e161]; exact (tg_dec hms i2 j2).2.1
                  exact (IH _ hdec).2.2.1 i (j + 1) p2 ei ej p2 _ hM (by clear hms; omega) (by clear hms; omega) (by clear hms; omega) (by clear hms; omega) (by clear hms; omega) rfl
              · skip
                have h159 : ei.toInt = p2.toInt := h159
                have e162 : (i + 1).toInt = i.toInt + 1 := by have w := i_addc (x := i) (y := 1) 1 rfl (by omega) (by omega); omega
                refine hs (f := dm_iinc 172 6 1) (lv' := [(6, .int (i + 1)), (8, .long p2), (14, .long p2), (12, .long ej), (10, .long ei), (7, .int j), (0, .ref 68), (1, .int a), (2, .int b), (3, .long fr), (5, .int up)]) rfl rfl ?_
                refine hs (f := dm_lld 174 12) rfl rfl ?_
                refine hs (f := dm_lld 176 8) rfl rfl ?_
                refine g_lc_ne (x := ej) (y := p2) (m := 177) (n := 180) (tt := 183) rfl rfl (fun h163 => ?_) (fun h163 => ?_)
                · skip
                  have h163 : ¬ ej.toInt = p2.toInt := h163
                  refine hs (f := dm_goto 19) rfl rfl ?_
                  have hdec : (rA (q.2.2.1 73) (a.toInt + 1) - (i + 1).toInt).toNat + (rA (q.2.2.1 73) (b.toInt + 1) - j.toInt).toNat < nn := by rw [e162]; exact (tg_dec hms i2 j2).1
                  exact (IH _ hdec).2.1 (i + 1) j p2 ei ej p2 _ hM (by clear hms; omega) (by clear hms; omega) (by clear hms; omega) (by clear hms; omega) (by clear hms; omega) rfl
                · skip
                  have h163 : ej.toInt = p2.toInt := h163
                  have e164 : (j + 1).toInt = j.toInt + 1 := by have w := i_addc (x := j) (y := 1) 1 rfl (by omega) (by omega); omega
                  refine hs (f := dm_iinc 183 7 1) (lv' := [(7, .int (j + 1)), (6, .int (i + 1)), (8, .long p2), (14, .long p2), (12, .long ej), (10, .long ei), (0, .ref 68), (1, .int a), (2, .int b), (3, .long fr), (5, .int up)]) rfl rfl ?_
                  refine hs (f := dm_goto 19) rfl rfl ?_
                  have hdec : (rA (q.2.2.1 73) (a.toInt + 1) - (i + 1).toInt).toNat + (rA (q.2.2.1 73) (b.toInt + 1) - (j + 1).toInt).toNat < nn := by rw [e162, e164]; exact (tg_dec hms i2 j2).2.2
                  exact (IH _ hdec).2.2.2 (i + 1) (j + 1) p2 ei ej p2 _ hM (by clear hms; omega) (by clear hms; omega) (by clear hms; omega) (by clear hms; omega) (by clear hms; omega) rfl
            · skip
              have h158 : p2.toInt > fr.toInt := h158
              refine hs (f := dm_ald 117 0) rfl rfl ?_
              refine r_geta (c := 67) rfl hM rfl ?_
              refine hs (f := dm_ild 122 6) rfl rfl ?_
              refine r_iald (L := 24000) (i := i) ((q.2.2.1 70) i.toInt.toNat) rfl hM rfl (by omega) rfl ?_
              generalize g166 : (q.2.2.1 70) i.toInt.toNat = v165
              have x167 : v165.toInt = rA (q.2.2.1 70) i.toInt := rA_of (i := i) g166 rfl
              refine hs (f := dm_ald 124 0) rfl rfl ?_
              refine r_geta (c := 67) rfl hM rfl ?_
              refine hs (f := dm_ild 129 7) rfl rfl ?_
              refine r_iald (L := 24000) (i := j) ((q.2.2.1 70) j.toInt.toNat) rfl hM rfl (by omega) rfl ?_
              generalize g169 : (q.2.2.1 70) j.toInt.toNat = v168
              have x170 : v168.toInt = rA (q.2.2.1 70) j.toInt := rA_of (i := j) g169 rfl
              refine g_ic_le (n := 133) (tt := 137) rfl (fun h171 => ?_) (fun h171 => ?_)
              · skip
                have h171 : v165.toInt ≤ v168.toInt := h171
                refine hs (f := dm_push 138 (.int 0)) rfl rfl ?_
                refine hs (f := dm_ild 140 5) rfl rfl ?_
                refine g_ic_ne (n := 143) (tt := 157) rfl (fun h172 => ?_) (fun h172 => ?_)
                · skip
                  have h172 : ¬ 0 = up.toInt := h172
                  refine hs (f := dm_lld 159 14) rfl rfl ?_
                  refine hs (f := dm_lst 161 8) (lv' := [(8, .long p2), (14, .long p2), (12, .long ej), (10, .long ei), (7, .int j), (6, .int i), (0, .ref 68), (1, .int a), (2, .int b), (3, .long fr), (5, .int up)]) rfl rfl ?_
                  refine hs (f := dm_lld 163 10) rfl rfl ?_
                  refine hs (f := dm_lld 165 8) rfl rfl ?_
                  refine g_lc_ne (x := ei) (y := p2) (m := 166) (n := 169) (tt := 172) rfl rfl (fun h173 => ?_) (fun h173 => ?_)
                  · skip
                    have h173 : ¬ ei.toInt = p2.toInt := h173
                    refine hs (f := dm_lld 174 12) rfl rfl ?_
                    refine hs (f := dm_lld 176 8) rfl rfl ?_
                    refine g_lc_ne (x := ej) (y := p2) (m := 177) (n := 180) (tt := 183) rfl rfl (fun h174 => ?_) (fun h174 => ?_)
                    · skip
                      have h174 : ¬ ej.toInt = p2.toInt := h174
                      refine hs (f := dm_goto 19) rfl rfl ?_
                      exfalso
                      clear hms
                      omega
                    · skip
                      have h174 : ej.toInt = p2.toInt := h174
                      have e175 : (j + 1).toInt = j.toInt + 1 := by have w := i_addc (x := j) (y := 1) 1 rfl (by omega) (by omega); omega
                      refine hs (f := dm_iinc 183 7 1) (lv' := [(7, .int (j + 1)), (8, .long p2), (14, .long p2), (12, .long ej), (10, .long ei), (6, .int i), (0, .ref 68), (1, .int a), (2, .int b), (3, .long fr), (5, .int up)]) rfl rfl ?_
                      refine hs (f := dm_goto 19) rfl rfl ?_
                      have hdec : (rA (q.2.2.1 73) (a.toInt + 1) - i.toInt).toNat + (rA (q.2.2.1 73) (b.toInt + 1) - (j + 1).toInt).toNat < nn := by rw [e175]; exact (tg_dec hms i2 j2).2.1
                      exact (IH _ hdec).2.2.1 i (j + 1) p2 ei ej p2 _ hM (by clear hms; omega) (by clear hms; omega) (by clear hms; omega) (by clear hms; omega) (by clear hms; omega) rfl
                  · skip
                    have h173 : ei.toInt = p2.toInt := h173
                    have e176 : (i + 1).toInt = i.toInt + 1 := by have w := i_addc (x := i) (y := 1) 1 rfl (by omega) (by omega); omega
                    refine hs (f := dm_iinc 172 6 1) (lv' := [(6, .int (i + 1)), (8, .long p2), (14, .long p2), (12, .long ej), (10, .long ei), (7, .int j), (0, .ref 68), (1, .int a), (2, .int b), (3, .long fr), (5, .int up)]) rfl rfl ?_
                    refine hs (f := dm_lld 174 12) rfl rfl ?_
                    refine hs (f := dm_lld 176 8) rfl rfl ?_
                    refine g_lc_ne (x := ej) (y := p2) (m := 177) (n := 180) (tt := 183) rfl rfl (fun h177 => ?_) (fun h177 => ?_)
                    · skip
                      have h177 : ¬ ej.toInt = p2.toInt := h177
                      refine hs (f := dm_goto 19) rfl rfl ?_
                      have hdec : (rA (q.2.2.1 73) (a.toInt + 1) - (i + 1).toInt).toNat + (rA (q.2.2.1 73) (b.toInt + 1) - j.toInt).toNat < nn := by rw [e176]; exact (tg_dec hms i2 j2).1
                      exact (IH _ hdec).2.1 (i + 1) j p2 ei ej p2 _ hM (by clear hms; omega) (by clear hms; omega) (by clear hms; omega) (by clear hms; omega) (by clear hms; omega) rfl
                    · skip
                      have h177 : ej.toInt = p2.toInt := h177
                      have e178 : (j + 1).toInt = j.toInt + 1 := by have w := i_addc (x := j) (y := 1) 1 rfl (by omega) (by omega); omega
                      refine hs (f := dm_iinc 183 7 1) (lv' := [(7, .int (j + 1)), (6, .int (i + 1)), (8, .long p2), (14, .long p2), (12, .long ej), (10, .long ei), (0, .ref 68), (1, .int a), (2, .int b), (3, .long fr), (5, .int up)]) rfl rfl ?_
                      refine hs (f := dm_goto 19) rfl rfl ?_
                      have hdec : (rA (q.2.2.1 73) (a.toInt + 1) - (i + 1).toInt).toNat + (rA (q.2.2.1 73) (b.toInt + 1) - (j + 1).toInt).toNat < nn := by rw [e176, e178]; exact (tg_dec hms i2 j2).2.2
                      exact (IH _ hdec).2.2.2 (i + 1) (j + 1) p2 ei ej p2 _ hM (by clear hms; omega) (by clear hms; omega) (by clear hms; omega) (by clear hms; omega) (by clear hms; omega) rfl
                · skip
                  have h172 : 0 = up.toInt := h172
                  refine hs (f := dm_lld 145 8) rfl rfl ?_
                  refine hs (f := dm_lld 146 3) rfl rfl ?_
                  refine g_lc_le (x := p) (y := fr) (m := 147) (n := 150) (tt := 155) rfl rfl (fun h179 => ?_) (fun h179 => ?_)
                  · skip
                    have h179 : p.toInt ≤ fr.toInt := h179
                    refine hs (f := dm_lld 156 3) rfl rfl ?_
                    exact hr (f := dm_lret) rfl rfl (⟨rfl, _, rfl⟩)
                  · skip
                    have h179 : p.toInt > fr.toInt := h179
                    refine hs (f := dm_lld 152 8) rfl rfl ?_
                    refine hs (f := dm_goto 156) rfl rfl ?_
                    exact hr (f := dm_lret) rfl rfl (⟨rfl, _, rfl⟩)
              · skip
                have h171 : v165.toInt > v168.toInt := h171
                refine hs (f := dm_push 134 (.int 1)) rfl rfl ?_
                refine hs (f := dm_goto 138) rfl rfl ?_
                refine hs (f := dm_ild 140 5) rfl rfl ?_
                refine g_ic_ne (n := 143) (tt := 157) rfl (fun h180 => ?_) (fun h180 => ?_)
                · skip
                  have h180 : ¬ 1 = up.toInt := h180
                  refine hs (f := dm_lld 159 14) rfl rfl ?_
                  refine hs (f := dm_lst 161 8) (lv' := [(8, .long p2), (14, .long p2), (12, .long ej), (10, .long ei), (7, .int j), (6, .int i), (0, .ref 68), (1, .int a), (2, .int b), (3, .long fr), (5, .int up)]) rfl rfl ?_
                  refine hs (f := dm_lld 163 10) rfl rfl ?_
                  refine hs (f := dm_lld 165 8) rfl rfl ?_
                  refine g_lc_ne (x := ei) (y := p2) (m := 166) (n := 169) (tt := 172) rfl rfl (fun h181 => ?_) (fun h181 => ?_)
                  · skip
                    have h181 : ¬ ei.toInt = p2.toInt := h181
                    refine hs (f := dm_lld 174 12) rfl rfl ?_
                    refine hs (f := dm_lld 176 8) rfl rfl ?_
                    refine g_lc_ne (x := ej) (y := p2) (m := 177) (n := 180) (tt := 183) rfl rfl (fun h182 => ?_) (fun h182 => ?_)
                    · skip
                      have h182 : ¬ ej.toInt = p2.toInt := h182
                      refine hs (f := dm_goto 19) rfl rfl ?_
                      exfalso
                      clear hms
                      omega
                    · skip
                      have h182 : ej.toInt = p2.toInt := h182
                      have e183 : (j + 1).toInt = j.toInt + 1 := by have w := i_addc (x := j) (y := 1) 1 rfl (by omega) (by omega); omega
                      refine hs (f := dm_iinc 183 7 1) (lv' := [(7, .int (j + 1)), (8, .long p2), (14, .long p2), (12, .long ej), (10, .long ei), (6, .int i), (0, .ref 68), (1, .int a), (2, .int b), (3, .long fr), (5, .int up)]) rfl rfl ?_
                      refine hs (f := dm_goto 19) rfl rfl ?_
                      have hdec : (rA (q.2.2.1 73) (a.toInt + 1) - i.toInt).toNat + (rA (q.2.2.1 73) (b.toInt + 1) - (j + 1).toInt).toNat < nn := by rw [e183]; exact (tg_dec hms i2 j2).2.1
                      exact (IH _ hdec).2.2.1 i (j + 1) p2 ei ej p2 _ hM (by clear hms; omega) (by clear hms; omega) (by clear hms; omega) (by clear hms; omega) (by clear hms; omega) rfl
                  · skip
                    have h181 : ei.toInt = p2.toInt := h181
                    have e184 : (i + 1).toInt = i.toInt + 1 := by have w := i_addc (x := i) (y := 1) 1 rfl (by omega) (by omega); omega
                    refine hs (f := dm_iinc 172 6 1) (lv' := [(6, .int (i + 1)), (8, .long p2), (14, .long p2), (12, .long ej), (10, .long ei), (7, .int j), (0, .ref 68), (1, .int a), (2, .int b), (3, .long fr), (5, .int up)]) rfl rfl ?_
                    refine hs (f := dm_lld 174 12) rfl rfl ?_
                    refine hs (f := dm_lld 176 8) rfl rfl ?_
                    refine g_lc_ne (x := ej) (y := p2) (m := 177) (n := 180) (tt := 183) rfl rfl (fun h185 => ?_) (fun h185 => ?_)
                    · skip
                      have h185 : ¬ ej.toInt = p2.toInt := h185
                      refine hs (f := dm_goto 19) rfl rfl ?_
                      have hdec : (rA (q.2.2.1 73) (a.toInt + 1) - (i + 1).toInt).toNat + (rA (q.2.2.1 73) (b.toInt + 1) - j.toInt).toNat < nn := by rw [e184]; exact (tg_dec hms i2 j2).1
                      exact (IH _ hdec).2.1 (i + 1) j p2 ei ej p2 _ hM (by clear hms; omega) (by clear hms; omega) (by clear hms; omega) (by clear hms; omega) (by clear hms; omega) rfl
                    · skip
                      have h185 : ej.toInt = p2.toInt := h185
                      have e186 : (j + 1).toInt = j.toInt + 1 := by have w := i_addc (x := j) (y := 1) 1 rfl (by omega) (by omega); omega
                      refine hs (f := dm_iinc 183 7 1) (lv' := [(7, .int (j + 1)), (6, .int (i + 1)), (8, .long p2), (14, .long p2), (12, .long ej), (10, .long ei), (0, .ref 68), (1, .int a), (2, .int b), (3, .long fr), (5, .int up)]) rfl rfl ?_
                      refine hs (f := dm_goto 19) rfl rfl ?_
                      have hdec : (rA (q.2.2.1 73) (a.toInt + 1) - (i + 1).toInt).toNat + (rA (q.2.2.1 73) (b.toInt + 1) - (j + 1).toInt).toNat < nn := by rw [e184, e186]; exact (tg_dec hms i2 j2).2.2
                      exact (IH _ hdec).2.2.2 (i + 1) (j + 1) p2 ei ej p2 _ hM (by clear hms; omega) (by clear hms; omega) (by clear hms; omega) (by clear hms; omega) (by clear hms; omega) rfl
                · skip
                  have h180 : 1 = up.toInt := h180
                  refine hs (f := dm_lld 145 8) rfl rfl ?_
                  refine hs (f := dm_lld 146 3) rfl rfl ?_
                  refine g_lc_le (x := p) (y := fr) (m := 147) (n := 150) (tt := 155) rfl rfl (fun h187 => ?_) (fun h187 => ?_)
                  · skip
                    have h187 : p.toInt ≤ fr.toInt := h187
                    refine hs (f := dm_lld 156 3) rfl rfl ?_
                    exact hr (f := dm_lret) rfl rfl (⟨rfl, _, rfl⟩)
                  · skip
                    have h187 : p.toInt > fr.toInt := h187
                    refine hs (f := dm_lld 152 8) rfl rfl ?_
                    refine hs (f := dm_goto 156) rfl rfl ?_
                    exact hr (f := dm_lret) rfl rfl (⟨rfl, _, rfl⟩)
          have j9 : ∀ (ei ej : Int64) (M : dm_Mem), Rm X q M → (ei.toInt < 1152921504606846976 → i.toInt + 1 < rA (q.2.2.1 73) (a.toInt + 1)) → (ej.toInt < 1152921504606846976 → j.toInt + 1 < rA (q.2.2.1 73) (b.toInt + 1)) → hG 0 cd_183 90 [(10, .long ei), (7, .int j), (6, .int i), (8, .long p), (14, .long em), (12, .long e9), (0, .ref 68), (1, .int a), (2, .int b), (3, .long fr), (5, .int up)] [.long ej] M (fun r M' => M' = M ∧ ∃ v : Int64, r = some (.long v)) := by
            intro ei ej M hM hei hej
            refine hs (f := dm_lst 92 12) (lv' := [(12, .long ej), (10, .long ei), (7, .int j), (6, .int i), (8, .long p), (14, .long em), (0, .ref 68), (1, .int a), (2, .int b), (3, .long fr), (5, .int up)]) rfl rfl ?_
            refine hs (f := dm_lld 94 10) rfl rfl ?_
            refine hs (f := dm_lld 96 12) rfl rfl ?_
            refine g_lc_ge (x := ei) (y := ej) (m := 97) (n := 100) (tt := 105) rfl rfl (fun h188 => ?_) (fun h188 => ?_)
            · skip
              have h188 : ei.toInt ≥ ej.toInt := h188
              refine hs (f := dm_lld 107 12) rfl rfl ?_
              exact jm ei ej ej _ hM hei hej (by clear hms; omega)
            · skip
              have h188 : ei.toInt < ej.toInt := h188
              refine hs (f := dm_lld 102 10) rfl rfl ?_
              refine hs (f := dm_goto 107) rfl rfl ?_
              exact jm ei ej ei _ hM hei hej (by clear hms; omega)
          have j7 : ∀ (ei : Int64) (M : dm_Mem), Rm X q M → (ei.toInt < 1152921504606846976 → i.toInt + 1 < rA (q.2.2.1 73) (a.toInt + 1)) → hG 0 cd_183 58 [(7, .int j), (6, .int i), (8, .long p), (14, .long em), (12, .long e9), (10, .long e7), (0, .ref 68), (1, .int a), (2, .int b), (3, .long fr), (5, .int up)] [.long ei] M (fun r M' => M' = M ∧ ∃ v : Int64, r = some (.long v)) := by
            intro ei M hM hei
            refine hs (f := dm_lst 60 10) (lv' := [(10, .long ei), (7, .int j), (6, .int i), (8, .long p), (14, .long em), (12, .long e9), (0, .ref 68), (1, .int a), (2, .int b), (3, .long fr), (5, .int up)]) rfl rfl ?_
            refine hs (f := dm_ild 62 7) rfl rfl ?_
            refine hs (f := dm_push 63 (.int 1)) rfl rfl ?_
            have e189 : (j + (1 : Int32)).toInt = j.toInt + 1 := by have w := i_addc (x := j) (y := (1 : Int32)) 1 rfl (by omega) (by omega); omega
            refine hs (f := dm_ii 64 (fun x y => x + y)) (st' := [.int (j + (1 : Int32))]) rfl rfl ?_
            refine hs (f := dm_ald 65 0) rfl rfl ?_
            refine r_geta (c := 70) rfl hM rfl ?_
            refine hs (f := dm_ild 69 2) rfl rfl ?_
            refine hs (f := dm_push 70 (.int 1)) rfl rfl ?_
            have e190 : (b + (1 : Int32)).toInt = b.toInt + 1 := by have w := i_addc (x := b) (y := (1 : Int32)) 1 rfl (by omega) (by omega); omega
            refine hs (f := dm_ii 71 (fun x y => x + y)) (st' := [.int (b + (1 : Int32)), .ref 73, .int (j + (1 : Int32))]) rfl rfl ?_
            refine r_iald (L := 1001) (i := (b + (1 : Int32))) ((q.2.2.1 73) (b + (1 : Int32)).toInt.toNat) rfl hM rfl (by omega) rfl ?_
            generalize g192 : (q.2.2.1 73) (b + (1 : Int32)).toInt.toNat = v191
            have x193 : v191.toInt = rA (q.2.2.1 73) (b.toInt + 1) := rA_of (i := (b + (1 : Int32))) g192 e190
            refine g_ic_ge (n := 75) (tt := 87) rfl (fun h194 => ?_) (fun h194 => ?_)
            · skip
              have h194 : (j + (1 : Int32)).toInt ≥ v191.toInt := h194
              refine hs (f := dm_push 90 (.long 1152921504606846976)) rfl rfl ?_
              exact j9 ei (1152921504606846976 : Int64) _ hM hei (by intro z; clear hms; first | omega | exact absurd z (by decide))
            · skip
              have h194 : (j + (1 : Int32)).toInt < v191.toInt := h194
              refine hs (f := dm_ald 76 0) rfl rfl ?_
              refine r_geta (c := 66) rfl hM rfl ?_
              refine hs (f := dm_ild 81 7) rfl rfl ?_
              refine hs (f := dm_push 82 (.int 1)) rfl rfl ?_
              have e195 : (j + (1 : Int32)).toInt = j.toInt + 1 := by have w := i_addc (x := j) (y := (1 : Int32)) 1 rfl (by omega) (by omega); omega
              refine hs (f := dm_ii 83 (fun x y => x + y)) (st' := [.int (j + (1 : Int32)), .ref 69]) rfl rfl ?_
              refine r_lald (L := 24000) (i := (j + (1 : Int32))) ((q.2.2.2 69) (j + (1 : Int32)).toInt.toNat) rfl hM rfl (by omega) rfl ?_
              generalize g197 : (q.2.2.2 69) (j + (1 : Int32)).toInt.toNat = v196
              have x198 : v196.toInt = rB (q.2.2.2 69) (j.toInt + 1) := rB_of (i := (j + (1 : Int32))) g197 e195
              refine hs (f := dm_goto 90) rfl rfl ?_
              exact j9 ei v196 _ hM hei (by intro z; clear hms; first | omega | exact absurd z (by decide))
          refine hs (f := dm_ild 30 6) rfl rfl ?_
          refine hs (f := dm_push 31 (.int 1)) rfl rfl ?_
          have e199 : (i + (1 : Int32)).toInt = i.toInt + 1 := by have w := i_addc (x := i) (y := (1 : Int32)) 1 rfl (by omega) (by omega); omega
          refine hs (f := dm_ii 32 (fun x y => x + y)) (st' := [.int (i + (1 : Int32))]) rfl rfl ?_
          refine hs (f := dm_ald 33 0) rfl rfl ?_
          refine r_geta (c := 70) rfl hM rfl ?_
          refine hs (f := dm_ild 37 1) rfl rfl ?_
          refine hs (f := dm_push 38 (.int 1)) rfl rfl ?_
          have e200 : (a + (1 : Int32)).toInt = a.toInt + 1 := by have w := i_addc (x := a) (y := (1 : Int32)) 1 rfl (by omega) (by omega); omega
          refine hs (f := dm_ii 39 (fun x y => x + y)) (st' := [.int (a + (1 : Int32)), .ref 73, .int (i + (1 : Int32))]) rfl rfl ?_
          refine r_iald (L := 1001) (i := (a + (1 : Int32))) ((q.2.2.1 73) (a + (1 : Int32)).toInt.toNat) rfl hM rfl (by omega) rfl ?_
          generalize g202 : (q.2.2.1 73) (a + (1 : Int32)).toInt.toNat = v201
          have x203 : v201.toInt = rA (q.2.2.1 73) (a.toInt + 1) := rA_of (i := (a + (1 : Int32))) g202 e200
          refine g_ic_ge (n := 43) (tt := 55) rfl (fun h204 => ?_) (fun h204 => ?_)
          · skip
            have h204 : (i + (1 : Int32)).toInt ≥ v201.toInt := h204
            refine hs (f := dm_push 58 (.long 1152921504606846976)) rfl rfl ?_
            exact j7 (1152921504606846976 : Int64) _ hM (by intro z; clear hms; first | omega | exact absurd z (by decide))
          · skip
            have h204 : (i + (1 : Int32)).toInt < v201.toInt := h204
            refine hs (f := dm_ald 44 0) rfl rfl ?_
            refine r_geta (c := 66) rfl hM rfl ?_
            refine hs (f := dm_ild 49 6) rfl rfl ?_
            refine hs (f := dm_push 50 (.int 1)) rfl rfl ?_
            have e205 : (i + (1 : Int32)).toInt = i.toInt + 1 := by have w := i_addc (x := i) (y := (1 : Int32)) 1 rfl (by omega) (by omega); omega
            refine hs (f := dm_ii 51 (fun x y => x + y)) (st' := [.int (i + (1 : Int32)), .ref 69]) rfl rfl ?_
            refine r_lald (L := 24000) (i := (i + (1 : Int32))) ((q.2.2.2 69) (i + (1 : Int32)).toInt.toNat) rfl hM rfl (by omega) rfl ?_
            generalize g207 : (q.2.2.2 69) (i + (1 : Int32)).toInt.toNat = v206
            have x208 : v206.toInt = rB (q.2.2.2 69) (i.toInt + 1) := rB_of (i := (i + (1 : Int32))) g207 e205
            refine hs (f := dm_goto 58) rfl rfl ?_
            exact j7 v206 _ hM (by intro z; clear hms; first | omega | exact absurd z (by decide))
  refine hx (t := cd_183) rfl (Nat.le_of_ble_eq_true rfl) (lv := [(0, .ref 68), (1, .int a), (2, .int b), (3, .long fr), (5, .int up)]) rfl ?_
  refine hs (f := dm_ald 1 0) rfl rfl ?_
  refine r_geta (c := 70) rfl hM rfl ?_
  refine hs (f := dm_ild 5 1) rfl rfl ?_
  refine r_iald (L := 1001) (i := a) ((q.2.2.1 73) a.toInt.toNat) rfl hM rfl (by omega) rfl ?_
  generalize g210 : (q.2.2.1 73) a.toInt.toNat = v209
  have x211 : v209.toInt = rA (q.2.2.1 73) a.toInt := rA_of (i := a) g210 rfl
  refine hs (f := dm_ist 8 6) (lv' := [(6, .int v209), (0, .ref 68), (1, .int a), (2, .int b), (3, .long fr), (5, .int up)]) rfl rfl ?_
  refine hs (f := dm_ald 9 0) rfl rfl ?_
  refine r_geta (c := 70) rfl hM rfl ?_
  refine hs (f := dm_ild 13 2) rfl rfl ?_
  refine r_iald (L := 1001) (i := b) ((q.2.2.1 73) b.toInt.toNat) rfl hM rfl (by omega) rfl ?_
  generalize g213 : (q.2.2.1 73) b.toInt.toNat = v212
  have x214 : v212.toInt = rA (q.2.2.1 73) b.toInt := rA_of (i := b) g213 rfl
  refine hs (f := dm_ist 16 7) (lv' := [(7, .int v212), (6, .int v209), (0, .ref 68), (1, .int a), (2, .int b), (3, .long fr), (5, .int up)]) rfl rfl ?_
  refine hs (f := dm_push 17 (.long 0)) rfl rfl ?_
  refine hs (f := dm_lst 19 8) (lv' := [(8, .long 0), (7, .int v212), (6, .int v209), (0, .ref 68), (1, .int a), (2, .int b), (3, .long fr), (5, .int up)]) rfl rfl ?_
  exact (jh _).1 v209 v212 (0 : Int64) 0 0 0 _ hM (by omega) (by omega) (by omega) (by omega) (by intro _; omega) rfl
