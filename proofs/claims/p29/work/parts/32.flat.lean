/-! steps over a line: sorted rows, flat stretches, nodes -/
def wS (w : Nat → Int64) (n : Int) : Prop := 1 ≤ n ∧ rB w 0 = 0 ∧ (∀ i : Int, 0 ≤ i → i + 1 < n → rB w i < rB w (i + 1)) ∧ (∀ i : Int, 0 ≤ i → i < n → rB w i < 1152921504606846976)
theorem wS_lt {w : Nat → Int64} {n : Int} (h : wS w n) {i : Int} (hi : 0 ≤ i) : ∀ (d : Nat), i + (d + 1 : Nat) < n → rB w i < rB w (i + (d + 1 : Nat)) := by
  intro d
  induction d with
  | zero => intro hn; exact h.2.2.1 i hi (by omega)
  | succ d ih =>
    intro hn
    have h1 := ih (by omega)
    have h2 := h.2.2.1 (i + (d + 1 : Nat)) (by omega) (by omega)
    rw [show i + ((d + 1 + 1 : Nat) : Int) = i + ((d + 1 : Nat) : Int) + 1 by omega]
    omega
theorem wS_lt2 {w : Nat → Int64} {n : Int} (h : wS w n) {i j : Int} (hi : 0 ≤ i) (hij : i < j) (hj : j < n) : rB w i < rB w j := by
  have h1 := wS_lt h hi (j - i - 1).toNat (by omega)
  rw [show i + (((j - i - 1).toNat + 1 : Nat) : Int) = j by omega] at h1
  exact h1
theorem wS_le {w : Nat → Int64} {n : Int} (h : wS w n) {i j : Int} (hi : 0 ≤ i) (hij : i ≤ j) (hj : j < n) : rB w i ≤ rB w j := by
  by_cases e : i = j
  · subst e; omega
  · have := wS_lt2 h hi (show i < j by omega) hj
    omega
theorem wS_nn {w : Nat → Int64} {n : Int} (h : wS w n) {i : Int} (hi : 0 ≤ i) (hn : i < n) : 0 ≤ rB w i := by
  have h1 := wS_le h (show (0 : Int) ≤ 0 by omega) hi hn
  rw [h.2.1] at h1
  exact h1
/-- no step strictly inside -/
def flat (w : Nat → Int64) (n : Int) (f s : Int) : Prop := ∀ i : Int, 0 ≤ i → i < n → ¬ (f < rB w i ∧ rB w i < f + s)
noncomputable def HN (w : Nat → Int64) (n : Int) : Nat → Int → Nat
  | 0, _ => 1
  | j + 1, f => @ite Nat (flat w n f (2 ^ (j + 1))) (Classical.propDecidable _) 1 (1 + HN w n j f + HN w n j (f + 2 ^ j))
theorem HN_pos (w : Nat → Int64) (n : Int) (j : Nat) (f : Int) : 1 ≤ HN w n j f := by
  cases j with
  | zero => exact Nat.le_refl _
  | succ j =>
    unfold HN
    split
    · exact Nat.le_refl _
    · omega
theorem HN_flat {w : Nat → Int64} {n : Int} {j : Nat} {f : Int} (h : flat w n f (2 ^ j)) : HN w n j f = 1 := by
  cases j with
  | zero => rfl
  | succ j =>
    unfold HN
    rw [if_pos h]
theorem HN_not {w : Nat → Int64} {n : Int} {j : Nat} {f : Int} (h : ¬ flat w n f (2 ^ (j + 1))) : HN w n (j + 1) f = 1 + HN w n j f + HN w n j (f + 2 ^ j) := by
  rw [HN, if_neg h]
theorem flat_one {w : Nat → Int64} {n f : Int} : flat w n f 1 := fun i _ _ h => by omega
theorem p2_pos (j : Nat) : (1 : Int) ≤ 2 ^ j := by
  induction j with
  | zero => decide
  | succ j ih => rw [Int.pow_succ]; omega
theorem p2_succ (j : Nat) : (2 : Int) ^ (j + 1) = 2 * 2 ^ j := by rw [Int.pow_succ]; omega
/-- behind the step that lies at or before f -/
theorem flat_iff {w : Nat → Int64} {n : Int} (h : wS w n) {k f s b : Int} (k0 : 0 ≤ k) (k1 : k < n) (h1 : rB w k ≤ f) (h2 : k + 1 < n → f < rB w (k + 1)) (hb : (k + 1 < n → b = rB w (k + 1)) ∧ (¬ k + 1 < n → b = 1152921504606846976)) (hf : f + s ≤ 1152921504606846976) : f + s ≤ b ↔ flat w n f s := by
  constructor
  · intro hb2 i i0 i1 hi
    by_cases hik : i ≤ k
    · have := wS_le h i0 hik k1
      omega
    · have h3 := wS_le h (show 0 ≤ k + 1 by omega) (show k + 1 ≤ i by omega) i1
      have h4 := hb.1 (by omega)
      omega
  · intro hfl
    by_cases hk : k + 1 < n
    · have h4 := hb.1 hk
      have h5 := h2 hk
      have h6 := hfl (k + 1) (by omega) hk
      omega
    · have h4 := hb.2 hk
      omega
theorem at_end {w : Nat → Int64} {a b n p : Int} (h : b + 1 < n → p < rB w (b + 1)) (e : a = b) (hk : a + 1 < n) : p < rB w (a + 1) := by
  rw [e] at hk ⊢
  exact h hk
theorem r_143 {X : dm_Mem} {q : rS} {M : dm_Mem} (hM : Rm X q M) (p : Int64) (hn : 1 ≤ (q.1 29).toInt ∧ (q.1 29).toInt ≤ 24000) (hp : rB (q.2.2.2 92) 0 ≤ p.toInt) : hT 1 143 [.ref 68, .long p] M (fun r M' => ∃ k : Int32, r = some (.int k) ∧ M' = M ∧ 0 ≤ k.toInt ∧ k.toInt < (q.1 29).toInt ∧ rB (q.2.2.2 92) k.toInt ≤ p.toInt ∧ (k.toInt + 1 < (q.1 29).toInt → p.toInt < rB (q.2.2.2 92) (k.toInt + 1))) := by
  have j10 : ∀ (nn : Nat), (∀ (lo hi md : Int32) (M : dm_Mem), Rm X q M → (0 ≤ lo.toInt) → (lo.toInt ≤ hi.toInt) → (hi.toInt < (q.1 29).toInt) → (rB (q.2.2.2 92) lo.toInt ≤ p.toInt) → (hi.toInt + 1 < (q.1 29).toInt → p.toInt < rB (q.2.2.2 92) (hi.toInt + 1)) → (hi.toInt - lo.toInt).toNat = nn → hG 0 cd_143 10 [(4, .int hi), (3, .int lo), (0, .ref 68), (1, .long p)] [] M (fun r M' => ∃ k : Int32, r = some (.int k) ∧ M' = M ∧ 0 ≤ k.toInt ∧ k.toInt < (q.1 29).toInt ∧ rB (q.2.2.2 92) k.toInt ≤ p.toInt ∧ (k.toInt + 1 < (q.1 29).toInt → p.toInt < rB (q.2.2.2 92) (k.toInt + 1)))) ∧ (∀ (lo hi md : Int32) (M : dm_Mem), Rm X q M → (0 ≤ lo.toInt) → (lo.toInt ≤ hi.toInt) → (hi.toInt < (q.1 29).toInt) → (rB (q.2.2.2 92) lo.toInt ≤ p.toInt) → (hi.toInt + 1 < (q.1 29).toInt → p.toInt < rB (q.2.2.2 92) (hi.toInt + 1)) → (hi.toInt - lo.toInt).toNat = nn → hG 0 cd_143 10 [(3, .int lo), (5, .int md), (4, .int hi), (0, .ref 68), (1, .long p)] [] M (fun r M' => ∃ k : Int32, r = some (.int k) ∧ M' = M ∧ 0 ≤ k.toInt ∧ k.toInt < (q.1 29).toInt ∧ rB (q.2.2.2 92) k.toInt ≤ p.toInt ∧ (k.toInt + 1 < (q.1 29).toInt → p.toInt < rB (q.2.2.2 92) (k.toInt + 1)))) ∧ (∀ (lo hi md : Int32) (M : dm_Mem), Rm X q M → (0 ≤ lo.toInt) → (lo.toInt ≤ hi.toInt) → (hi.toInt < (q.1 29).toInt) → (rB (q.2.2.2 92) lo.toInt ≤ p.toInt) → (hi.toInt + 1 < (q.1 29).toInt → p.toInt < rB (q.2.2.2 92) (hi.toInt + 1)) → (hi.toInt - lo.toInt).toNat = nn → hG 0 cd_143 10 [(4, .int hi), (5, .int md), (3, .int lo), (0, .ref 68), (1, .long p)] [] M (fun r M' => ∃ k : Int32, r = some (.int k) ∧ M' = M ∧ 0 ≤ k.toInt ∧ k.toInt < (q.1 29).toInt ∧ rB (q.2.2.2 92) k.toInt ≤ p.toInt ∧ (k.toInt + 1 < (q.1 29).toInt → p.toInt < rB (q.2.2.2 92) (k.toInt + 1)))) := by
    intro nn
    induction nn using Nat.strongRecOn with
    | ind nn IH =>
      refine ⟨?_, ?_, ?_⟩
      · skip
        intro lo hi md M hM l1 l2 l3 l4 l5 hms
        refine hs (f := dm_ild 11 3) rfl rfl ?_
        refine hs (f := dm_ild 13 4) rfl rfl ?_
        refine g_ic_ge (n := 16) (tt := 53) rfl (fun h1 => ?_) (fun h1 => ?_)
        · skip
          have h1 : lo.toInt ≥ hi.toInt := h1
          refine hs (f := dm_ild 54 3) rfl rfl ?_
          exact hr (f := dm_ret .int) rfl rfl (⟨lo, rfl, rfl, l1, by omega, l4, fun hk => at_end l5 (by omega) hk⟩)
        · skip
          have h1 : lo.toInt < hi.toInt := h1
          refine hs (f := dm_ild 17 3) rfl rfl ?_
          refine hs (f := dm_ild 19 4) rfl rfl ?_
          have e2 : (lo + hi).toInt = lo.toInt + hi.toInt := by have w := i_add (x := lo) (y := hi) (by omega) (by omega); omega
          refine hs (f := dm_ii 20 (fun x y => x + y)) (st' := [.int (lo + hi)]) rfl rfl ?_
          refine hs (f := dm_push 21 (.int 1)) rfl rfl ?_
          have e3 : ((lo + hi) + (1 : Int32)).toInt = lo.toInt + hi.toInt + 1 := by have w := i_addc (x := (lo + hi)) (y := (1 : Int32)) 1 rfl (by omega) (by omega); omega
          refine hs (f := dm_ii 22 (fun x y => x + y)) (st' := [.int ((lo + hi) + (1 : Int32))]) rfl rfl ?_
          refine hs (f := dm_push 23 (.int 2)) rfl rfl ?_
          have e4 : (((lo + hi) + (1 : Int32)) / (2 : Int32)).toInt = (lo.toInt + hi.toInt + 1) / 2 := by have w := i_half (x := ((lo + hi) + (1 : Int32))) (by omega); omega
          refine hs (f := dm_iq 24 (fun x y => x / y)) (st' := [.int (((lo + hi) + (1 : Int32)) / (2 : Int32))]) rfl rfl ?_
          refine hs (f := dm_ist 26 5) (lv' := [(5, .int (((lo + hi) + (1 : Int32)) / (2 : Int32))), (4, .int hi), (3, .int lo), (0, .ref 68), (1, .long p)]) rfl rfl ?_
          generalize g6 : ((lo + hi) + (1 : Int32)) / (2 : Int32) = y5 at e4 ⊢
          refine hs (f := dm_ald 27 0) rfl rfl ?_
          refine r_geta (c := 89) rfl hM rfl ?_
          refine hs (f := dm_ild 32 5) rfl rfl ?_
          refine r_lald (L := 24000) (i := y5) ((q.2.2.2 92) y5.toInt.toNat) rfl hM rfl (by omega) rfl ?_
          generalize g8 : (q.2.2.2 92) y5.toInt.toNat = v7
          have x9 : v7.toInt = rB (q.2.2.2 92) ((lo.toInt + hi.toInt + 1) / 2) := rB_of (i := y5) g8 e4
          refine hs (f := dm_lld 34 1) rfl rfl ?_
          refine g_lc_gt (x := v7) (y := p) (m := 35) (n := 38) (tt := 44) rfl rfl (fun h10 => ?_) (fun h10 => ?_)
          · skip
            have h10 : v7.toInt > p.toInt := h10
            refine hs (f := dm_ild 46 5) rfl rfl ?_
            refine hs (f := dm_push 47 (.int 1)) rfl rfl ?_
            have e11 : (y5 - (1 : Int32)).toInt = (lo.toInt + hi.toInt + 1) / 2 - 1 := by have w := i_subc (x := y5) (y := (1 : Int32)) 1 rfl (by omega) (by omega); omega
            refine hs (f := dm_ii 48 (fun x y => x - y)) (st' := [.int (y5 - (1 : Int32))]) rfl rfl ?_
            refine hs (f := dm_ist 50 4) (lv' := [(4, .int (y5 - (1 : Int32))), (5, .int y5), (3, .int lo), (0, .ref 68), (1, .long p)]) rfl rfl ?_
            refine hs (f := dm_goto 10) rfl rfl ?_
            exact (IH _ (by omega)).2.2 lo (y5 - (1 : Int32)) y5 _ hM (by omega) (by omega) (by omega) l4 (by intro _; rw [show (y5 - (1 : Int32)).toInt + 1 = (lo.toInt + hi.toInt + 1) / 2 by omega]; omega) rfl
          · skip
            have h10 : v7.toInt ≤ p.toInt := h10
            refine hs (f := dm_ild 40 5) rfl rfl ?_
            refine hs (f := dm_ist 41 3) (lv' := [(3, .int y5), (5, .int y5), (4, .int hi), (0, .ref 68), (1, .long p)]) rfl rfl ?_
            refine hs (f := dm_goto 50) rfl rfl ?_
            refine hs (f := dm_goto 10) rfl rfl ?_
            exact (IH _ (by omega)).2.1 y5 hi y5 _ hM (by omega) (by omega) (by omega) (by rw [e4]; omega) l5 rfl
      · skip
        intro lo hi md M hM l1 l2 l3 l4 l5 hms
        refine hs (f := dm_ild 11 3) rfl rfl ?_
        refine hs (f := dm_ild 13 4) rfl rfl ?_
        refine g_ic_ge (n := 16) (tt := 53) rfl (fun h12 => ?_) (fun h12 => ?_)
        · skip
          have h12 : lo.toInt ≥ hi.toInt := h12
          refine hs (f := dm_ild 54 3) rfl rfl ?_
          exact hr (f := dm_ret .int) rfl rfl (⟨lo, rfl, rfl, l1, by omega, l4, fun hk => at_end l5 (by omega) hk⟩)
        · skip
          have h12 : lo.toInt < hi.toInt := h12
          refine hs (f := dm_ild 17 3) rfl rfl ?_
          refine hs (f := dm_ild 19 4) rfl rfl ?_
          have e13 : (lo + hi).toInt = lo.toInt + hi.toInt := by have w := i_add (x := lo) (y := hi) (by omega) (by omega); omega
          refine hs (f := dm_ii 20 (fun x y => x + y)) (st' := [.int (lo + hi)]) rfl rfl ?_
          refine hs (f := dm_push 21 (.int 1)) rfl rfl ?_
          have e14 : ((lo + hi) + (1 : Int32)).toInt = lo.toInt + hi.toInt + 1 := by have w := i_addc (x := (lo + hi)) (y := (1 : Int32)) 1 rfl (by omega) (by omega); omega
          refine hs (f := dm_ii 22 (fun x y => x + y)) (st' := [.int ((lo + hi) + (1 : Int32))]) rfl rfl ?_
          refine hs (f := dm_push 23 (.int 2)) rfl rfl ?_
          have e15 : (((lo + hi) + (1 : Int32)) / (2 : Int32)).toInt = (lo.toInt + hi.toInt + 1) / 2 := by have w := i_half (x := ((lo + hi) + (1 : Int32))) (by omega); omega
          refine hs (f := dm_iq 24 (fun x y => x / y)) (st' := [.int (((lo + hi) + (1 : Int32)) / (2 : Int32))]) rfl rfl ?_
          refine hs (f := dm_ist 26 5) (lv' := [(5, .int (((lo + hi) + (1 : Int32)) / (2 : Int32))), (3, .int lo), (4, .int hi), (0, .ref 68), (1, .long p)]) rfl rfl ?_
          generalize g17 : ((lo + hi) + (1 : Int32)) / (2 : Int32) = y16 at e15 ⊢
          refine hs (f := dm_ald 27 0) rfl rfl ?_
          refine r_geta (c := 89) rfl hM rfl ?_
          refine hs (f := dm_ild 32 5) rfl rfl ?_
          refine r_lald (L := 24000) (i := y16) ((q.2.2.2 92) y16.toInt.toNat) rfl hM rfl (by omega) rfl ?_
          generalize g19 : (q.2.2.2 92) y16.toInt.toNat = v18
          have x20 : v18.toInt = rB (q.2.2.2 92) ((lo.toInt + hi.toInt + 1) / 2) := rB_of (i := y16) g19 e15
          refine hs (f := dm_lld 34 1) rfl rfl ?_
          refine g_lc_gt (x := v18) (y := p) (m := 35) (n := 38) (tt := 44) rfl rfl (fun h21 => ?_) (fun h21 => ?_)
          · skip
            have h21 : v18.toInt > p.toInt := h21
            refine hs (f := dm_ild 46 5) rfl rfl ?_
            refine hs (f := dm_push 47 (.int 1)) rfl rfl ?_
            have e22 : (y16 - (1 : Int32)).toInt = (lo.toInt + hi.toInt + 1) / 2 - 1 := by have w := i_subc (x := y16) (y := (1 : Int32)) 1 rfl (by omega) (by omega); omega
            refine hs (f := dm_ii 48 (fun x y => x - y)) (st' := [.int (y16 - (1 : Int32))]) rfl rfl ?_
            refine hs (f := dm_ist 50 4) (lv' := [(4, .int (y16 - (1 : Int32))), (5, .int y16), (3, .int lo), (0, .ref 68), (1, .long p)]) rfl rfl ?_
            refine hs (f := dm_goto 10) rfl rfl ?_
            exact (IH _ (by omega)).2.2 lo (y16 - (1 : Int32)) y16 _ hM (by omega) (by omega) (by omega) l4 (by intro _; rw [show (y16 - (1 : Int32)).toInt + 1 = (lo.toInt + hi.toInt + 1) / 2 by omega]; omega) rfl
          · skip
            have h21 : v18.toInt ≤ p.toInt := h21
            refine hs (f := dm_ild 40 5) rfl rfl ?_
            refine hs (f := dm_ist 41 3) (lv' := [(3, .int y16), (5, .int y16), (4, .int hi), (0, .ref 68), (1, .long p)]) rfl rfl ?_
            refine hs (f := dm_goto 50) rfl rfl ?_
            refine hs (f := dm_goto 10) rfl rfl ?_
            exact (IH _ (by omega)).2.1 y16 hi y16 _ hM (by omega) (by omega) (by omega) (by rw [e15]; omega) l5 rfl
      · skip
        intro lo hi md M hM l1 l2 l3 l4 l5 hms
        refine hs (f := dm_ild 11 3) rfl rfl ?_
        refine hs (f := dm_ild 13 4) rfl rfl ?_
        refine g_ic_ge (n := 16) (tt := 53) rfl (fun h23 => ?_) (fun h23 => ?_)
        · skip
          have h23 : lo.toInt ≥ hi.toInt := h23
          refine hs (f := dm_ild 54 3) rfl rfl ?_
          exact hr (f := dm_ret .int) rfl rfl (⟨lo, rfl, rfl, l1, by omega, l4, fun hk => at_end l5 (by omega) hk⟩)
        · skip
          have h23 : lo.toInt < hi.toInt := h23
          refine hs (f := dm_ild 17 3) rfl rfl ?_
          refine hs (f := dm_ild 19 4) rfl rfl ?_
          have e24 : (lo + hi).toInt = lo.toInt + hi.toInt := by have w := i_add (x := lo) (y := hi) (by omega) (by omega); omega
          refine hs (f := dm_ii 20 (fun x y => x + y)) (st' := [.int (lo + hi)]) rfl rfl ?_
          refine hs (f := dm_push 21 (.int 1)) rfl rfl ?_
          have e25 : ((lo + hi) + (1 : Int32)).toInt = lo.toInt + hi.toInt + 1 := by have w := i_addc (x := (lo + hi)) (y := (1 : Int32)) 1 rfl (by omega) (by omega); omega
          refine hs (f := dm_ii 22 (fun x y => x + y)) (st' := [.int ((lo + hi) + (1 : Int32))]) rfl rfl ?_
          refine hs (f := dm_push 23 (.int 2)) rfl rfl ?_
          have e26 : (((lo + hi) + (1 : Int32)) / (2 : Int32)).toInt = (lo.toInt + hi.toInt + 1) / 2 := by have w := i_half (x := ((lo + hi) + (1 : Int32))) (by omega); omega
          refine hs (f := dm_iq 24 (fun x y => x / y)) (st' := [.int (((lo + hi) + (1 : Int32)) / (2 : Int32))]) rfl rfl ?_
          refine hs (f := dm_ist 26 5) (lv' := [(5, .int (((lo + hi) + (1 : Int32)) / (2 : Int32))), (4, .int hi), (3, .int lo), (0, .ref 68), (1, .long p)]) rfl rfl ?_
          generalize g28 : ((lo + hi) + (1 : Int32)) / (2 : Int32) = y27 at e26 ⊢
          refine hs (f := dm_ald 27 0) rfl rfl ?_
          refine r_geta (c := 89) rfl hM rfl ?_
          refine hs (f := dm_ild 32 5) rfl rfl ?_
          refine r_lald (L := 24000) (i := y27) ((q.2.2.2 92) y27.toInt.toNat) rfl hM rfl (by omega) rfl ?_
          generalize g30 : (q.2.2.2 92) y27.toInt.toNat = v29
          have x31 : v29.toInt = rB (q.2.2.2 92) ((lo.toInt + hi.toInt + 1) / 2) := rB_of (i := y27) g30 e26
          refine hs (f := dm_lld 34 1) rfl rfl ?_
          refine g_lc_gt (x := v29) (y := p) (m := 35) (n := 38) (tt := 44) rfl rfl (fun h32 => ?_) (fun h32 => ?_)
          · skip
            have h32 : v29.toInt > p.toInt := h32
            refine hs (f := dm_ild 46 5) rfl rfl ?_
            refine hs (f := dm_push 47 (.int 1)) rfl rfl ?_
            have e33 : (y27 - (1 : Int32)).toInt = (lo.toInt + hi.toInt + 1) / 2 - 1 := by have w := i_subc (x := y27) (y := (1 : Int32)) 1 rfl (by omega) (by omega); omega
            refine hs (f := dm_ii 48 (fun x y => x - y)) (st' := [.int (y27 - (1 : Int32))]) rfl rfl ?_
            refine hs (f := dm_ist 50 4) (lv' := [(4, .int (y27 - (1 : Int32))), (5, .int y27), (3, .int lo), (0, .ref 68), (1, .long p)]) rfl rfl ?_
            refine hs (f := dm_goto 10) rfl rfl ?_
            exact (IH _ (by omega)).2.2 lo (y27 - (1 : Int32)) y27 _ hM (by omega) (by omega) (by omega) l4 (by intro _; rw [show (y27 - (1 : Int32)).toInt + 1 = (lo.toInt + hi.toInt + 1) / 2 by omega]; omega) rfl
          · skip
            have h32 : v29.toInt ≤ p.toInt := h32
            refine hs (f := dm_ild 40 5) rfl rfl ?_
            refine hs (f := dm_ist 41 3) (lv' := [(3, .int y27), (5, .int y27), (4, .int hi), (0, .ref 68), (1, .long p)]) rfl rfl ?_
            refine hs (f := dm_goto 50) rfl rfl ?_
            refine hs (f := dm_goto 10) rfl rfl ?_
            exact (IH _ (by omega)).2.1 y27 hi y27 _ hM (by omega) (by omega) (by omega) (by rw [e26]; omega) l5 rfl
  refine hx (t := cd_143) rfl (Nat.le_of_ble_eq_true rfl) (lv := [(0, .ref 68), (1, .long p)]) rfl ?_
  refine hs (f := dm_push 1 (.int 0)) rfl rfl ?_
  refine hs (f := dm_ist 2 3) (lv' := [(3, .int 0), (0, .ref 68), (1, .long p)]) rfl rfl ?_
  refine hs (f := dm_ald 3 0) rfl rfl ?_
  refine r_geti (q.1 29) rfl hM rfl rfl ?_
  refine hs (f := dm_push 7 (.int 1)) rfl rfl ?_
  have e34 : ((q.1 29) - (1 : Int32)).toInt = (q.1 29).toInt - 1 := by have w := i_subc (x := (q.1 29)) (y := (1 : Int32)) 1 rfl (by omega) (by omega); omega
  refine hs (f := dm_ii 8 (fun x y => x - y)) (st' := [.int ((q.1 29) - (1 : Int32))]) rfl rfl ?_
  refine hs (f := dm_ist 10 4) (lv' := [(4, .int ((q.1 29) - (1 : Int32))), (3, .int 0), (0, .ref 68), (1, .long p)]) rfl rfl ?_
  exact (j10 _).1 (0 : Int32) ((q.1 29) - (1 : Int32)) 0 _ hM (by show (0 : Int) ≤ 0; omega) (by show (0 : Int) ≤ _; omega) (by omega) (by show rB _ 0 ≤ _; exact hp) (by intro _; omega) rfl
theorem r_144 {X : dm_Mem} {q : rS} {M : dm_Mem} (hM : Rm X q M) (k : Int32) (hn : 1 ≤ (q.1 29).toInt ∧ (q.1 29).toInt ≤ 24000) (k0 : 0 ≤ k.toInt) (k1 : k.toInt < (q.1 29).toInt) : hT 1 144 [.ref 68, .int k] M (fun r M' => ∃ b : Int64, r = some (.long b) ∧ M' = M ∧ (k.toInt + 1 < (q.1 29).toInt → b.toInt = rB (q.2.2.2 92) (k.toInt + 1)) ∧ (¬ k.toInt + 1 < (q.1 29).toInt → b.toInt = 1152921504606846976)) := by
  refine hx (t := cd_144) rfl (Nat.le_of_ble_eq_true rfl) (lv := [(0, .ref 68), (1, .int k)]) rfl ?_
  refine hs (f := dm_ild 1 1) rfl rfl ?_
  refine hs (f := dm_push 2 (.int 1)) rfl rfl ?_
  have e1 : (k + (1 : Int32)).toInt = k.toInt + 1 := by have w := i_addc (x := k) (y := (1 : Int32)) 1 rfl (by omega) (by omega); omega
  refine hs (f := dm_ii 3 (fun x y => x + y)) (st' := [.int (k + (1 : Int32))]) rfl rfl ?_
  refine hs (f := dm_ald 4 0) rfl rfl ?_
  refine r_geti (q.1 29) rfl hM rfl rfl ?_
  refine g_ic_ge (n := 10) (tt := 21) rfl (fun h2 => ?_) (fun h2 => ?_)
  · skip
    have h2 : (k + (1 : Int32)).toInt ≥ (q.1 29).toInt := h2
    refine hs (f := dm_push 24 (.long 1152921504606846976)) rfl rfl ?_
    exact hr (f := dm_lret) rfl rfl (⟨_, rfl, rfl, fun _ => by first | omega | (exfalso; omega), fun _ => by first | rfl | (exfalso; omega)⟩)
  · skip
    have h2 : (k + (1 : Int32)).toInt < (q.1 29).toInt := h2
    refine hs (f := dm_ald 11 0) rfl rfl ?_
    refine r_geta (c := 89) rfl hM rfl ?_
    refine hs (f := dm_ild 15 1) rfl rfl ?_
    refine hs (f := dm_push 16 (.int 1)) rfl rfl ?_
    have e3 : (k + (1 : Int32)).toInt = k.toInt + 1 := by have w := i_addc (x := k) (y := (1 : Int32)) 1 rfl (by omega) (by omega); omega
    refine hs (f := dm_ii 17 (fun x y => x + y)) (st' := [.int (k + (1 : Int32)), .ref 92]) rfl rfl ?_
    refine r_lald (L := 24000) (i := (k + (1 : Int32))) ((q.2.2.2 92) (k + (1 : Int32)).toInt.toNat) rfl hM rfl (by omega) rfl ?_
    generalize g5 : (q.2.2.2 92) (k + (1 : Int32)).toInt.toNat = v4
    have x6 : v4.toInt = rB (q.2.2.2 92) (k.toInt + 1) := rB_of (i := (k + (1 : Int32))) g5 e3
    refine hs (f := dm_goto 24) rfl rfl ?_
    exact hr (f := dm_lret) rfl rfl (⟨_, rfl, rfl, fun _ => by first | omega | (exfalso; omega), fun _ => by first | rfl | (exfalso; omega)⟩)
theorem r_145 {X : dm_Mem} {q : rS} {M : dm_Mem} (hM : Rm X q M) (f s : Int64) (hS : wS (q.2.2.2 92) (q.1 29).toInt) (hn : (q.1 29).toInt ≤ 24000) (hf : 0 ≤ f.toInt) (hs0 : 0 < s.toInt) (hfs : f.toInt + s.toInt ≤ 1152921504606846976) : hT 2 145 [.ref 68, .long f, .long s] M (fun r M' => M' = M ∧ ((r = some (.int 1) ∧ flat (q.2.2.2 92) (q.1 29).toInt f.toInt s.toInt) ∨ (r = some (.int 0) ∧ ¬ flat (q.2.2.2 92) (q.1 29).toInt f.toInt s.toInt))) := by
  have hn0 := hS.1
  have h00 := hS.2.1
  refine hx (t := cd_145) rfl (Nat.le_of_ble_eq_true rfl) (lv := [(0, .ref 68), (1, .long f), (3, .long s)]) rfl ?_
  refine hs (f := dm_ald 1 0) rfl rfl ?_
  refine hs (f := dm_ald 2 0) rfl rfl ?_
  refine hs (f := dm_lld 3 1) rfl rfl ?_
  refine r_inv rfl hM rfl (as := [.ref 68, .long f]) rfl (Nat.le_of_ble_eq_true rfl) (hT_mono (by decide) (r_143 hM f ⟨hn0, hn⟩ (by omega)) (fun r1 M2 w => ?_))
  obtain ⟨u1, rfl, rfl, u10, u11, u12, u13⟩ := w
  refine r_inv rfl hM rfl (as := [.ref 68, .int u1]) rfl (Nat.le_of_ble_eq_true rfl) (hT_mono (by decide) (r_144 hM u1 ⟨hn0, hn⟩ (by omega) (by omega)) (fun r1 M4 w => ?_))
  obtain ⟨u3, rfl, rfl, u30, u31⟩ := w
  have hfl := flat_iff (s := s.toInt) hS u10 u11 u12 u13 ⟨u30, u31⟩ hfs
  refine hs (f := dm_lld 10 1) rfl rfl ?_
  refine hs (f := dm_lld 11 3) rfl rfl ?_
  have e5 : (f + s).toInt = f.toInt + s.toInt := by have w := j_add (x := f) (y := s) (by omega) (by omega); omega
  refine hs (f := dm_ll 12 (fun x y => x + y)) (st' := [.long (f + s), .long u3]) rfl rfl ?_
  refine g_lc_lt (x := u3) (y := (f + s)) (m := 13) (n := 16) (tt := 20) rfl rfl (fun h6 => ?_) (fun h6 => ?_)
  · skip
    have h6 : u3.toInt < (f + s).toInt := h6
    refine hs (f := dm_push 21 (.int 0)) rfl rfl ?_
    exact h_retB rfl isB_0 (⟨rfl, by first | exact Or.inl ⟨rfl, hfl.mp (by omega)⟩ | exact Or.inr ⟨rfl, fun z => by have := hfl.mpr z; omega⟩⟩)
  · skip
    have h6 : u3.toInt ≥ (f + s).toInt := h6
    refine hs (f := dm_push 17 (.int 1)) rfl rfl ?_
    refine hs (f := dm_goto 21) rfl rfl ?_
    exact h_retB rfl isB_1 (⟨rfl, by first | exact Or.inl ⟨rfl, hfl.mp (by omega)⟩ | exact Or.inr ⟨rfl, fun z => by have := hfl.mpr z; omega⟩⟩)
