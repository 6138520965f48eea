/-! nodes of heights and of shares -/
theorem i_sum3 (a b : Nat) : (1 : Int32) + Int32.ofNat a + Int32.ofNat b = Int32.ofNat (1 + a + b) := by
  rw [Int32.ofNat_add, Int32.ofNat_add]
  rfl
/-- how a share takes a stretch: 0 nothing, 1 all, 2 a part -/
def pF (a b : Nat → Int64) (n f t : Int) : Nat → Int → Nat
  | 0, _ => 0
  | d + 1, k => if ¬ k < n then 0 else if rB b k ≤ f then pF a b n f t d (k + 1) else if t ≤ rB a k then 0 else if rB a k ≤ f ∧ t ≤ rB b k then 1 else 2
def Part (a b : Nat → Int64) (n f s : Int) : Nat := pF a b n f (f + s) n.toNat 0
theorem pF_end {a b : Nat → Int64} {n f t k : Int} {d : Nat} (h : ¬ k < n) : pF a b n f t d k = 0 := by
  cases d with
  | zero => rfl
  | succ d => rw [pF, if_pos h]
theorem pF_go {a b : Nat → Int64} {n f t k : Int} (h : k < n) (h1 : rB b k ≤ f) : pF a b n f t (n - k).toNat k = pF a b n f t (n - (k + 1)).toNat (k + 1) := by
  rw [show (n - k).toNat = (n - (k + 1)).toNat + 1 by omega, pF, if_neg (by omega), if_pos h1]
theorem pF_0 {a b : Nat → Int64} {n f t k : Int} (h : k < n) (h1 : f < rB b k) (h2 : t ≤ rB a k) : pF a b n f t (n - k).toNat k = 0 := by
  rw [show (n - k).toNat = (n - (k + 1)).toNat + 1 by omega, pF, if_neg (by omega), if_neg (by omega), if_pos h2]
theorem pF_1 {a b : Nat → Int64} {n f t k : Int} (h : k < n) (h1 : f < rB b k) (h2 : rB a k < t) (h3 : rB a k ≤ f) (h4 : t ≤ rB b k) : pF a b n f t (n - k).toNat k = 1 := by
  rw [show (n - k).toNat = (n - (k + 1)).toNat + 1 by omega, pF, if_neg (by omega), if_neg (by omega), if_neg (by omega), if_pos ⟨h3, h4⟩]
theorem pF_2 {a b : Nat → Int64} {n f t k : Int} (h : k < n) (h1 : f < rB b k) (h2 : rB a k < t) (h3 : ¬ (rB a k ≤ f ∧ t ≤ rB b k)) : pF a b n f t (n - k).toNat k = 2 := by
  rw [show (n - k).toNat = (n - (k + 1)).toNat + 1 by omega, pF, if_neg (by omega), if_neg (by omega), if_neg (by omega), if_neg h3]
theorem pF_le (a b : Nat → Int64) (n f t : Int) : ∀ (d : Nat) (k : Int), pF a b n f t d k ≤ 2 := by
  intro d
  induction d with
  | zero => intro k; exact Nat.zero_le _
  | succ d ih =>
    intro k
    rw [pF]
    repeat' split
    all_goals first | omega | exact ih _
theorem pF_one (a b : Nat → Int64) (n f : Int) : ∀ (d : Nat) (k : Int), pF a b n f (f + 1) d k < 2 := by
  intro d
  induction d with
  | zero => intro k; exact Nat.zero_lt_succ _
  | succ d ih =>
    intro k
    rw [pF]
    repeat' split
    all_goals first | omega | exact ih _
theorem Part_le {a b : Nat → Int64} {n f s : Int} : Part a b n f s ≤ 2 := pF_le _ _ _ _ _ _ _
theorem Part_one {a b : Nat → Int64} {n f : Int} : Part a b n f 1 < 2 := pF_one _ _ _ _ _ _
def SN (a b : Nat → Int64) (n : Int) : Nat → Int → Nat
  | 0, _ => 1
  | j + 1, f => if Part a b n f (2 ^ (j + 1)) < 2 then 1 else 1 + SN a b n j f + SN a b n j (f + 2 ^ j)
theorem SN_pos (a b : Nat → Int64) (n : Int) (j : Nat) (f : Int) : 1 ≤ SN a b n j f := by
  cases j with
  | zero => exact Nat.le_refl _
  | succ j =>
    rw [SN]
    split <;> omega
theorem SN_lt {a b : Nat → Int64} {n : Int} {j : Nat} {f : Int} (h : Part a b n f (2 ^ j) < 2) : SN a b n j f = 1 := by
  cases j with
  | zero => rfl
  | succ j => rw [SN, if_pos h]
theorem SN_not {a b : Nat → Int64} {n : Int} {j : Nat} {f : Int} (h : ¬ Part a b n f (2 ^ (j + 1)) < 2) : SN a b n (j + 1) f = 1 + SN a b n j f + SN a b n j (f + 2 ^ j) := by
  rw [SN, if_neg h]
/-- the place of a point: the last step at or before it -/
def isAt (w : Nat → Int64) (n p k : Int) : Prop := 0 ≤ k ∧ k < n ∧ rB w k ≤ p ∧ (k + 1 < n → p < rB w (k + 1))
noncomputable def aF (w : Nat → Int64) (n p : Int) : Int := @dite Int (∃ k, isAt w n p k) (Classical.propDecidable _) (fun h => h.choose) (fun _ => 0)
theorem aF_eq {w : Nat → Int64} {n p k : Int} (hS : wS w n) (h : isAt w n p k) : aF w n p = k := by
  have hex : ∃ k, isAt w n p k := ⟨k, h⟩
  unfold aF
  rw [dif_pos hex]
  have h2 := hex.choose_spec
  generalize hex.choose = m at h2
  obtain ⟨a1, a2, a3, a4⟩ := h
  obtain ⟨b1, b2, b3, b4⟩ := h2
  by_cases e1 : m < k
  · have := wS_le hS (show 0 ≤ m + 1 by omega) (show m + 1 ≤ k by omega) a2
    have := b4 (by omega)
    omega
  · by_cases e2 : k < m
    · have := wS_le hS (show 0 ≤ k + 1 by omega) (show k + 1 ≤ m by omega) b2
      have := a4 (by omega)
      omega
    · omega
/-- the least height from a step on, before e -/
def lF (w : Nat → Int64) (g : Nat → Int32) (n e : Int) : Nat → Int → Int32 → Int32
  | 0, _, u => u
  | d + 1, k, u => if k < n ∧ rB w k < e then lF w g n e d (k + 1) (if (g k.toNat).toInt < u.toInt then g k.toNat else u) else u
theorem lF_go {w : Nat → Int64} {g : Nat → Int32} {n e k : Int} {u : Int32} (h : k < n) (h2 : rB w k < e) : lF w g n e (n - k).toNat k u = lF w g n e (n - (k + 1)).toNat (k + 1) (if (g k.toNat).toInt < u.toInt then g k.toNat else u) := by
  rw [show (n - k).toNat = (n - (k + 1)).toNat + 1 by omega, lF, if_pos ⟨h, h2⟩]
theorem lF_end {w : Nat → Int64} {g : Nat → Int32} {n e k : Int} {u : Int32} {d : Nat} (h : ¬ (k < n ∧ rB w k < e)) : lF w g n e d k u = u := by
  cases d with
  | zero => rfl
  | succ d => rw [lF, if_neg h]
noncomputable def leastF (w : Nat → Int64) (g : Nat → Int32) (n f s : Int) : Int32 := lF w g n (f + s) (n - aF w n f).toNat (aF w n f) 2147483647
theorem r_151 {X : dm_Mem} {q : rS} {M : dm_Mem} (hM : Rm X q M) (hS : wS (q.2.2.2 92) (q.1 29).toInt) (hn : (q.1 29).toInt ≤ 24000) (j : Nat) : ∀ (f s : Int64), s.toInt = 2 ^ j → 0 ≤ f.toInt → f.toInt + s.toInt ≤ 1152921504606846976 → hT (2 + 1 + j) 151 [.ref 68, .long f, .long s] M (fun r M' => r = some (.int (Int32.ofNat (HN (q.2.2.2 92) (q.1 29).toInt j f.toInt))) ∧ M' = M) := by
  induction j using Nat.strongRecOn with
  | ind j IH =>
    intro f s hs0 hf hfs
    rw [show 2 + 1 + j = (2 + j) + 1 by omega]
    have hp := p2_pos j
    refine hx (t := cd_151) rfl (Nat.le_of_ble_eq_true rfl) (lv := [(0, .ref 68), (1, .long f), (3, .long s)]) rfl ?_
    refine hs (f := dm_ald 1 0) rfl rfl ?_
    refine hs (f := dm_lld 2 1) rfl rfl ?_
    refine hs (f := dm_lld 3 3) rfl rfl ?_
    refine r_inv rfl hM rfl (as := [.ref 68, .long f, .long s]) rfl (Nat.le_of_ble_eq_true rfl) (hT_mono (by omega) (r_145 hM f s hS hn hf (by omega) hfs) (fun r1 M8 w => ?_))
    obtain ⟨rfl, ⟨rfl, ua⟩ | ⟨rfl, ua⟩⟩ := w
    · skip
      refine hs (f := dm_if_eq 9 11) (pc' := 9) rfl rfl ?_
      refine hs (f := dm_push 10 (.int 1)) rfl rfl ?_
      exact hr (f := dm_ret .int) rfl rfl (⟨by rw [HN_flat (by rw [← hs0]; exact ua)]; rfl, rfl⟩)
    · skip
      cases j with
      | zero => exact absurd (by rw [hs0]; exact flat_one) ua
      | succ j =>
        have hp1 := p2_pos j
        have hp2 := p2_succ j
        refine hs (f := dm_if_eq 9 11) (pc' := 11) rfl rfl ?_
        refine hs (f := dm_push 12 (.int 1)) rfl rfl ?_
        refine hs (f := dm_ald 13 0) rfl rfl ?_
        refine hs (f := dm_lld 14 1) rfl rfl ?_
        refine hs (f := dm_lld 15 3) rfl rfl ?_
        refine hs (f := dm_push 18 (.long 2)) rfl rfl ?_
        have e1 : (s / (2 : Int64)).toInt = s.toInt / 2 := by have w := j_half (x := s) (by omega); omega
        refine hs (f := dm_lq 19 (fun x y => x / y)) (st' := [.long (s / (2 : Int64)), .long f, .ref 68, .int 1]) rfl rfl ?_
        refine r_inv rfl hM rfl (as := [.ref 68, .long f, .long (s / (2 : Int64))]) rfl (Nat.le_of_ble_eq_true rfl) (hT_mono (by omega) (IH j (by omega) f (s / (2 : Int64)) (by omega) (by omega) (by omega)) (fun r1 M9 w => ?_))
        obtain ⟨rfl, rfl⟩ := w
        refine hs (f := dm_ii 23 (fun x y => x + y)) (st' := [.int ((1 : Int32) + (Int32.ofNat (HN (q.2.2.2 92) (q.1 29).toInt j f.toInt)))]) rfl rfl ?_
        refine hs (f := dm_ald 24 0) rfl rfl ?_
        refine hs (f := dm_lld 25 1) rfl rfl ?_
        refine hs (f := dm_lld 26 3) rfl rfl ?_
        refine hs (f := dm_push 29 (.long 2)) rfl rfl ?_
        have e2 : (s / (2 : Int64)).toInt = s.toInt / 2 := by have w := j_half (x := s) (by omega); omega
        refine hs (f := dm_lq 30 (fun x y => x / y)) (st' := [.long (s / (2 : Int64)), .long f, .ref 68, .int ((1 : Int32) + (Int32.ofNat (HN (q.2.2.2 92) (q.1 29).toInt j f.toInt)))]) rfl rfl ?_
        have e3 : (f + (s / (2 : Int64))).toInt = f.toInt + s.toInt / 2 := by have w := j_add (x := f) (y := (s / (2 : Int64))) (by omega) (by omega); omega
        refine hs (f := dm_ll 31 (fun x y => x + y)) (st' := [.long (f + (s / (2 : Int64))), .ref 68, .int ((1 : Int32) + (Int32.ofNat (HN (q.2.2.2 92) (q.1 29).toInt j f.toInt)))]) rfl rfl ?_
        refine hs (f := dm_lld 32 3) rfl rfl ?_
        refine hs (f := dm_push 35 (.long 2)) rfl rfl ?_
        have e4 : (s / (2 : Int64)).toInt = s.toInt / 2 := by have w := j_half (x := s) (by omega); omega
        refine hs (f := dm_lq 36 (fun x y => x / y)) (st' := [.long (s / (2 : Int64)), .long (f + (s / (2 : Int64))), .ref 68, .int ((1 : Int32) + (Int32.ofNat (HN (q.2.2.2 92) (q.1 29).toInt j f.toInt)))]) rfl rfl ?_
        refine r_inv rfl hM rfl (as := [.ref 68, .long (f + (s / (2 : Int64))), .long (s / (2 : Int64))]) rfl (Nat.le_of_ble_eq_true rfl) (hT_mono (by omega) (IH j (by omega) (f + (s / (2 : Int64))) (s / (2 : Int64)) (by omega) (by omega) (by omega)) (fun r1 M9 w => ?_))
        obtain ⟨rfl, rfl⟩ := w
        refine hs (f := dm_ii 40 (fun x y => x + y)) (st' := [.int (((1 : Int32) + (Int32.ofNat (HN (q.2.2.2 92) (q.1 29).toInt j f.toInt))) + (Int32.ofNat (HN (q.2.2.2 92) (q.1 29).toInt j (f + (s / (2 : Int64))).toInt)))]) rfl rfl ?_
        exact hr (f := dm_ret .int) rfl rfl (⟨by rw [i_sum3, HN_not (by rw [← hs0]; exact ua), show (f + s / 2).toInt = f.toInt + 2 ^ j by omega], rfl⟩)
theorem r_152 {X : dm_Mem} {q : rS} {M : dm_Mem} (hM : Rm X q M) (f s : Int64) (ho : 0 ≤ (q.1 34).toInt ∧ (q.1 34).toInt ≤ 24000) (hf : 0 ≤ f.toInt) (hs0 : 0 < s.toInt) (hfs : f.toInt + s.toInt ≤ 1152921504606846976) : hT 1 152 [.ref 68, .long f, .long s] M (fun r M' => r = some (.int (Int32.ofNat (Part (q.2.2.2 96) (q.2.2.2 97) (q.1 34).toInt f.toInt s.toInt))) ∧ M' = M) := by
  have j8 : ∀ (nn : Nat), ∀ (t : Int64) (k : Int32) (M : dm_Mem), Rm X q M → (t.toInt = f.toInt + s.toInt) → (0 ≤ k.toInt) → (k.toInt ≤ (q.1 34).toInt) → (pF (q.2.2.2 96) (q.2.2.2 97) (q.1 34).toInt f.toInt (f.toInt + s.toInt) ((q.1 34).toInt - k.toInt).toNat k.toInt = Part (q.2.2.2 96) (q.2.2.2 97) (q.1 34).toInt f.toInt s.toInt) → ((q.1 34).toInt - k.toInt).toNat = nn → hG 0 cd_152 8 [(7, .int k), (5, .long t), (0, .ref 68), (1, .long f), (3, .long s)] [] M (fun r M' => r = some (.int (Int32.ofNat (Part (q.2.2.2 96) (q.2.2.2 97) (q.1 34).toInt f.toInt s.toInt))) ∧ M' = M) := by
    intro nn
    induction nn using Nat.strongRecOn with
    | ind nn IH =>
      intro t k M hM ht k0 k1 hk hms
      refine hs (f := dm_ild 10 7) rfl rfl ?_
      refine hs (f := dm_ald 11 0) rfl rfl ?_
      refine r_geti (q.1 34) rfl hM rfl rfl ?_
      refine g_ic_ge (n := 17) (tt := 84) rfl (fun h1 => ?_) (fun h1 => ?_)
      · skip
        have h1 : k.toInt ≥ (q.1 34).toInt := h1
        refine hs (f := dm_push 85 (.int 0)) rfl rfl ?_
        exact hr (f := dm_ret .int) rfl rfl (⟨by rw [← hk, pF_end (by omega)]; rfl, rfl⟩)
      · skip
        have h1 : k.toInt < (q.1 34).toInt := h1
        refine hs (f := dm_ald 18 0) rfl rfl ?_
        refine r_geta (c := 94) rfl hM rfl ?_
        refine hs (f := dm_ild 23 7) rfl rfl ?_
        refine r_lald (L := 24000) (i := k) ((q.2.2.2 97) k.toInt.toNat) rfl hM rfl (by omega) rfl ?_
        generalize g3 : (q.2.2.2 97) k.toInt.toNat = v2
        have x4 : v2.toInt = rB (q.2.2.2 97) k.toInt := rB_of (i := k) g3 rfl
        refine hs (f := dm_lld 25 1) rfl rfl ?_
        refine g_lc_gt (x := v2) (y := f) (m := 26) (n := 29) (tt := 32) rfl rfl (fun h5 => ?_) (fun h5 => ?_)
        · skip
          have h5 : v2.toInt > f.toInt := h5
          refine hs (f := dm_ald 33 0) rfl rfl ?_
          refine r_geta (c := 93) rfl hM rfl ?_
          refine hs (f := dm_ild 38 7) rfl rfl ?_
          refine r_lald (L := 24000) (i := k) ((q.2.2.2 96) k.toInt.toNat) rfl hM rfl (by omega) rfl ?_
          generalize g7 : (q.2.2.2 96) k.toInt.toNat = v6
          have x8 : v6.toInt = rB (q.2.2.2 96) k.toInt := rB_of (i := k) g7 rfl
          refine hs (f := dm_lld 41 5) rfl rfl ?_
          refine g_lc_lt (x := v6) (y := t) (m := 42) (n := 45) (tt := 47) rfl rfl (fun h9 => ?_) (fun h9 => ?_)
          · skip
            have h9 : v6.toInt < t.toInt := h9
            refine hs (f := dm_ald 48 0) rfl rfl ?_
            refine r_geta (c := 93) rfl hM rfl ?_
            refine hs (f := dm_ild 53 7) rfl rfl ?_
            refine r_lald (L := 24000) (i := k) ((q.2.2.2 96) k.toInt.toNat) rfl hM rfl (by omega) rfl ?_
            generalize g11 : (q.2.2.2 96) k.toInt.toNat = v10
            have x12 : v10.toInt = rB (q.2.2.2 96) k.toInt := rB_of (i := k) g11 rfl
            refine hs (f := dm_lld 55 1) rfl rfl ?_
            refine g_lc_gt (x := v10) (y := f) (m := 56) (n := 59) (tt := 76) rfl rfl (fun h13 => ?_) (fun h13 => ?_)
            · skip
              have h13 : v10.toInt > f.toInt := h13
              refine hs (f := dm_push 77 (.int 2)) rfl rfl ?_
              exact hr (f := dm_ret .int) rfl rfl (⟨by rw [← hk, pF_2 (by omega) (by omega) (by omega) (by omega)]; rfl, rfl⟩)
            · skip
              have h13 : v10.toInt ≤ f.toInt := h13
              refine hs (f := dm_ald 60 0) rfl rfl ?_
              refine r_geta (c := 94) rfl hM rfl ?_
              refine hs (f := dm_ild 65 7) rfl rfl ?_
              refine r_lald (L := 24000) (i := k) ((q.2.2.2 97) k.toInt.toNat) rfl hM rfl (by omega) rfl ?_
              generalize g15 : (q.2.2.2 97) k.toInt.toNat = v14
              have x16 : v14.toInt = rB (q.2.2.2 97) k.toInt := rB_of (i := k) g15 rfl
              refine hs (f := dm_lld 68 5) rfl rfl ?_
              refine g_lc_lt (x := v14) (y := t) (m := 69) (n := 72) (tt := 76) rfl rfl (fun h17 => ?_) (fun h17 => ?_)
              · skip
                have h17 : v14.toInt < t.toInt := h17
                refine hs (f := dm_push 77 (.int 2)) rfl rfl ?_
                exact hr (f := dm_ret .int) rfl rfl (⟨by rw [← hk, pF_2 (by omega) (by omega) (by omega) (by omega)]; rfl, rfl⟩)
              · skip
                have h17 : v14.toInt ≥ t.toInt := h17
                refine hs (f := dm_push 73 (.int 1)) rfl rfl ?_
                refine hs (f := dm_goto 77) rfl rfl ?_
                exact hr (f := dm_ret .int) rfl rfl (⟨by rw [← hk, pF_1 (by omega) (by omega) (by omega) (by omega) (by omega)]; rfl, rfl⟩)
          · skip
            have h9 : v6.toInt ≥ t.toInt := h9
            refine hs (f := dm_push 46 (.int 0)) rfl rfl ?_
            exact hr (f := dm_ret .int) rfl rfl (⟨by rw [← hk, pF_0 (by omega) (by omega) (by omega)]; rfl, rfl⟩)
        · skip
          have h5 : v2.toInt ≤ f.toInt := h5
          refine hs (f := dm_goto 78) rfl rfl ?_
          have e18 : (k + 1).toInt = k.toInt + 1 := by have w := i_addc (x := k) (y := 1) 1 rfl (by omega) (by omega); omega
          refine hs (f := dm_iinc 81 7 1) (lv' := [(7, .int (k + 1)), (5, .long t), (0, .ref 68), (1, .long f), (3, .long s)]) rfl rfl ?_
          refine hs (f := dm_goto 8) rfl rfl ?_
          exact (IH _ (by omega)) t (k + 1) _ hM ht (by omega) (by omega) (by rw [e18, ← pF_go (by omega) (by omega)]; exact hk) rfl
  refine hx (t := cd_152) rfl (Nat.le_of_ble_eq_true rfl) (lv := [(0, .ref 68), (1, .long f), (3, .long s)]) rfl ?_
  refine hs (f := dm_lld 1 1) rfl rfl ?_
  refine hs (f := dm_lld 2 3) rfl rfl ?_
  have e19 : (f + s).toInt = f.toInt + s.toInt := by have w := j_add (x := f) (y := s) (by omega) (by omega); omega
  refine hs (f := dm_ll 3 (fun x y => x + y)) (st' := [.long (f + s)]) rfl rfl ?_
  refine hs (f := dm_lst 5 5) (lv' := [(5, .long (f + s)), (0, .ref 68), (1, .long f), (3, .long s)]) rfl rfl ?_
  refine hs (f := dm_push 6 (.int 0)) rfl rfl ?_
  refine hs (f := dm_ist 8 7) (lv' := [(7, .int 0), (5, .long (f + s)), (0, .ref 68), (1, .long f), (3, .long s)]) rfl rfl ?_
  exact (j8 _) _ 0 _ hM (by omega) (by decide) (by show (0 : Int) ≤ _; omega) (by show pF (q.2.2.2 96) (q.2.2.2 97) (q.1 34).toInt f.toInt (f.toInt + s.toInt) ((q.1 34).toInt - 0).toNat 0 = Part (q.2.2.2 96) (q.2.2.2 97) (q.1 34).toInt f.toInt s.toInt; rw [Int.sub_zero]; rfl) rfl
theorem r_153 {X : dm_Mem} {q : rS} {M : dm_Mem} (hM : Rm X q M) (ho : 0 ≤ (q.1 34).toInt ∧ (q.1 34).toInt ≤ 24000) (j : Nat) : ∀ (f s : Int64), s.toInt = 2 ^ j → 0 ≤ f.toInt → f.toInt + s.toInt ≤ 1152921504606846976 → hT (1 + 1 + j) 153 [.ref 68, .long f, .long s] M (fun r M' => r = some (.int (Int32.ofNat (SN (q.2.2.2 96) (q.2.2.2 97) (q.1 34).toInt j f.toInt))) ∧ M' = M) := by
  induction j using Nat.strongRecOn with
  | ind j IH =>
    intro f s hs0 hf hfs
    rw [show 1 + 1 + j = (1 + j) + 1 by omega]
    have hp := p2_pos j
    refine hx (t := cd_153) rfl (Nat.le_of_ble_eq_true rfl) (lv := [(0, .ref 68), (1, .long f), (3, .long s)]) rfl ?_
    refine hs (f := dm_ald 1 0) rfl rfl ?_
    refine hs (f := dm_lld 2 1) rfl rfl ?_
    refine hs (f := dm_lld 3 3) rfl rfl ?_
    refine r_inv rfl hM rfl (as := [.ref 68, .long f, .long s]) rfl (Nat.le_of_ble_eq_true rfl) (hT_mono (by omega) (r_152 hM f s ho hf (by omega) hfs) (fun r1 M8 w => ?_))
    obtain ⟨rfl, rfl⟩ := w
    have ple := Part_le (a := (q.2.2.2 96)) (b := (q.2.2.2 97)) (n := (q.1 34).toInt) (f := f.toInt) (s := s.toInt)
    generalize hP : Part (q.2.2.2 96) (q.2.2.2 97) (q.1 34).toInt f.toInt s.toInt = P at ple ⊢
    have eP := i_ofNat (L := P) (by omega)
    refine hs (f := dm_push 7 (.int 2)) rfl rfl ?_
    refine g_ic_ge (n := 10) (tt := 12) rfl (fun h1 => ?_) (fun h1 => ?_)
    · skip
      have h1 : (Int32.ofNat P).toInt ≥ 2 := h1
      cases j with
      | zero => exact absurd (Part_one (a := (q.2.2.2 96)) (b := (q.2.2.2 97)) (n := (q.1 34).toInt) (f := f.toInt)) (by rw [show (1 : Int) = s.toInt by omega, hP]; omega)
      | succ j =>
        have hp1 := p2_pos j
        have hp2 := p2_succ j
        refine hs (f := dm_push 13 (.int 1)) rfl rfl ?_
        refine hs (f := dm_ald 14 0) rfl rfl ?_
        refine hs (f := dm_lld 15 1) rfl rfl ?_
        refine hs (f := dm_lld 16 3) rfl rfl ?_
        refine hs (f := dm_push 19 (.long 2)) rfl rfl ?_
        have e2 : (s / (2 : Int64)).toInt = s.toInt / 2 := by have w := j_half (x := s) (by omega); omega
        refine hs (f := dm_lq 20 (fun x y => x / y)) (st' := [.long (s / (2 : Int64)), .long f, .ref 68, .int 1]) rfl rfl ?_
        refine r_inv rfl hM rfl (as := [.ref 68, .long f, .long (s / (2 : Int64))]) rfl (Nat.le_of_ble_eq_true rfl) (hT_mono (by omega) (IH j (by omega) f (s / (2 : Int64)) (by omega) (by omega) (by omega)) (fun r1 M9 w => ?_))
        obtain ⟨rfl, rfl⟩ := w
        refine hs (f := dm_ii 24 (fun x y => x + y)) (st' := [.int ((1 : Int32) + (Int32.ofNat (SN (q.2.2.2 96) (q.2.2.2 97) (q.1 34).toInt j f.toInt)))]) rfl rfl ?_
        refine hs (f := dm_ald 25 0) rfl rfl ?_
        refine hs (f := dm_lld 26 1) rfl rfl ?_
        refine hs (f := dm_lld 27 3) rfl rfl ?_
        refine hs (f := dm_push 30 (.long 2)) rfl rfl ?_
        have e3 : (s / (2 : Int64)).toInt = s.toInt / 2 := by have w := j_half (x := s) (by omega); omega
        refine hs (f := dm_lq 31 (fun x y => x / y)) (st' := [.long (s / (2 : Int64)), .long f, .ref 68, .int ((1 : Int32) + (Int32.ofNat (SN (q.2.2.2 96) (q.2.2.2 97) (q.1 34).toInt j f.toInt)))]) rfl rfl ?_
        have e4 : (f + (s / (2 : Int64))).toInt = f.toInt + s.toInt / 2 := by have w := j_add (x := f) (y := (s / (2 : Int64))) (by omega) (by omega); omega
        refine hs (f := dm_ll 32 (fun x y => x + y)) (st' := [.long (f + (s / (2 : Int64))), .ref 68, .int ((1 : Int32) + (Int32.ofNat (SN (q.2.2.2 96) (q.2.2.2 97) (q.1 34).toInt j f.toInt)))]) rfl rfl ?_
        refine hs (f := dm_lld 33 3) rfl rfl ?_
        refine hs (f := dm_push 36 (.long 2)) rfl rfl ?_
        have e5 : (s / (2 : Int64)).toInt = s.toInt / 2 := by have w := j_half (x := s) (by omega); omega
        refine hs (f := dm_lq 37 (fun x y => x / y)) (st' := [.long (s / (2 : Int64)), .long (f + (s / (2 : Int64))), .ref 68, .int ((1 : Int32) + (Int32.ofNat (SN (q.2.2.2 96) (q.2.2.2 97) (q.1 34).toInt j f.toInt)))]) rfl rfl ?_
        refine r_inv rfl hM rfl (as := [.ref 68, .long (f + (s / (2 : Int64))), .long (s / (2 : Int64))]) rfl (Nat.le_of_ble_eq_true rfl) (hT_mono (by omega) (IH j (by omega) (f + (s / (2 : Int64))) (s / (2 : Int64)) (by omega) (by omega) (by omega)) (fun r1 M9 w => ?_))
        obtain ⟨rfl, rfl⟩ := w
        refine hs (f := dm_ii 41 (fun x y => x + y)) (st' := [.int (((1 : Int32) + (Int32.ofNat (SN (q.2.2.2 96) (q.2.2.2 97) (q.1 34).toInt j f.toInt))) + (Int32.ofNat (SN (q.2.2.2 96) (q.2.2.2 97) (q.1 34).toInt j (f + (s / (2 : Int64))).toInt)))]) rfl rfl ?_
        exact hr (f := dm_ret .int) rfl rfl (⟨by rw [i_sum3, SN_not (by rw [← hs0, hP]; omega), show (f + s / 2).toInt = f.toInt + 2 ^ j by omega], rfl⟩)
    · skip
      have h1 : (Int32.ofNat P).toInt < 2 := h1
      refine hs (f := dm_push 11 (.int 1)) rfl rfl ?_
      exact hr (f := dm_ret .int) rfl rfl (⟨by rw [SN_lt (by rw [← hs0, hP]; omega)]; rfl, rfl⟩)
