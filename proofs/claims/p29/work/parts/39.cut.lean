/-! a share cut to a stretch; spans as a list -/
def rowO (a b : Nat → Int64) (n : Int) (l : List (Int64 × Int64)) : Prop := n = l.length ∧ ∀ (k : Nat) (z : Int64 × Int64), l[k]? = some z → a k = z.1 ∧ b k = z.2
theorem rowO_nil {a b : Nat → Int64} : rowO a b 0 [] := ⟨rfl, fun k z h => by simp at h⟩
theorem rowO_app {a b : Nat → Int64} {n : Int} {l : List (Int64 × Int64)} {x y : Int64} {m : Nat} (h : rowO a b n l) (hm : n = m) : rowO (vp_updL a m x) (vp_updL b m y) (n + 1) (l ++ [(x, y)]) := by
  refine ⟨by simp; have := h.1; omega, fun k z hk => ?_⟩
  have hml : m = l.length := by have := h.1; omega
  by_cases e : k = m
  · subst e
    rw [hml, List.getElem?_append_right (Nat.le_refl _)] at hk
    simp at hk
    subst hk
    unfold vp_updL
    simp
  · have hk2 : l[k]? = some z := by
      by_cases q : k < l.length
      · rw [List.getElem?_append_left q] at hk
        exact hk
      · rw [List.getElem?_append_right (by omega)] at hk
        obtain ⟨c, hc⟩ : ∃ c, k - l.length = c + 1 := ⟨k - l.length - 1, by omega⟩
        rw [hc] at hk
        simp at hk
    unfold vp_updL
    rw [if_neg e, if_neg e]
    exact h.2 k z hk2
theorem rowO_eq {a b a' b' : Nat → Int64} {n n' : Int} {l : List (Int64 × Int64)} (h : rowO a b n l) (h' : rowO a' b' n' l) : n = n' ∧ ∀ i : Int, 0 ≤ i → i < n → rB a i = rB a' i ∧ rB b i = rB b' i := by
  refine ⟨by rw [h.1, h'.1], fun i i0 i1 => ?_⟩
  have hl : i.toNat < l.length := by have := h.1; omega
  have h1 := h.2 i.toNat _ (List.getElem?_eq_getElem hl)
  have h2 := h'.2 i.toNat _ (List.getElem?_eq_getElem hl)
  unfold rB
  rw [h1.1, h1.2, h2.1, h2.2]
  exact ⟨rfl, rfl⟩
theorem pF_congr {a b a' b' : Nat → Int64} {n f t : Int} (h : ∀ i : Int, 0 ≤ i → i < n → rB a i = rB a' i ∧ rB b i = rB b' i) : ∀ (d : Nat) (k : Int), 0 ≤ k → pF a b n f t d k = pF a' b' n f t d k := by
  intro d
  induction d with
  | zero => intro k _; rfl
  | succ d ih =>
    intro k k0
    rw [pF, pF]
    by_cases hk : k < n
    · rw [(h k k0 hk).1, (h k k0 hk).2, ih (k + 1) (by omega)]
    · rw [if_pos hk, if_pos hk]
theorem SN_congr {a b a' b' : Nat → Int64} {n : Int} (h : ∀ i : Int, 0 ≤ i → i < n → rB a i = rB a' i ∧ rB b i = rB b' i) : ∀ (j : Nat) (f : Int), SN a b n j f = SN a' b' n j f := by
  intro j
  induction j with
  | zero => intro f; rfl
  | succ j ih =>
    intro f
    rw [SN, SN, ih f, ih (f + 2 ^ j)]
    unfold Part
    rw [pF_congr h _ 0 (by omega)]
theorem flat_congr {w w' : Nat → Int64} {n f s : Int} (h : ∀ i : Int, 0 ≤ i → i < n → rB w i = rB w' i) : flat w n f s ↔ flat w' n f s := by
  constructor
  · intro z i i0 i1 hi
    rw [← h i i0 i1] at hi
    exact z i i0 i1 hi
  · intro z i i0 i1 hi
    rw [h i i0 i1] at hi
    exact z i i0 i1 hi
theorem HN_congr {w w' : Nat → Int64} {n : Int} (h : ∀ i : Int, 0 ≤ i → i < n → rB w i = rB w' i) : ∀ (j : Nat) (f : Int), HN w n j f = HN w' n j f := by
  intro j
  induction j with
  | zero => intro f; rfl
  | succ j ih =>
    intro f
    by_cases q : flat w n f (2 ^ (j + 1))
    · rw [HN_flat q, HN_flat ((flat_congr h).mp q)]
    · rw [HN_not q, HN_not (fun z => q ((flat_congr h).mpr z)), ih f, ih (f + 2 ^ j)]
theorem wS_congr {w w' : Nat → Int64} {n : Int} (h : ∀ i : Int, 0 ≤ i → i < n → rB w i = rB w' i) (hS : wS w n) : wS w' n := by
  have h1 := hS.1
  refine ⟨h1, by rw [← h 0 (by omega) (by omega)]; exact hS.2.1, fun i i0 i1 => ?_, fun i i0 i1 => ?_⟩
  · rw [← h i i0 (by omega), ← h (i + 1) (by omega) i1]
    exact hS.2.2.1 i i0 i1
  · rw [← h i i0 i1]
    exact hS.2.2.2 i i0 i1
theorem oS_congr {a b a' b' : Nat → Int64} {n : Int} (h : ∀ i : Int, 0 ≤ i → i < n → rB a i = rB a' i ∧ rB b i = rB b' i) (hS : oS a b n) : oS a' b' n := by
  refine ⟨fun i i0 i1 => ?_, fun i i0 i1 => ?_⟩
  · rw [← (h i i0 i1).1, ← (h i i0 i1).2]
    exact hS.1 i i0 i1
  · rw [← (h i i0 (by omega)).2, ← (h (i + 1) (by omega) i1).1]
    exact hS.2 i i0 i1
def mxJ (a b : Int64) : Int64 := if a.toInt < b.toInt then b else a
def mnJ (a b : Int64) : Int64 := if b.toInt < a.toInt then b else a
def cutL (fr to : Nat → Int64) (f t : Int64) (e : Int) : Nat → Int → List (Int64 × Int64) → List (Int64 × Int64)
  | 0, _, l => l
  | d + 1, k, l => if k < e then cutL fr to f t e d (k + 1) (if (mxJ (fr k.toNat) f).toInt < (mnJ (to k.toNat) t).toInt then l ++ [(mxJ (fr k.toNat) f, mnJ (to k.toNat) t)] else l) else l
theorem cutL_go {fr to : Nat → Int64} {f t : Int64} {e k : Int} {l : List (Int64 × Int64)} (h : k < e) : cutL fr to f t e (e - k).toNat k l = cutL fr to f t e (e - (k + 1)).toNat (k + 1) (if (mxJ (fr k.toNat) f).toInt < (mnJ (to k.toNat) t).toInt then l ++ [(mxJ (fr k.toNat) f, mnJ (to k.toNat) t)] else l) := by
  rw [show (e - k).toNat = (e - (k + 1)).toNat + 1 by omega, cutL, if_pos h]
theorem cutL_end {fr to : Nat → Int64} {f t : Int64} {e k : Int} {d : Nat} {l : List (Int64 × Int64)} (h : ¬ k < e) : cutL fr to f t e d k l = l := by
  cases d with
  | zero => rfl
  | succ d => rw [cutL, if_neg h]
/-- spans in order, all behind them at or after P -/
def cI (a b : Nat → Int64) (n P : Int) : Prop := oS a b n ∧ ∀ i : Int, 0 ≤ i → i < n → rB b i ≤ P
theorem cI_nil {a b : Nat → Int64} {P : Int} : cI a b 0 P := ⟨⟨fun i i0 i1 => by omega, fun i i0 i1 => by omega⟩, fun i i0 i1 => by omega⟩
theorem cI_up {a b : Nat → Int64} {n P P' : Int} (h : cI a b n P) (hP : P ≤ P') : cI a b n P' := ⟨h.1, fun i i0 i1 => by have := h.2 i i0 i1; omega⟩
theorem cI_app {a b : Nat → Int64} {n P P' : Int} {x y : Int64} {m : Nat} (h : cI a b n P) (hm : n = m) (h1 : P ≤ x.toInt) (h0 : 0 ≤ x.toInt) (h2 : x.toInt < y.toInt) (h3 : y.toInt ≤ 1152921504606846976) (h4 : y.toInt ≤ P') (h5 : P ≤ P') : cI (vp_updL a m x) (vp_updL b m y) (n + 1) P' := by
  refine ⟨⟨fun i i0 i1 => ?_, fun i i0 i1 => ?_⟩, fun i i0 i1 => ?_⟩
  · rw [rB_upd i0, rB_upd i0]
    by_cases e : i = m
    · rw [if_pos e, if_pos e]; omega
    · rw [if_neg e, if_neg e]
      exact h.1.1 i i0 (by omega)
  · rw [rB_upd i0, rB_upd (by omega)]
    by_cases e : i + 1 = m
    · rw [if_neg (by omega), if_pos e]
      have := h.2 i i0 (by omega)
      omega
    · rw [if_neg (by omega), if_neg e]
      exact h.1.2 i i0 (by omega)
  · rw [rB_upd i0]
    by_cases e : i = m
    · rw [if_pos e]; exact h4
    · rw [if_neg e]
      have := h.2 i i0 (by omega)
      omega
theorem r_154 {X : dm_Mem} {q : rS} {M : dm_Mem} (hM : Rm X q M) (s : Int32) (f t : Int64) (s0 : 0 ≤ s.toInt) (s1 : s.toInt < 1000) (p0 : 0 ≤ rA (q.2.2.1 74) s.toInt) (p1 : rA (q.2.2.1 74) s.toInt ≤ rA (q.2.2.1 74) (s.toInt + 1)) (p2 : rA (q.2.2.1 74) (s.toInt + 1) ≤ 24000) (hO : oS (seg (q.2.2.2 71) (rA (q.2.2.1 74) s.toInt)) (seg (q.2.2.2 72) (rA (q.2.2.1 74) s.toInt)) (rA (q.2.2.1 74) (s.toInt + 1) - rA (q.2.2.1 74) s.toInt)) (ht : t.toInt ≤ 1152921504606846976) (hf : 0 ≤ f.toInt) : hT 1 154 [.ref 68, .int s, .long f, .long t] M (fun r M' => r = none ∧ ∃ (n : Int32) (b96 b97 : Nat → Int64), rowO b96 b97 n.toInt (cutL (q.2.2.2 71) (q.2.2.2 72) f t (rA (q.2.2.1 74) (s.toInt + 1)) (rA (q.2.2.1 74) (s.toInt + 1) - rA (q.2.2.1 74) s.toInt).toNat (rA (q.2.2.1 74) s.toInt) []) ∧ oS b96 b97 n.toInt ∧ 0 ≤ n.toInt ∧ n.toInt ≤ rA (q.2.2.1 74) (s.toInt + 1) - rA (q.2.2.1 74) s.toInt ∧ Rm X (sB (sB (sF q 34 n) 96 b96) 97 b97) M') := by
  have j13 : ∀ (nn : Nat), (∀ (n k : Int32) (a b : Int64) (b96 b97 : Nat → Int64) (M : dm_Mem), Rm X (sB (sB (sF q 34 n) 96 b96) 97 b97) M → (rA (q.2.2.1 74) s.toInt ≤ k.toInt) → (k.toInt ≤ rA (q.2.2.1 74) (s.toInt + 1)) → (0 ≤ n.toInt) → (n.toInt ≤ k.toInt - rA (q.2.2.1 74) s.toInt) → (∃ l, rowO b96 b97 n.toInt l ∧ cutL (q.2.2.2 71) (q.2.2.2 72) f t (rA (q.2.2.1 74) (s.toInt + 1)) (rA (q.2.2.1 74) (s.toInt + 1) - k.toInt).toNat k.toInt l = (cutL (q.2.2.2 71) (q.2.2.2 72) f t (rA (q.2.2.1 74) (s.toInt + 1)) (rA (q.2.2.1 74) (s.toInt + 1) - rA (q.2.2.1 74) s.toInt).toNat (rA (q.2.2.1 74) s.toInt) [])) → (cI b96 b97 n.toInt (if rA (q.2.2.1 74) s.toInt < k.toInt then rB (q.2.2.2 72) (k.toInt - 1) else 0)) → (rA (q.2.2.1 74) (s.toInt + 1) - k.toInt).toNat = nn → hG 0 cd_154 13 [(6, .int k), (0, .ref 68), (1, .int s), (2, .long f), (4, .long t)] [] M (fun r M' => r = none ∧ ∃ (n : Int32) (b96 b97 : Nat → Int64), rowO b96 b97 n.toInt (cutL (q.2.2.2 71) (q.2.2.2 72) f t (rA (q.2.2.1 74) (s.toInt + 1)) (rA (q.2.2.1 74) (s.toInt + 1) - rA (q.2.2.1 74) s.toInt).toNat (rA (q.2.2.1 74) s.toInt) []) ∧ oS b96 b97 n.toInt ∧ 0 ≤ n.toInt ∧ n.toInt ≤ rA (q.2.2.1 74) (s.toInt + 1) - rA (q.2.2.1 74) s.toInt ∧ Rm X (sB (sB (sF q 34 n) 96 b96) 97 b97) M')) ∧ (∀ (n k : Int32) (a b : Int64) (b96 b97 : Nat → Int64) (M : dm_Mem), Rm X (sB (sB (sF q 34 n) 96 b96) 97 b97) M → (rA (q.2.2.1 74) s.toInt ≤ k.toInt) → (k.toInt ≤ rA (q.2.2.1 74) (s.toInt + 1)) → (0 ≤ n.toInt) → (n.toInt ≤ k.toInt - rA (q.2.2.1 74) s.toInt) → (∃ l, rowO b96 b97 n.toInt l ∧ cutL (q.2.2.2 71) (q.2.2.2 72) f t (rA (q.2.2.1 74) (s.toInt + 1)) (rA (q.2.2.1 74) (s.toInt + 1) - k.toInt).toNat k.toInt l = (cutL (q.2.2.2 71) (q.2.2.2 72) f t (rA (q.2.2.1 74) (s.toInt + 1)) (rA (q.2.2.1 74) (s.toInt + 1) - rA (q.2.2.1 74) s.toInt).toNat (rA (q.2.2.1 74) s.toInt) [])) → (cI b96 b97 n.toInt (if rA (q.2.2.1 74) s.toInt < k.toInt then rB (q.2.2.2 72) (k.toInt - 1) else 0)) → (rA (q.2.2.1 74) (s.toInt + 1) - k.toInt).toNat = nn → hG 0 cd_154 13 [(6, .int k), (9, .long b), (7, .long a), (0, .ref 68), (1, .int s), (2, .long f), (4, .long t)] [] M (fun r M' => r = none ∧ ∃ (n : Int32) (b96 b97 : Nat → Int64), rowO b96 b97 n.toInt (cutL (q.2.2.2 71) (q.2.2.2 72) f t (rA (q.2.2.1 74) (s.toInt + 1)) (rA (q.2.2.1 74) (s.toInt + 1) - rA (q.2.2.1 74) s.toInt).toNat (rA (q.2.2.1 74) s.toInt) []) ∧ oS b96 b97 n.toInt ∧ 0 ≤ n.toInt ∧ n.toInt ≤ rA (q.2.2.1 74) (s.toInt + 1) - rA (q.2.2.1 74) s.toInt ∧ Rm X (sB (sB (sF q 34 n) 96 b96) 97 b97) M')) := by
    intro nn
    induction nn using Nat.strongRecOn with
    | ind nn IH =>
      refine ⟨?_, ?_⟩
      · skip
        intro n k a b b96 b97 M hM k0 k1 n0 n1 hl hx hms
        refine hs (f := dm_ild 15 6) rfl rfl ?_
        refine hs (f := dm_ald 16 0) rfl rfl ?_
        refine r_geta (c := 71) rfl hM rfl ?_
        refine hs (f := dm_ild 20 1) rfl rfl ?_
        refine hs (f := dm_push 21 (.int 1)) rfl rfl ?_
        have e1 : (s + (1 : Int32)).toInt = s.toInt + 1 := by have w := i_addc (x := s) (y := (1 : Int32)) 1 rfl (by omega) (by omega); omega
        refine hs (f := dm_ii 22 (fun x y => x + y)) (st' := [.int (s + (1 : Int32)), .ref 74, .int k]) rfl rfl ?_
        refine r_iald (L := 1001) (i := (s + (1 : Int32))) ((q.2.2.1 74) (s + (1 : Int32)).toInt.toNat) rfl hM rfl (by omega) rfl ?_
        generalize g3 : (q.2.2.1 74) (s + (1 : Int32)).toInt.toNat = v2
        have x4 : v2.toInt = rA (q.2.2.1 74) (s.toInt + 1) := rA_of (i := (s + (1 : Int32))) g3 e1
        refine g_ic_ge (n := 26) (tt := 127) rfl (fun h5 => ?_) (fun h5 => ?_)
        · skip
          have h5 : k.toInt ≥ v2.toInt := h5
          exact hr (f := dm_vret) rfl rfl ((by obtain ⟨l, hrw, hl2⟩ := hl; rw [cutL_end (by omega)] at hl2; rw [hl2] at hrw; exact ⟨rfl, n, b96, b97, hrw, hx.1, n0, by omega, hM⟩))
        · skip
          have h5 : k.toInt < v2.toInt := h5
          obtain ⟨l, hrw, hl2⟩ := hl
          have hk9 := hO.1 (k.toInt - rA (q.2.2.1 74) s.toInt) (by omega) (by omega)
          rw [rB_seg (by omega), rB_seg (by omega), show rA (q.2.2.1 74) s.toInt + (k.toInt - rA (q.2.2.1 74) s.toInt) = k.toInt by omega] at hk9
          have hPB : (if rA (q.2.2.1 74) s.toInt < k.toInt then rB (q.2.2.2 72) (k.toInt - 1) else 0) ≤ rB (q.2.2.2 71) k.toInt := by
            split
            · have z := hO.2 (k.toInt - 1 - rA (q.2.2.1 74) s.toInt) (by omega) (by omega)
              rw [rB_seg (by omega), rB_seg (by omega), show rA (q.2.2.1 74) s.toInt + (k.toInt - 1 - rA (q.2.2.1 74) s.toInt) = k.toInt - 1 by omega, show rA (q.2.2.1 74) s.toInt + (k.toInt - 1 - rA (q.2.2.1 74) s.toInt + 1) = k.toInt by omega] at z
              exact z
            · omega
          have hPB2 : (if rA (q.2.2.1 74) s.toInt < k.toInt + 1 then rB (q.2.2.2 72) (k.toInt + 1 - 1) else 0) = rB (q.2.2.2 72) k.toInt := by rw [if_pos (by omega), show k.toInt + 1 - 1 = k.toInt by omega]
          have j76 : ∀ (x y : Int64) (M : dm_Mem), Rm X (sB (sB (sF q 34 n) 96 b96) 97 b97) M → (x = mxJ ((q.2.2.2 71) k.toInt.toNat) f) → (y = mnJ ((q.2.2.2 72) k.toInt.toNat) t) → (rB (q.2.2.2 71) k.toInt ≤ x.toInt ∧ f.toInt ≤ x.toInt) → (y.toInt ≤ rB (q.2.2.2 72) k.toInt ∧ y.toInt ≤ t.toInt) → hG 0 cd_154 76 [(7, .long x), (6, .int k), (0, .ref 68), (1, .int s), (2, .long f), (4, .long t)] [.long y] M (fun r M' => r = none ∧ ∃ (n : Int32) (b96 b97 : Nat → Int64), rowO b96 b97 n.toInt (cutL (q.2.2.2 71) (q.2.2.2 72) f t (rA (q.2.2.1 74) (s.toInt + 1)) (rA (q.2.2.1 74) (s.toInt + 1) - rA (q.2.2.1 74) s.toInt).toNat (rA (q.2.2.1 74) s.toInt) []) ∧ oS b96 b97 n.toInt ∧ 0 ≤ n.toInt ∧ n.toInt ≤ rA (q.2.2.1 74) (s.toInt + 1) - rA (q.2.2.1 74) s.toInt ∧ Rm X (sB (sB (sF q 34 n) 96 b96) 97 b97) M') := by
            intro x y M hM hA hB hA2 hB2
            refine hs (f := dm_lst 78 9) (lv' := [(9, .long y), (7, .long x), (6, .int k), (0, .ref 68), (1, .int s), (2, .long f), (4, .long t)]) rfl rfl ?_
            refine hs (f := dm_lld 80 7) rfl rfl ?_
            refine hs (f := dm_lld 82 9) rfl rfl ?_
            refine g_lc_lt (x := x) (y := y) (m := 83) (n := 86) (tt := 89) rfl rfl (fun h6 => ?_) (fun h6 => ?_)
            · skip
              have h6 : x.toInt < y.toInt := h6
              refine hs (f := dm_ald 90 0) rfl rfl ?_
              refine r_geta (c := 93) rfl hM rfl ?_
              refine hs (f := dm_ald 94 0) rfl rfl ?_
              refine r_geti n rfl hM rfl rfl ?_
              refine hs (f := dm_lld 99 7) rfl rfl ?_
              refine r_last (L := 24000) (i := n) (x := x) b96 rfl hM rfl (by omega) rfl (fun M7 hM7 => ?_)
              replace hM7 := rm_to (q' := (sB (sB (sF q 34 n) 96 (vp_updL b96 n.toInt.toNat x)) 97 b97)) hM7 (show sB (sB (sB (sF q 34 n) 96 b96) 97 b97) 96 (vp_updL b96 n.toInt.toNat x) = (sB (sB (sF q 34 n) 96 (vp_updL b96 n.toInt.toNat x)) 97 b97) from (show sB (sB (sB (sF q 34 n) 96 b96) 97 b97) 96 (vp_updL b96 n.toInt.toNat x) = (sB (sB (sF q 34 n) 96 (vp_updL b96 n.toInt.toNat x)) 97 b97) from Eq.trans (show sB (sB (sB (sF q 34 n) 96 b96) 97 b97) 96 (vp_updL b96 n.toInt.toNat x) = sB (sB (sB (sF q 34 n) 96 b96) 96 (vp_updL b96 n.toInt.toNat x)) 97 b97 from sB_cm (by decide)) (congrArg (fun z => sB z 97 b97) (show sB (sB (sF q 34 n) 96 b96) 96 (vp_updL b96 n.toInt.toNat x) = (sB (sF q 34 n) 96 (vp_updL b96 n.toInt.toNat x)) from sB_sB))))
              refine hs (f := dm_ald 101 0) rfl rfl ?_
              refine r_geta (c := 94) rfl hM7 rfl ?_
              refine hs (f := dm_ald 105 0) rfl rfl ?_
              refine r_geti n rfl hM7 rfl rfl ?_
              refine hs (f := dm_lld 110 9) rfl rfl ?_
              refine r_last (L := 24000) (i := n) (x := y) b97 rfl hM7 rfl (by omega) rfl (fun M8 hM8 => ?_)
              replace hM8 := rm_to (q' := (sB (sB (sF q 34 n) 96 (vp_updL b96 n.toInt.toNat x)) 97 (vp_updL b97 n.toInt.toNat y))) hM8 (show sB (sB (sB (sF q 34 n) 96 (vp_updL b96 n.toInt.toNat x)) 97 b97) 97 (vp_updL b97 n.toInt.toNat y) = (sB (sB (sF q 34 n) 96 (vp_updL b96 n.toInt.toNat x)) 97 (vp_updL b97 n.toInt.toNat y)) from (show sB (sB (sB (sF q 34 n) 96 (vp_updL b96 n.toInt.toNat x)) 97 b97) 97 (vp_updL b97 n.toInt.toNat y) = (sB (sB (sF q 34 n) 96 (vp_updL b96 n.toInt.toNat x)) 97 (vp_updL b97 n.toInt.toNat y)) from sB_sB))
              refine hs (f := dm_ald 112 0) rfl rfl ?_
              refine hs (f := dm_dup 113) (st' := [.ref 68, .ref 68]) rfl rfl ?_
              refine r_geti n rfl hM8 rfl rfl ?_
              refine hs (f := dm_push 117 (.int 1)) rfl rfl ?_
              have e9 : (n + (1 : Int32)).toInt = n.toInt + 1 := by have w := i_addc (x := n) (y := (1 : Int32)) 1 rfl (by omega) (by omega); omega
              refine hs (f := dm_ii 118 (fun x y => x + y)) (st' := [.int (n + (1 : Int32)), .ref 68]) rfl rfl ?_
              refine r_puti rfl hM8 rfl (fun M10 hM10 => ?_)
              replace hM10 := rm_to (q' := (sB (sB (sF q 34 (n + (1 : Int32))) 96 (vp_updL b96 n.toInt.toNat x)) 97 (vp_updL b97 n.toInt.toNat y))) hM10 (show sF (sB (sB (sF q 34 n) 96 (vp_updL b96 n.toInt.toNat x)) 97 (vp_updL b97 n.toInt.toNat y)) 34 (n + (1 : Int32)) = (sB (sB (sF q 34 (n + (1 : Int32))) 96 (vp_updL b96 n.toInt.toNat x)) 97 (vp_updL b97 n.toInt.toNat y)) from (congrArg (fun z => (sB (sB z 96 (vp_updL b96 n.toInt.toNat x)) 97 (vp_updL b97 n.toInt.toNat y))) (show sF (sF q 34 n) 34 (n + (1 : Int32)) = (sF q 34 (n + (1 : Int32))) from sF_sF)))
              have e11 : (k + 1).toInt = k.toInt + 1 := by have w := i_addc (x := k) (y := 1) 1 rfl (by omega) (by omega); omega
              refine hs (f := dm_iinc 124 6 1) (lv' := [(6, .int (k + 1)), (9, .long y), (7, .long x), (0, .ref 68), (1, .int s), (2, .long f), (4, .long t)]) rfl rfl ?_
              refine hs (f := dm_goto 13) rfl rfl ?_
              exact (IH _ (by omega)).2 (n + (1 : Int32)) (k + 1) x y (vp_updL b96 n.toInt.toNat x) (vp_updL b97 n.toInt.toNat y) _ hM10 (by omega) (by omega) (by omega) (by omega) ⟨_, (by rw [e9]; exact rowO_app hrw (Int.toNat_of_nonneg n0).symm), by have z := hl2; rw [cutL_go (by omega), ← hA, ← hB, if_pos (by omega)] at z; rw [e11]; exact z⟩ (by rw [e11]; rw [e9]; exact (cI_app hx (Int.toNat_of_nonneg n0).symm (by omega) (by omega) (by omega) (by omega) (by omega) (by omega))) rfl
            · skip
              have h6 : x.toInt ≥ y.toInt := h6
              refine hs (f := dm_goto 121) rfl rfl ?_
              have e12 : (k + 1).toInt = k.toInt + 1 := by have w := i_addc (x := k) (y := 1) 1 rfl (by omega) (by omega); omega
              refine hs (f := dm_iinc 124 6 1) (lv' := [(6, .int (k + 1)), (9, .long y), (7, .long x), (0, .ref 68), (1, .int s), (2, .long f), (4, .long t)]) rfl rfl ?_
              refine hs (f := dm_goto 13) rfl rfl ?_
              exact (IH _ (by omega)).2 n (k + 1) x y b96 b97 _ hM (by omega) (by omega) (by omega) (by omega) ⟨_, hrw, by have z := hl2; rw [cutL_go (by omega), ← hA, ← hB, if_neg (by omega)] at z; rw [e12]; exact z⟩ (by rw [e12]; exact (cI_up hx (by omega))) rfl
          have j49 : ∀ (x : Int64) (M : dm_Mem), Rm X (sB (sB (sF q 34 n) 96 b96) 97 b97) M → (x = mxJ ((q.2.2.2 71) k.toInt.toNat) f) → (rB (q.2.2.2 71) k.toInt ≤ x.toInt ∧ f.toInt ≤ x.toInt) → hG 0 cd_154 49 [(6, .int k), (0, .ref 68), (1, .int s), (2, .long f), (4, .long t)] [.long x] M (fun r M' => r = none ∧ ∃ (n : Int32) (b96 b97 : Nat → Int64), rowO b96 b97 n.toInt (cutL (q.2.2.2 71) (q.2.2.2 72) f t (rA (q.2.2.1 74) (s.toInt + 1)) (rA (q.2.2.1 74) (s.toInt + 1) - rA (q.2.2.1 74) s.toInt).toNat (rA (q.2.2.1 74) s.toInt) []) ∧ oS b96 b97 n.toInt ∧ 0 ≤ n.toInt ∧ n.toInt ≤ rA (q.2.2.1 74) (s.toInt + 1) - rA (q.2.2.1 74) s.toInt ∧ Rm X (sB (sB (sF q 34 n) 96 b96) 97 b97) M') := by
            intro x M hM hA hA2
            refine hs (f := dm_lst 51 7) (lv' := [(7, .long x), (6, .int k), (0, .ref 68), (1, .int s), (2, .long f), (4, .long t)]) rfl rfl ?_
            refine hs (f := dm_ald 52 0) rfl rfl ?_
            refine r_geta (c := 69) rfl hM rfl ?_
            refine hs (f := dm_ild 57 6) rfl rfl ?_
            refine r_lald (L := 24000) (i := k) ((q.2.2.2 72) k.toInt.toNat) rfl hM rfl (by omega) rfl ?_
            generalize g14 : (q.2.2.2 72) k.toInt.toNat = v13
            have x15 : v13.toInt = rB (q.2.2.2 72) k.toInt := rB_of (i := k) g14 rfl
            refine hs (f := dm_lld 60 4) rfl rfl ?_
            refine g_lc_le (x := v13) (y := t) (m := 61) (n := 64) (tt := 69) rfl rfl (fun h16 => ?_) (fun h16 => ?_)
            · skip
              have h16 : v13.toInt ≤ t.toInt := h16
              refine hs (f := dm_ald 70 0) rfl rfl ?_
              refine r_geta (c := 69) rfl hM rfl ?_
              refine hs (f := dm_ild 75 6) rfl rfl ?_
              refine r_lald (L := 24000) (i := k) ((q.2.2.2 72) k.toInt.toNat) rfl hM rfl (by omega) rfl ?_
              generalize g18 : (q.2.2.2 72) k.toInt.toNat = v17
              have x19 : v17.toInt = rB (q.2.2.2 72) k.toInt := rB_of (i := k) g18 rfl
              exact j76 x v17 _ hM hA (by rw [← g18]; unfold mnJ; exact (if_neg (show ¬ t.toInt < rB (q.2.2.2 72) k.toInt by omega)).symm) hA2 (by omega)
            · skip
              have h16 : v13.toInt > t.toInt := h16
              refine hs (f := dm_lld 66 4) rfl rfl ?_
              refine hs (f := dm_goto 76) rfl rfl ?_
              exact j76 x t _ hM hA (by unfold mnJ; exact (if_pos (show t.toInt < rB (q.2.2.2 72) k.toInt by omega)).symm) hA2 (by omega)
          refine hs (f := dm_ald 27 0) rfl rfl ?_
          refine r_geta (c := 68) rfl hM rfl ?_
          refine hs (f := dm_ild 32 6) rfl rfl ?_
          refine r_lald (L := 24000) (i := k) ((q.2.2.2 71) k.toInt.toNat) rfl hM rfl (by omega) rfl ?_
          generalize g21 : (q.2.2.2 71) k.toInt.toNat = v20
          have x22 : v20.toInt = rB (q.2.2.2 71) k.toInt := rB_of (i := k) g21 rfl
          refine hs (f := dm_lld 34 2) rfl rfl ?_
          refine g_lc_ge (x := v20) (y := f) (m := 35) (n := 38) (tt := 42) rfl rfl (fun h23 => ?_) (fun h23 => ?_)
          · skip
            have h23 : v20.toInt ≥ f.toInt := h23
            refine hs (f := dm_ald 43 0) rfl rfl ?_
            refine r_geta (c := 68) rfl hM rfl ?_
            refine hs (f := dm_ild 48 6) rfl rfl ?_
            refine r_lald (L := 24000) (i := k) ((q.2.2.2 71) k.toInt.toNat) rfl hM rfl (by omega) rfl ?_
            generalize g25 : (q.2.2.2 71) k.toInt.toNat = v24
            have x26 : v24.toInt = rB (q.2.2.2 71) k.toInt := rB_of (i := k) g25 rfl
            exact j49 v24 _ hM (by rw [← g25]; unfold mxJ; exact (if_neg (show ¬ rB (q.2.2.2 71) k.toInt < f.toInt by omega)).symm) (by omega)
          · skip
            have h23 : v20.toInt < f.toInt := h23
            refine hs (f := dm_lld 39 2) rfl rfl ?_
            refine hs (f := dm_goto 49) rfl rfl ?_
            exact j49 f _ hM (by unfold mxJ; exact (if_pos (show rB (q.2.2.2 71) k.toInt < f.toInt by omega)).symm) (by omega)
      · skip
        intro n k a b b96 b97 M hM k0 k1 n0 n1 hl hx hms
        refine hs (f := dm_ild 15 6) rfl rfl ?_
        refine hs (f := dm_ald 16 0) rfl rfl ?_
        refine r_geta (c := 71) rfl hM rfl ?_
        refine hs (f := dm_ild 20 1) rfl rfl ?_
        refine hs (f := dm_push 21 (.int 1)) rfl rfl ?_
        have e27 : (s + (1 : Int32)).toInt = s.toInt + 1 := by have w := i_addc (x := s) (y := (1 : Int32)) 1 rfl (by omega) (by omega); omega
        refine hs (f := dm_ii 22 (fun x y => x + y)) (st' := [.int (s + (1 : Int32)), .ref 74, .int k]) rfl rfl ?_
        refine r_iald (L := 1001) (i := (s + (1 : Int32))) ((q.2.2.1 74) (s + (1 : Int32)).toInt.toNat) rfl hM rfl (by omega) rfl ?_
        generalize g29 : (q.2.2.1 74) (s + (1 : Int32)).toInt.toNat = v28
        have x30 : v28.toInt = rA (q.2.2.1 74) (s.toInt + 1) := rA_of (i := (s + (1 : Int32))) g29 e27
        refine g_ic_ge (n := 26) (tt := 127) rfl (fun h31 => ?_) (fun h31 => ?_)
        · skip
          have h31 : k.toInt ≥ v28.toInt := h31
          exact hr (f := dm_vret) rfl rfl ((by obtain ⟨l, hrw, hl2⟩ := hl; rw [cutL_end (by omega)] at hl2; rw [hl2] at hrw; exact ⟨rfl, n, b96, b97, hrw, hx.1, n0, by omega, hM⟩))
        · skip
          have h31 : k.toInt < v28.toInt := h31
          obtain ⟨l, hrw, hl2⟩ := hl
          have hk9 := hO.1 (k.toInt - rA (q.2.2.1 74) s.toInt) (by omega) (by omega)
          rw [rB_seg (by omega), rB_seg (by omega), show rA (q.2.2.1 74) s.toInt + (k.toInt - rA (q.2.2.1 74) s.toInt) = k.toInt by omega] at hk9
          have hPB : (if rA (q.2.2.1 74) s.toInt < k.toInt then rB (q.2.2.2 72) (k.toInt - 1) else 0) ≤ rB (q.2.2.2 71) k.toInt := by
            split
            · have z := hO.2 (k.toInt - 1 - rA (q.2.2.1 74) s.toInt) (by omega) (by omega)
              rw [rB_seg (by omega), rB_seg (by omega), show rA (q.2.2.1 74) s.toInt + (k.toInt - 1 - rA (q.2.2.1 74) s.toInt) = k.toInt - 1 by omega, show rA (q.2.2.1 74) s.toInt + (k.toInt - 1 - rA (q.2.2.1 74) s.toInt + 1) = k.toInt by omega] at z
              exact z
            · omega
          have hPB2 : (if rA (q.2.2.1 74) s.toInt < k.toInt + 1 then rB (q.2.2.2 72) (k.toInt + 1 - 1) else 0) = rB (q.2.2.2 72) k.toInt := by rw [if_pos (by omega), show k.toInt + 1 - 1 = k.toInt by omega]
          have j76 : ∀ (x y : Int64) (M : dm_Mem), Rm X (sB (sB (sF q 34 n) 96 b96) 97 b97) M → (x = mxJ ((q.2.2.2 71) k.toInt.toNat) f) → (y = mnJ ((q.2.2.2 72) k.toInt.toNat) t) → (rB (q.2.2.2 71) k.toInt ≤ x.toInt ∧ f.toInt ≤ x.toInt) → (y.toInt ≤ rB (q.2.2.2 72) k.toInt ∧ y.toInt ≤ t.toInt) → hG 0 cd_154 76 [(7, .long x), (6, .int k), (9, .long b), (0, .ref 68), (1, .int s), (2, .long f), (4, .long t)] [.long y] M (fun r M' => r = none ∧ ∃ (n : Int32) (b96 b97 : Nat → Int64), rowO b96 b97 n.toInt (cutL (q.2.2.2 71) (q.2.2.2 72) f t (rA (q.2.2.1 74) (s.toInt + 1)) (rA (q.2.2.1 74) (s.toInt + 1) - rA (q.2.2.1 74) s.toInt).toNat (rA (q.2.2.1 74) s.toInt) []) ∧ oS b96 b97 n.toInt ∧ 0 ≤ n.toInt ∧ n.toInt ≤ rA (q.2.2.1 74) (s.toInt + 1) - rA (q.2.2.1 74) s.toInt ∧ Rm X (sB (sB (sF q 34 n) 96 b96) 97 b97) M') := by
            intro x y M hM hA hB hA2 hB2
            refine hs (f := dm_lst 78 9) (lv' := [(9, .long y), (7, .long x), (6, .int k), (0, .ref 68), (1, .int s), (2, .long f), (4, .long t)]) rfl rfl ?_
            refine hs (f := dm_lld 80 7) rfl rfl ?_
            refine hs (f := dm_lld 82 9) rfl rfl ?_
            refine g_lc_lt (x := x) (y := y) (m := 83) (n := 86) (tt := 89) rfl rfl (fun h32 => ?_) (fun h32 => ?_)
            · skip
              have h32 : x.toInt < y.toInt := h32
              refine hs (f := dm_ald 90 0) rfl rfl ?_
              refine r_geta (c := 93) rfl hM rfl ?_
              refine hs (f := dm_ald 94 0) rfl rfl ?_
              refine r_geti n rfl hM rfl rfl ?_
              refine hs (f := dm_lld 99 7) rfl rfl ?_
              refine r_last (L := 24000) (i := n) (x := x) b96 rfl hM rfl (by omega) rfl (fun M33 hM33 => ?_)
              replace hM33 := rm_to (q' := (sB (sB (sF q 34 n) 96 (vp_updL b96 n.toInt.toNat x)) 97 b97)) hM33 (show sB (sB (sB (sF q 34 n) 96 b96) 97 b97) 96 (vp_updL b96 n.toInt.toNat x) = (sB (sB (sF q 34 n) 96 (vp_updL b96 n.toInt.toNat x)) 97 b97) from (show sB (sB (sB (sF q 34 n) 96 b96) 97 b97) 96 (vp_updL b96 n.toInt.toNat x) = (sB (sB (sF q 34 n) 96 (vp_updL b96 n.toInt.toNat x)) 97 b97) from Eq.trans (show sB (sB (sB (sF q 34 n) 96 b96) 97 b97) 96 (vp_updL b96 n.toInt.toNat x) = sB (sB (sB (sF q 34 n) 96 b96) 96 (vp_updL b96 n.toInt.toNat x)) 97 b97 from sB_cm (by decide)) (congrArg (fun z => sB z 97 b97) (show sB (sB (sF q 34 n) 96 b96) 96 (vp_updL b96 n.toInt.toNat x) = (sB (sF q 34 n) 96 (vp_updL b96 n.toInt.toNat x)) from sB_sB))))
              refine hs (f := dm_ald 101 0) rfl rfl ?_
              refine r_geta (c := 94) rfl hM33 rfl ?_
              refine hs (f := dm_ald 105 0) rfl rfl ?_
              refine r_geti n rfl hM33 rfl rfl ?_
              refine hs (f := dm_lld 110 9) rfl rfl ?_
              refine r_last (L := 24000) (i := n) (x := y) b97 rfl hM33 rfl (by omega) rfl (fun M34 hM34 => ?_)
              replace hM34 := rm_to (q' := (sB (sB (sF q 34 n) 96 (vp_updL b96 n.toInt.toNat x)) 97 (vp_updL b97 n.toInt.toNat y))) hM34 (show sB (sB (sB (sF q 34 n) 96 (vp_updL b96 n.toInt.toNat x)) 97 b97) 97 (vp_updL b97 n.toInt.toNat y) = (sB (sB (sF q 34 n) 96 (vp_updL b96 n.toInt.toNat x)) 97 (vp_updL b97 n.toInt.toNat y)) from (show sB (sB (sB (sF q 34 n) 96 (vp_updL b96 n.toInt.toNat x)) 97 b97) 97 (vp_updL b97 n.toInt.toNat y) = (sB (sB (sF q 34 n) 96 (vp_updL b96 n.toInt.toNat x)) 97 (vp_updL b97 n.toInt.toNat y)) from sB_sB))
              refine hs (f := dm_ald 112 0) rfl rfl ?_
              refine hs (f := dm_dup 113) (st' := [.ref 68, .ref 68]) rfl rfl ?_
              refine r_geti n rfl hM34 rfl rfl ?_
              refine hs (f := dm_push 117 (.int 1)) rfl rfl ?_
              have e35 : (n + (1 : Int32)).toInt = n.toInt + 1 := by have w := i_addc (x := n) (y := (1 : Int32)) 1 rfl (by omega) (by omega); omega
              refine hs (f := dm_ii 118 (fun x y => x + y)) (st' := [.int (n + (1 : Int32)), .ref 68]) rfl rfl ?_
              refine r_puti rfl hM34 rfl (fun M36 hM36 => ?_)
              replace hM36 := rm_to (q' := (sB (sB (sF q 34 (n + (1 : Int32))) 96 (vp_updL b96 n.toInt.toNat x)) 97 (vp_updL b97 n.toInt.toNat y))) hM36 (show sF (sB (sB (sF q 34 n) 96 (vp_updL b96 n.toInt.toNat x)) 97 (vp_updL b97 n.toInt.toNat y)) 34 (n + (1 : Int32)) = (sB (sB (sF q 34 (n + (1 : Int32))) 96 (vp_updL b96 n.toInt.toNat x)) 97 (vp_updL b97 n.toInt.toNat y)) from (congrArg (fun z => (sB (sB z 96 (vp_updL b96 n.toInt.toNat x)) 97 (vp_updL b97 n.toInt.toNat y))) (show sF (sF q 34 n) 34 (n + (1 : Int32)) = (sF q 34 (n + (1 : Int32))) from sF_sF)))
              have e37 : (k + 1).toInt = k.toInt + 1 := by have w := i_addc (x := k) (y := 1) 1 rfl (by omega) (by omega); omega
              refine hs (f := dm_iinc 124 6 1) (lv' := [(6, .int (k + 1)), (9, .long y), (7, .long x), (0, .ref 68), (1, .int s), (2, .long f), (4, .long t)]) rfl rfl ?_
              refine hs (f := dm_goto 13) rfl rfl ?_
              exact (IH _ (by omega)).2 (n + (1 : Int32)) (k + 1) x y (vp_updL b96 n.toInt.toNat x) (vp_updL b97 n.toInt.toNat y) _ hM36 (by omega) (by omega) (by omega) (by omega) ⟨_, (by rw [e35]; exact rowO_app hrw (Int.toNat_of_nonneg n0).symm), by have z := hl2; rw [cutL_go (by omega), ← hA, ← hB, if_pos (by omega)] at z; rw [e37]; exact z⟩ (by rw [e37]; rw [e35]; exact (cI_app hx (Int.toNat_of_nonneg n0).symm (by omega) (by omega) (by omega) (by omega) (by omega) (by omega))) rfl
            · skip
              have h32 : x.toInt ≥ y.toInt := h32
              refine hs (f := dm_goto 121) rfl rfl ?_
              have e38 : (k + 1).toInt = k.toInt + 1 := by have w := i_addc (x := k) (y := 1) 1 rfl (by omega) (by omega); omega
              refine hs (f := dm_iinc 124 6 1) (lv' := [(6, .int (k + 1)), (9, .long y), (7, .long x), (0, .ref 68), (1, .int s), (2, .long f), (4, .long t)]) rfl rfl ?_
              refine hs (f := dm_goto 13) rfl rfl ?_
              exact (IH _ (by omega)).2 n (k + 1) x y b96 b97 _ hM (by omega) (by omega) (by omega) (by omega) ⟨_, hrw, by have z := hl2; rw [cutL_go (by omega), ← hA, ← hB, if_neg (by omega)] at z; rw [e38]; exact z⟩ (by rw [e38]; exact (cI_up hx (by omega))) rfl
          have j49 : ∀ (x : Int64) (M : dm_Mem), Rm X (sB (sB (sF q 34 n) 96 b96) 97 b97) M → (x = mxJ ((q.2.2.2 71) k.toInt.toNat) f) → (rB (q.2.2.2 71) k.toInt ≤ x.toInt ∧ f.toInt ≤ x.toInt) → hG 0 cd_154 49 [(6, .int k), (9, .long b), (7, .long a), (0, .ref 68), (1, .int s), (2, .long f), (4, .long t)] [.long x] M (fun r M' => r = none ∧ ∃ (n : Int32) (b96 b97 : Nat → Int64), rowO b96 b97 n.toInt (cutL (q.2.2.2 71) (q.2.2.2 72) f t (rA (q.2.2.1 74) (s.toInt + 1)) (rA (q.2.2.1 74) (s.toInt + 1) - rA (q.2.2.1 74) s.toInt).toNat (rA (q.2.2.1 74) s.toInt) []) ∧ oS b96 b97 n.toInt ∧ 0 ≤ n.toInt ∧ n.toInt ≤ rA (q.2.2.1 74) (s.toInt + 1) - rA (q.2.2.1 74) s.toInt ∧ Rm X (sB (sB (sF q 34 n) 96 b96) 97 b97) M') := by
            intro x M hM hA hA2
            refine hs (f := dm_lst 51 7) (lv' := [(7, .long x), (6, .int k), (9, .long b), (0, .ref 68), (1, .int s), (2, .long f), (4, .long t)]) rfl rfl ?_
            refine hs (f := dm_ald 52 0) rfl rfl ?_
            refine r_geta (c := 69) rfl hM rfl ?_
            refine hs (f := dm_ild 57 6) rfl rfl ?_
            refine r_lald (L := 24000) (i := k) ((q.2.2.2 72) k.toInt.toNat) rfl hM rfl (by omega) rfl ?_
            generalize g40 : (q.2.2.2 72) k.toInt.toNat = v39
            have x41 : v39.toInt = rB (q.2.2.2 72) k.toInt := rB_of (i := k) g40 rfl
            refine hs (f := dm_lld 60 4) rfl rfl ?_
            refine g_lc_le (x := v39) (y := t) (m := 61) (n := 64) (tt := 69) rfl rfl (fun h42 => ?_) (fun h42 => ?_)
            · skip
              have h42 : v39.toInt ≤ t.toInt := h42
              refine hs (f := dm_ald 70 0) rfl rfl ?_
              refine r_geta (c := 69) rfl hM rfl ?_
              refine hs (f := dm_ild 75 6) rfl rfl ?_
              refine r_lald (L := 24000) (i := k) ((q.2.2.2 72) k.toInt.toNat) rfl hM rfl (by omega) rfl ?_
              generalize g44 : (q.2.2.2 72) k.toInt.toNat = v43
              have x45 : v43.toInt = rB (q.2.2.2 72) k.toInt := rB_of (i := k) g44 rfl
              exact j76 x v43 _ hM hA (by rw [← g44]; unfold mnJ; exact (if_neg (show ¬ t.toInt < rB (q.2.2.2 72) k.toInt by omega)).symm) hA2 (by omega)
            · skip
              have h42 : v39.toInt > t.toInt := h42
              refine hs (f := dm_lld 66 4) rfl rfl ?_
              refine hs (f := dm_goto 76) rfl rfl ?_
              exact j76 x t _ hM hA (by unfold mnJ; exact (if_pos (show t.toInt < rB (q.2.2.2 72) k.toInt by omega)).symm) hA2 (by omega)
          refine hs (f := dm_ald 27 0) rfl rfl ?_
          refine r_geta (c := 68) rfl hM rfl ?_
          refine hs (f := dm_ild 32 6) rfl rfl ?_
          refine r_lald (L := 24000) (i := k) ((q.2.2.2 71) k.toInt.toNat) rfl hM rfl (by omega) rfl ?_
          generalize g47 : (q.2.2.2 71) k.toInt.toNat = v46
          have x48 : v46.toInt = rB (q.2.2.2 71) k.toInt := rB_of (i := k) g47 rfl
          refine hs (f := dm_lld 34 2) rfl rfl ?_
          refine g_lc_ge (x := v46) (y := f) (m := 35) (n := 38) (tt := 42) rfl rfl (fun h49 => ?_) (fun h49 => ?_)
          · skip
            have h49 : v46.toInt ≥ f.toInt := h49
            refine hs (f := dm_ald 43 0) rfl rfl ?_
            refine r_geta (c := 68) rfl hM rfl ?_
            refine hs (f := dm_ild 48 6) rfl rfl ?_
            refine r_lald (L := 24000) (i := k) ((q.2.2.2 71) k.toInt.toNat) rfl hM rfl (by omega) rfl ?_
            generalize g51 : (q.2.2.2 71) k.toInt.toNat = v50
            have x52 : v50.toInt = rB (q.2.2.2 71) k.toInt := rB_of (i := k) g51 rfl
            exact j49 v50 _ hM (by rw [← g51]; unfold mxJ; exact (if_neg (show ¬ rB (q.2.2.2 71) k.toInt < f.toInt by omega)).symm) (by omega)
          · skip
            have h49 : v46.toInt < f.toInt := h49
            refine hs (f := dm_lld 39 2) rfl rfl ?_
            refine hs (f := dm_goto 49) rfl rfl ?_
            exact j49 f _ hM (by unfold mxJ; exact (if_pos (show rB (q.2.2.2 71) k.toInt < f.toInt by omega)).symm) (by omega)
  refine hx (t := cd_154) rfl (Nat.le_of_ble_eq_true rfl) (lv := [(0, .ref 68), (1, .int s), (2, .long f), (4, .long t)]) rfl ?_
  refine hs (f := dm_ald 1 0) rfl rfl ?_
  refine hs (f := dm_push 2 (.int 0)) rfl rfl ?_
  refine r_puti rfl hM rfl (fun M53 hM53 => ?_)
  replace hM53 := rm_to (q' := (sF q 34 (0 : Int32))) hM53 (show sF q 34 (0 : Int32) = (sF q 34 (0 : Int32)) from (show sF q 34 (0 : Int32) = (sF q 34 (0 : Int32)) from rfl))
  refine hs (f := dm_ald 6 0) rfl rfl ?_
  refine r_geta (c := 71) rfl hM53 rfl ?_
  refine hs (f := dm_ild 10 1) rfl rfl ?_
  refine r_iald (L := 1001) (i := s) ((q.2.2.1 74) s.toInt.toNat) rfl hM53 rfl (by omega) rfl ?_
  generalize g55 : (q.2.2.1 74) s.toInt.toNat = v54
  have x56 : v54.toInt = rA (q.2.2.1 74) s.toInt := rA_of (i := s) g55 rfl
  refine hs (f := dm_ist 13 6) (lv' := [(6, .int v54), (0, .ref 68), (1, .int s), (2, .long f), (4, .long t)]) rfl rfl ?_
  replace hM53 := rm_to (q' := (sB (sF q 34 (0 : Int32)) 96 (q.2.2.2 96))) hM53 (Eq.trans (sB_id (q := (sF q 34 (0 : Int32))) (k := 96) (v := (q.2.2.2 96)) rfl) (show sB (sF q 34 (0 : Int32)) 96 (q.2.2.2 96) = (sB (sF q 34 (0 : Int32)) 96 (q.2.2.2 96)) from (show sB (sF q 34 (0 : Int32)) 96 (q.2.2.2 96) = (sB (sF q 34 (0 : Int32)) 96 (q.2.2.2 96)) from rfl)))
  replace hM53 := rm_to (q' := (sB (sB (sF q 34 (0 : Int32)) 96 (q.2.2.2 96)) 97 (q.2.2.2 97))) hM53 (Eq.trans (sB_id (q := (sB (sF q 34 (0 : Int32)) 96 (q.2.2.2 96))) (k := 97) (v := (q.2.2.2 97)) rfl) (show sB (sB (sF q 34 (0 : Int32)) 96 (q.2.2.2 96)) 97 (q.2.2.2 97) = (sB (sB (sF q 34 (0 : Int32)) 96 (q.2.2.2 96)) 97 (q.2.2.2 97)) from (show sB (sB (sF q 34 (0 : Int32)) 96 (q.2.2.2 96)) 97 (q.2.2.2 97) = (sB (sB (sF q 34 (0 : Int32)) 96 (q.2.2.2 96)) 97 (q.2.2.2 97)) from rfl)))
  exact (j13 _).1 (0 : Int32) v54 0 0 (q.2.2.2 96) (q.2.2.2 97) _ hM53 (by omega) (by omega) (by show (0 : Int) ≤ 0; decide) (by show (0 : Int) ≤ _; omega) ⟨[], rowO_nil, by rw [x56]⟩ (cI_nil) rfl
