/-! heights and shares of two stamps -/
theorem oS_app {a b : Nat → Int64} {n : Int} {x y : Int64} {m : Nat} (h : oS a b n) (hm : n = m) (hl : 0 < n → rB b (n - 1) ≤ x.toInt) (h0 : 0 ≤ x.toInt) (h2 : x.toInt < y.toInt) (h3 : y.toInt ≤ 1152921504606846976) : oS (vp_updL a m x) (vp_updL b m y) (n + 1) := by
  have hc : cI a b n x.toInt := ⟨h, fun i i0 i1 => by
    have z := oS_mb h i0 (show i ≤ n - 1 by omega) (by omega)
    have z2 := hl (by omega)
    omega⟩
  exact (cI_app (P' := y.toInt) hc hm (Int.le_refl _) h0 h2 h3 (Int.le_refl _) (by omega)).1
theorem oS_ext {a b : Nat → Int64} {n : Int} {y : Int64} {m : Nat} (h : oS a b n) (hn : 0 < n) (hm : n - 1 = m) (hy : rB b (n - 1) ≤ y.toInt) (h3 : y.toInt ≤ 1152921504606846976) : oS a (vp_updL b m y) n := by
  refine ⟨fun i i0 i1 => ?_, fun i i0 i1 => ?_⟩
  · rw [rB_upd i0]
    by_cases e : i = m
    · rw [if_pos e]
      have z := h.1 i i0 i1
      rw [show i = n - 1 by omega] at z ⊢
      omega
    · rw [if_neg e]
      exact h.1 i i0 i1
  · rw [rB_upd i0, if_neg (by omega)]
    exact h.2 i i0 i1
set_option maxHeartbeats 8000000 in
theorem r_163b {X : dm_Mem} {q : rS} {M : dm_Mem} (hM : Rm X q M) (a b : Int32) (a0 : 0 ≤ a.toInt ∧ a.toInt < 1000) (b0 : 0 ≤ b.toInt ∧ b.toInt < 1000) (h0a : 0 ≤ rA (q.2.2.1 73) a.toInt) (h1a : rA (q.2.2.1 73) a.toInt < rA (q.2.2.1 73) (a.toInt + 1)) (h2a : rA (q.2.2.1 73) (a.toInt + 1) ≤ 24000) (h0b : 0 ≤ rA (q.2.2.1 73) b.toInt) (h1b : rA (q.2.2.1 73) b.toInt < rA (q.2.2.1 73) (b.toInt + 1)) (h2b : rA (q.2.2.1 73) (b.toInt + 1) ≤ 24000) (hwa : wS (seg (q.2.2.2 69) (rA (q.2.2.1 73) a.toInt)) (rA (q.2.2.1 73) (a.toInt + 1) - rA (q.2.2.1 73) a.toInt)) (hwb : wS (seg (q.2.2.2 69) (rA (q.2.2.1 73) b.toInt)) (rA (q.2.2.1 73) (b.toInt + 1) - rA (q.2.2.1 73) b.toInt)) (hlen : (rA (q.2.2.1 73) (a.toInt + 1) - rA (q.2.2.1 73) a.toInt) + (rA (q.2.2.1 73) (b.toInt + 1) - rA (q.2.2.1 73) b.toInt) ≤ 22000 ∨ a = b) : hT 2 163 [.ref 68, .int a, .int b] M (fun r M' => r = none ∧ ∃ (n : Int32) (b92 b94 : Nat → Int64) (b93 b95 : Nat → Int32), wS b92 n.toInt ∧ n.toInt ≤ 24000 ∧ rowL b92 b93 n.toInt (tgL (q.2.2.2 69) (q.2.2.1 70) (rA (q.2.2.1 73) (a.toInt + 1)) (rA (q.2.2.1 73) (b.toInt + 1)) ((rA (q.2.2.1 73) (a.toInt + 1) - rA (q.2.2.1 73) a.toInt).toNat + (rA (q.2.2.1 73) (b.toInt + 1) - rA (q.2.2.1 73) b.toInt).toNat) (rA (q.2.2.1 73) a.toInt) (rA (q.2.2.1 73) b.toInt) 0 []) ∧ (∀ (i : Nat) (g : Int), dy i g → flat (seg (q.2.2.2 69) (rA (q.2.2.1 73) a.toInt)) (rA (q.2.2.1 73) (a.toInt + 1) - rA (q.2.2.1 73) a.toInt) g (2 ^ i) → flat (seg (q.2.2.2 69) (rA (q.2.2.1 73) b.toInt)) (rA (q.2.2.1 73) (b.toInt + 1) - rA (q.2.2.1 73) b.toInt) g (2 ^ i) → flat b92 n.toInt g (2 ^ i)) ∧ Rm X (sA (sA (sB (sB (sF q 29 n) 92 b92) 94 b94) 93 b93) 95 b95) M') := by
  have j21 : ∀ (nn : Nat), (∀ (n i j : Int32) (p e8 e10 : Int64) (b94 : Nat → Int64) (b95 : Nat → Int32) (M : dm_Mem), Rm X (sA (sB q 94 b94) 95 b95) M → (rA (q.2.2.1 73) a.toInt ≤ i.toInt) → (i.toInt ≤ rA (q.2.2.1 73) (a.toInt + 1)) → (rA (q.2.2.1 73) b.toInt ≤ j.toInt) → (j.toInt ≤ rA (q.2.2.1 73) (b.toInt + 1)) → (0 ≤ p.toInt ∧ p.toInt ≤ 1152921504606846976) → (p.toInt < 1152921504606846976 → i.toInt < rA (q.2.2.1 73) (a.toInt + 1) ∧ rB (q.2.2.2 69) i.toInt ≤ p.toInt ∧ p.toInt < (eF (q.2.2.2 69) i.toInt (rA (q.2.2.1 73) (a.toInt + 1))).toInt) → (p.toInt < 1152921504606846976 → j.toInt < rA (q.2.2.1 73) (b.toInt + 1) ∧ rB (q.2.2.2 69) j.toInt ≤ p.toInt ∧ p.toInt < (eF (q.2.2.2 69) j.toInt (rA (q.2.2.1 73) (b.toInt + 1))).toInt) → (p.toInt < 1152921504606846976 → (p.toInt = 0 ∨ (∃ k, rA (q.2.2.1 73) a.toInt ≤ k ∧ k < rA (q.2.2.1 73) (a.toInt + 1) ∧ p.toInt = rB (q.2.2.2 69) k) ∨ ∃ k, rA (q.2.2.1 73) b.toInt ≤ k ∧ k < rA (q.2.2.1 73) (b.toInt + 1) ∧ p.toInt = rB (q.2.2.2 69) k)) → (0 ≤ n.toInt ∧ n.toInt ≤ (i.toInt - rA (q.2.2.1 73) a.toInt) + (j.toInt - rA (q.2.2.1 73) b.toInt)) → (1 ≤ n.toInt ∨ p.toInt = 0) → (∃ l d, rowL b94 b95 n.toInt l ∧ (rA (q.2.2.1 73) (a.toInt + 1) - i.toInt).toNat + (rA (q.2.2.1 73) (b.toInt + 1) - j.toInt).toNat ≤ d ∧ tgL (q.2.2.2 69) (q.2.2.1 70) (rA (q.2.2.1 73) (a.toInt + 1)) (rA (q.2.2.1 73) (b.toInt + 1)) d i.toInt j.toInt p l = (tgL (q.2.2.2 69) (q.2.2.1 70) (rA (q.2.2.1 73) (a.toInt + 1)) (rA (q.2.2.1 73) (b.toInt + 1)) ((rA (q.2.2.1 73) (a.toInt + 1) - rA (q.2.2.1 73) a.toInt).toNat + (rA (q.2.2.1 73) (b.toInt + 1) - rA (q.2.2.1 73) b.toInt).toNat) (rA (q.2.2.1 73) a.toInt) (rA (q.2.2.1 73) b.toInt) 0 [])) → (tI (q.2.2.2 69) (rA (q.2.2.1 73) a.toInt) (rA (q.2.2.1 73) (a.toInt + 1)) (rA (q.2.2.1 73) b.toInt) (rA (q.2.2.1 73) (b.toInt + 1)) b94 n.toInt p.toInt) → (a = b → i.toInt = j.toInt ∧ n.toInt ≤ i.toInt - rA (q.2.2.1 73) a.toInt) → ((rA (q.2.2.1 73) (a.toInt + 1) - i.toInt).toNat + (rA (q.2.2.1 73) (b.toInt + 1) - j.toInt).toNat) = nn → hG 1 cd_163 21 [(6, .long p), (5, .int j), (4, .int i), (3, .int n), (0, .ref 68), (1, .int a), (2, .int b)] [] M (fun r M' => r = none ∧ ∃ (n : Int32) (b92 b94 : Nat → Int64) (b93 b95 : Nat → Int32), wS b92 n.toInt ∧ n.toInt ≤ 24000 ∧ rowL b92 b93 n.toInt (tgL (q.2.2.2 69) (q.2.2.1 70) (rA (q.2.2.1 73) (a.toInt + 1)) (rA (q.2.2.1 73) (b.toInt + 1)) ((rA (q.2.2.1 73) (a.toInt + 1) - rA (q.2.2.1 73) a.toInt).toNat + (rA (q.2.2.1 73) (b.toInt + 1) - rA (q.2.2.1 73) b.toInt).toNat) (rA (q.2.2.1 73) a.toInt) (rA (q.2.2.1 73) b.toInt) 0 []) ∧ (∀ (i : Nat) (g : Int), dy i g → flat (seg (q.2.2.2 69) (rA (q.2.2.1 73) a.toInt)) (rA (q.2.2.1 73) (a.toInt + 1) - rA (q.2.2.1 73) a.toInt) g (2 ^ i) → flat (seg (q.2.2.2 69) (rA (q.2.2.1 73) b.toInt)) (rA (q.2.2.1 73) (b.toInt + 1) - rA (q.2.2.1 73) b.toInt) g (2 ^ i) → flat b92 n.toInt g (2 ^ i)) ∧ Rm X (sA (sA (sB (sB (sF q 29 n) 92 b92) 94 b94) 93 b93) 95 b95) M')) ∧ (∀ (n i j : Int32) (p e8 e10 : Int64) (b94 : Nat → Int64) (b95 : Nat → Int32) (M : dm_Mem), Rm X (sA (sB q 94 b94) 95 b95) M → (rA (q.2.2.1 73) a.toInt ≤ i.toInt) → (i.toInt ≤ rA (q.2.2.1 73) (a.toInt + 1)) → (rA (q.2.2.1 73) b.toInt ≤ j.toInt) → (j.toInt ≤ rA (q.2.2.1 73) (b.toInt + 1)) → (0 ≤ p.toInt ∧ p.toInt ≤ 1152921504606846976) → (p.toInt < 1152921504606846976 → i.toInt < rA (q.2.2.1 73) (a.toInt + 1) ∧ rB (q.2.2.2 69) i.toInt ≤ p.toInt ∧ p.toInt < (eF (q.2.2.2 69) i.toInt (rA (q.2.2.1 73) (a.toInt + 1))).toInt) → (p.toInt < 1152921504606846976 → j.toInt < rA (q.2.2.1 73) (b.toInt + 1) ∧ rB (q.2.2.2 69) j.toInt ≤ p.toInt ∧ p.toInt < (eF (q.2.2.2 69) j.toInt (rA (q.2.2.1 73) (b.toInt + 1))).toInt) → (p.toInt < 1152921504606846976 → (p.toInt = 0 ∨ (∃ k, rA (q.2.2.1 73) a.toInt ≤ k ∧ k < rA (q.2.2.1 73) (a.toInt + 1) ∧ p.toInt = rB (q.2.2.2 69) k) ∨ ∃ k, rA (q.2.2.1 73) b.toInt ≤ k ∧ k < rA (q.2.2.1 73) (b.toInt + 1) ∧ p.toInt = rB (q.2.2.2 69) k)) → (0 ≤ n.toInt ∧ n.toInt ≤ (i.toInt - rA (q.2.2.1 73) a.toInt) + (j.toInt - rA (q.2.2.1 73) b.toInt)) → (1 ≤ n.toInt ∨ p.toInt = 0) → (∃ l d, rowL b94 b95 n.toInt l ∧ (rA (q.2.2.1 73) (a.toInt + 1) - i.toInt).toNat + (rA (q.2.2.1 73) (b.toInt + 1) - j.toInt).toNat ≤ d ∧ tgL (q.2.2.2 69) (q.2.2.1 70) (rA (q.2.2.1 73) (a.toInt + 1)) (rA (q.2.2.1 73) (b.toInt + 1)) d i.toInt j.toInt p l = (tgL (q.2.2.2 69) (q.2.2.1 70) (rA (q.2.2.1 73) (a.toInt + 1)) (rA (q.2.2.1 73) (b.toInt + 1)) ((rA (q.2.2.1 73) (a.toInt + 1) - rA (q.2.2.1 73) a.toInt).toNat + (rA (q.2.2.1 73) (b.toInt + 1) - rA (q.2.2.1 73) b.toInt).toNat) (rA (q.2.2.1 73) a.toInt) (rA (q.2.2.1 73) b.toInt) 0 [])) → (tI (q.2.2.2 69) (rA (q.2.2.1 73) a.toInt) (rA (q.2.2.1 73) (a.toInt + 1)) (rA (q.2.2.1 73) b.toInt) (rA (q.2.2.1 73) (b.toInt + 1)) b94 n.toInt p.toInt) → (a = b → i.toInt = j.toInt ∧ n.toInt ≤ i.toInt - rA (q.2.2.1 73) a.toInt) → ((rA (q.2.2.1 73) (a.toInt + 1) - i.toInt).toNat + (rA (q.2.2.1 73) (b.toInt + 1) - j.toInt).toNat) = nn → hG 1 cd_163 21 [(4, .int i), (6, .long p), (10, .long e10), (8, .long e8), (3, .int n), (5, .int j), (0, .ref 68), (1, .int a), (2, .int b)] [] M (fun r M' => r = none ∧ ∃ (n : Int32) (b92 b94 : Nat → Int64) (b93 b95 : Nat → Int32), wS b92 n.toInt ∧ n.toInt ≤ 24000 ∧ rowL b92 b93 n.toInt (tgL (q.2.2.2 69) (q.2.2.1 70) (rA (q.2.2.1 73) (a.toInt + 1)) (rA (q.2.2.1 73) (b.toInt + 1)) ((rA (q.2.2.1 73) (a.toInt + 1) - rA (q.2.2.1 73) a.toInt).toNat + (rA (q.2.2.1 73) (b.toInt + 1) - rA (q.2.2.1 73) b.toInt).toNat) (rA (q.2.2.1 73) a.toInt) (rA (q.2.2.1 73) b.toInt) 0 []) ∧ (∀ (i : Nat) (g : Int), dy i g → flat (seg (q.2.2.2 69) (rA (q.2.2.1 73) a.toInt)) (rA (q.2.2.1 73) (a.toInt + 1) - rA (q.2.2.1 73) a.toInt) g (2 ^ i) → flat (seg (q.2.2.2 69) (rA (q.2.2.1 73) b.toInt)) (rA (q.2.2.1 73) (b.toInt + 1) - rA (q.2.2.1 73) b.toInt) g (2 ^ i) → flat b92 n.toInt g (2 ^ i)) ∧ Rm X (sA (sA (sB (sB (sF q 29 n) 92 b92) 94 b94) 93 b93) 95 b95) M')) ∧ (∀ (n i j : Int32) (p e8 e10 : Int64) (b94 : Nat → Int64) (b95 : Nat → Int32) (M : dm_Mem), Rm X (sA (sB q 94 b94) 95 b95) M → (rA (q.2.2.1 73) a.toInt ≤ i.toInt) → (i.toInt ≤ rA (q.2.2.1 73) (a.toInt + 1)) → (rA (q.2.2.1 73) b.toInt ≤ j.toInt) → (j.toInt ≤ rA (q.2.2.1 73) (b.toInt + 1)) → (0 ≤ p.toInt ∧ p.toInt ≤ 1152921504606846976) → (p.toInt < 1152921504606846976 → i.toInt < rA (q.2.2.1 73) (a.toInt + 1) ∧ rB (q.2.2.2 69) i.toInt ≤ p.toInt ∧ p.toInt < (eF (q.2.2.2 69) i.toInt (rA (q.2.2.1 73) (a.toInt + 1))).toInt) → (p.toInt < 1152921504606846976 → j.toInt < rA (q.2.2.1 73) (b.toInt + 1) ∧ rB (q.2.2.2 69) j.toInt ≤ p.toInt ∧ p.toInt < (eF (q.2.2.2 69) j.toInt (rA (q.2.2.1 73) (b.toInt + 1))).toInt) → (p.toInt < 1152921504606846976 → (p.toInt = 0 ∨ (∃ k, rA (q.2.2.1 73) a.toInt ≤ k ∧ k < rA (q.2.2.1 73) (a.toInt + 1) ∧ p.toInt = rB (q.2.2.2 69) k) ∨ ∃ k, rA (q.2.2.1 73) b.toInt ≤ k ∧ k < rA (q.2.2.1 73) (b.toInt + 1) ∧ p.toInt = rB (q.2.2.2 69) k)) → (0 ≤ n.toInt ∧ n.toInt ≤ (i.toInt - rA (q.2.2.1 73) a.toInt) + (j.toInt - rA (q.2.2.1 73) b.toInt)) → (1 ≤ n.toInt ∨ p.toInt = 0) → (∃ l d, rowL b94 b95 n.toInt l ∧ (rA (q.2.2.1 73) (a.toInt + 1) - i.toInt).toNat + (rA (q.2.2.1 73) (b.toInt + 1) - j.toInt).toNat ≤ d ∧ tgL (q.2.2.2 69) (q.2.2.1 70) (rA (q.2.2.1 73) (a.toInt + 1)) (rA (q.2.2.1 73) (b.toInt + 1)) d i.toInt j.toInt p l = (tgL (q.2.2.2 69) (q.2.2.1 70) (rA (q.2.2.1 73) (a.toInt + 1)) (rA (q.2.2.1 73) (b.toInt + 1)) ((rA (q.2.2.1 73) (a.toInt + 1) - rA (q.2.2.1 73) a.toInt).toNat + (rA (q.2.2.1 73) (b.toInt + 1) - rA (q.2.2.1 73) b.toInt).toNat) (rA (q.2.2.1 73) a.toInt) (rA (q.2.2.1 73) b.toInt) 0 [])) → (tI (q.2.2.2 69) (rA (q.2.2.1 73) a.toInt) (rA (q.2.2.1 73) (a.toInt + 1)) (rA (q.2.2.1 73) b.toInt) (rA (q.2.2.1 73) (b.toInt + 1)) b94 n.toInt p.toInt) → (a = b → i.toInt = j.toInt ∧ n.toInt ≤ i.toInt - rA (q.2.2.1 73) a.toInt) → ((rA (q.2.2.1 73) (a.toInt + 1) - i.toInt).toNat + (rA (q.2.2.1 73) (b.toInt + 1) - j.toInt).toNat) = nn → hG 1 cd_163 21 [(5, .int j), (6, .long p), (10, .long e10), (8, .long e8), (3, .int n), (4, .int i), (0, .ref 68), (1, .int a), (2, .int b)] [] M (fun r M' => r = none ∧ ∃ (n : Int32) (b92 b94 : Nat → Int64) (b93 b95 : Nat → Int32), wS b92 n.toInt ∧ n.toInt ≤ 24000 ∧ rowL b92 b93 n.toInt (tgL (q.2.2.2 69) (q.2.2.1 70) (rA (q.2.2.1 73) (a.toInt + 1)) (rA (q.2.2.1 73) (b.toInt + 1)) ((rA (q.2.2.1 73) (a.toInt + 1) - rA (q.2.2.1 73) a.toInt).toNat + (rA (q.2.2.1 73) (b.toInt + 1) - rA (q.2.2.1 73) b.toInt).toNat) (rA (q.2.2.1 73) a.toInt) (rA (q.2.2.1 73) b.toInt) 0 []) ∧ (∀ (i : Nat) (g : Int), dy i g → flat (seg (q.2.2.2 69) (rA (q.2.2.1 73) a.toInt)) (rA (q.2.2.1 73) (a.toInt + 1) - rA (q.2.2.1 73) a.toInt) g (2 ^ i) → flat (seg (q.2.2.2 69) (rA (q.2.2.1 73) b.toInt)) (rA (q.2.2.1 73) (b.toInt + 1) - rA (q.2.2.1 73) b.toInt) g (2 ^ i) → flat b92 n.toInt g (2 ^ i)) ∧ Rm X (sA (sA (sB (sB (sF q 29 n) 92 b92) 94 b94) 93 b93) 95 b95) M')) ∧ (∀ (n i j : Int32) (p e8 e10 : Int64) (b94 : Nat → Int64) (b95 : Nat → Int32) (M : dm_Mem), Rm X (sA (sB q 94 b94) 95 b95) M → (rA (q.2.2.1 73) a.toInt ≤ i.toInt) → (i.toInt ≤ rA (q.2.2.1 73) (a.toInt + 1)) → (rA (q.2.2.1 73) b.toInt ≤ j.toInt) → (j.toInt ≤ rA (q.2.2.1 73) (b.toInt + 1)) → (0 ≤ p.toInt ∧ p.toInt ≤ 1152921504606846976) → (p.toInt < 1152921504606846976 → i.toInt < rA (q.2.2.1 73) (a.toInt + 1) ∧ rB (q.2.2.2 69) i.toInt ≤ p.toInt ∧ p.toInt < (eF (q.2.2.2 69) i.toInt (rA (q.2.2.1 73) (a.toInt + 1))).toInt) → (p.toInt < 1152921504606846976 → j.toInt < rA (q.2.2.1 73) (b.toInt + 1) ∧ rB (q.2.2.2 69) j.toInt ≤ p.toInt ∧ p.toInt < (eF (q.2.2.2 69) j.toInt (rA (q.2.2.1 73) (b.toInt + 1))).toInt) → (p.toInt < 1152921504606846976 → (p.toInt = 0 ∨ (∃ k, rA (q.2.2.1 73) a.toInt ≤ k ∧ k < rA (q.2.2.1 73) (a.toInt + 1) ∧ p.toInt = rB (q.2.2.2 69) k) ∨ ∃ k, rA (q.2.2.1 73) b.toInt ≤ k ∧ k < rA (q.2.2.1 73) (b.toInt + 1) ∧ p.toInt = rB (q.2.2.2 69) k)) → (0 ≤ n.toInt ∧ n.toInt ≤ (i.toInt - rA (q.2.2.1 73) a.toInt) + (j.toInt - rA (q.2.2.1 73) b.toInt)) → (1 ≤ n.toInt ∨ p.toInt = 0) → (∃ l d, rowL b94 b95 n.toInt l ∧ (rA (q.2.2.1 73) (a.toInt + 1) - i.toInt).toNat + (rA (q.2.2.1 73) (b.toInt + 1) - j.toInt).toNat ≤ d ∧ tgL (q.2.2.2 69) (q.2.2.1 70) (rA (q.2.2.1 73) (a.toInt + 1)) (rA (q.2.2.1 73) (b.toInt + 1)) d i.toInt j.toInt p l = (tgL (q.2.2.2 69) (q.2.2.1 70) (rA (q.2.2.1 73) (a.toInt + 1)) (rA (q.2.2.1 73) (b.toInt + 1)) ((rA (q.2.2.1 73) (a.toInt + 1) - rA (q.2.2.1 73) a.toInt).toNat + (rA (q.2.2.1 73) (b.toInt + 1) - rA (q.2.2.1 73) b.toInt).toNat) (rA (q.2.2.1 73) a.toInt) (rA (q.2.2.1 73) b.toInt) 0 [])) → (tI (q.2.2.2 69) (rA (q.2.2.1 73) a.toInt) (rA (q.2.2.1 73) (a.toInt + 1)) (rA (q.2.2.1 73) b.toInt) (rA (q.2.2.1 73) (b.toInt + 1)) b94 n.toInt p.toInt) → (a = b → i.toInt = j.toInt ∧ n.toInt ≤ i.toInt - rA (q.2.2.1 73) a.toInt) → ((rA (q.2.2.1 73) (a.toInt + 1) - i.toInt).toNat + (rA (q.2.2.1 73) (b.toInt + 1) - j.toInt).toNat) = nn → hG 1 cd_163 21 [(5, .int j), (4, .int i), (6, .long p), (10, .long e10), (8, .long e8), (3, .int n), (0, .ref 68), (1, .int a), (2, .int b)] [] M (fun r M' => r = none ∧ ∃ (n : Int32) (b92 b94 : Nat → Int64) (b93 b95 : Nat → Int32), wS b92 n.toInt ∧ n.toInt ≤ 24000 ∧ rowL b92 b93 n.toInt (tgL (q.2.2.2 69) (q.2.2.1 70) (rA (q.2.2.1 73) (a.toInt + 1)) (rA (q.2.2.1 73) (b.toInt + 1)) ((rA (q.2.2.1 73) (a.toInt + 1) - rA (q.2.2.1 73) a.toInt).toNat + (rA (q.2.2.1 73) (b.toInt + 1) - rA (q.2.2.1 73) b.toInt).toNat) (rA (q.2.2.1 73) a.toInt) (rA (q.2.2.1 73) b.toInt) 0 []) ∧ (∀ (i : Nat) (g : Int), dy i g → flat (seg (q.2.2.2 69) (rA (q.2.2.1 73) a.toInt)) (rA (q.2.2.1 73) (a.toInt + 1) - rA (q.2.2.1 73) a.toInt) g (2 ^ i) → flat (seg (q.2.2.2 69) (rA (q.2.2.1 73) b.toInt)) (rA (q.2.2.1 73) (b.toInt + 1) - rA (q.2.2.1 73) b.toInt) g (2 ^ i) → flat b92 n.toInt g (2 ^ i)) ∧ Rm X (sA (sA (sB (sB (sF q 29 n) 92 b92) 94 b94) 93 b93) 95 b95) M')) := by
    intro nn
    induction nn using Nat.strongRecOn with
    | ind nn IH =>
      refine ⟨?_, ?_, ?_, ?_⟩
      · skip
        intro n i j p e8 e10 b94 b95 M hM i0 i1 j0 j1 p0 hpi hpj hpa n0 n1 hl hx nab hms
        refine hs (f := dm_lld 23 6) rfl rfl ?_
        refine hs (f := dm_push 26 (.long 1152921504606846976)) rfl rfl ?_
        refine g_lc_ge (x := p) (y := (1152921504606846976 : Int64)) (m := 27) (n := 30) (tt := 178) rfl rfl (fun h1 => ?_) (fun h1 => ?_)
        · skip
          have h1 : p.toInt ≥ 1152921504606846976 := h1
          refine hs (f := dm_ald 179 0) rfl rfl ?_
          refine hs (f := dm_ild 180 3) rfl rfl ?_
          obtain ⟨l, d9, hrw, hd9, hl2⟩ := hl
          rw [tg_end (by omega)] at hl2
          rw [hl2] at hrw
          refine r_inv rfl hM rfl (as := [.ref 68, .int n]) rfl (Nat.le_of_ble_eq_true rfl) (hT_mono (by decide) (r_149 hM n (by omega) (by rcases hlen with zz | zz <;> first | omega | (have zn := nab zz; omega))) (fun r1 M2 w => ?_))
          obtain ⟨rfl, b1, b2, hb, hM2⟩ := w
          replace hM2 := rm_to (q' := (sA (sA (sB (sB (sF q 29 n) 92 b1) 94 b94) 93 b2) 95 b95)) hM2 (Eq.trans (congrArg (fun z => sA z 93 b2) (Eq.trans (congrArg (fun z => sB z 92 b1) (show sF (sA (sB q 94 b94) 95 b95) 29 n = (sA (sB (sF q 29 n) 94 b94) 95 b95) from (congrArg (fun z => (sA (sB z 94 b94) 95 b95)) (show sF q 29 n = (sF q 29 n) from rfl)))) (show sB (sA (sB (sF q 29 n) 94 b94) 95 b95) 92 b1 = (sA (sB (sB (sF q 29 n) 92 b1) 94 b94) 95 b95) from (congrArg (fun z => (sA z 95 b95)) (show sB (sB (sF q 29 n) 94 b94) 92 b1 = (sB (sB (sF q 29 n) 92 b1) 94 b94) from Eq.trans (show sB (sB (sF q 29 n) 94 b94) 92 b1 = sB (sB (sF q 29 n) 92 b1) 94 b94 from sB_cm (by decide)) (congrArg (fun z => sB z 94 b94) (show sB (sF q 29 n) 92 b1 = (sB (sF q 29 n) 92 b1) from rfl))))))) (show sA (sA (sB (sB (sF q 29 n) 92 b1) 94 b94) 95 b95) 93 b2 = (sA (sA (sB (sB (sF q 29 n) 92 b1) 94 b94) 93 b2) 95 b95) from (show sA (sA (sB (sB (sF q 29 n) 92 b1) 94 b94) 95 b95) 93 b2 = (sA (sA (sB (sB (sF q 29 n) 92 b1) 94 b94) 93 b2) 95 b95) from Eq.trans (show sA (sA (sB (sB (sF q 29 n) 92 b1) 94 b94) 95 b95) 93 b2 = sA (sA (sB (sB (sF q 29 n) 92 b1) 94 b94) 93 b2) 95 b95 from sA_cm (by decide)) (congrArg (fun z => sA z 95 b95) (show sA (sB (sB (sF q 29 n) 92 b1) 94 b94) 93 b2 = (sA (sB (sB (sF q 29 n) 92 b1) 94 b94) 93 b2) from rfl)))))
          exact hr (f := dm_vret) rfl rfl (⟨rfl, n, b1, b94, b2, b95, tI_wS (tI_up hx (by omega)) (by omega) (fun i i0 i1 => (hb i i0 i1).1), (by rcases hlen with zz | zz <;> first | omega | (have zn := nab zz; omega)), ⟨hrw.1, fun k z hk => by
                have hk2 := (List.getElem?_eq_some_iff.mp hk).1
                have hk3 := hrw.1
                have hb2 := hb k (by omega) (by omega)
                have hb3 := hrw.2 k z hk
                exact ⟨hb2.1.trans hb3.1, hb2.2.trans hb3.2⟩⟩, tI_flat (tI_up hx (by omega)) (fun i i0 i1 => (hb i i0 i1).1), hM2⟩)
        · skip
          have h1 : p.toInt < 1152921504606846976 := h1
          obtain ⟨i2, i3, i4⟩ := hpi (by omega)
          obtain ⟨j2, j3, j4⟩ := hpj (by omega)
          have hpa := hpa (by omega)
          obtain ⟨l, d9, hrw, hd9, hl2⟩ := hl
          obtain ⟨dd, rfl⟩ : ∃ dd, d9 = dd + 1 := ⟨d9 - 1, by omega⟩
          rw [tg_go (by omega)] at hl2
          have ega := eF_gt hwa i0 i2
          have egb := eF_gt hwb j0 j2
          have j151 : ∀ (m : Int32) (c94 : Nat → Int64) (c95 : Nat → Int32) (ei ej p2 : Int64) (M : dm_Mem), Rm X (sA (sB q 94 c94) 95 c95) M → (1 ≤ m.toInt ∧ m.toInt ≤ (i.toInt - rA (q.2.2.1 73) a.toInt) + (j.toInt - rA (q.2.2.1 73) b.toInt) + 1 ∧ (a = b → m.toInt ≤ i.toInt - rA (q.2.2.1 73) a.toInt + 1)) → (rowL c94 c95 m.toInt (layL l p (mxF ((q.2.2.1 70) i.toInt.toNat) ((q.2.2.1 70) j.toInt.toNat)))) → (tI (q.2.2.2 69) (rA (q.2.2.1 73) a.toInt) (rA (q.2.2.1 73) (a.toInt + 1)) (rA (q.2.2.1 73) b.toInt) (rA (q.2.2.1 73) (b.toInt + 1)) c94 m.toInt (p.toInt + 1)) → (ei = eF (q.2.2.2 69) i.toInt (rA (q.2.2.1 73) (a.toInt + 1))) → (ej = eF (q.2.2.2 69) j.toInt (rA (q.2.2.1 73) (b.toInt + 1))) → (p2 = mnF (eF (q.2.2.2 69) i.toInt (rA (q.2.2.1 73) (a.toInt + 1))) (eF (q.2.2.2 69) j.toInt (rA (q.2.2.1 73) (b.toInt + 1)))) → hG 1 cd_163 151 [(10, .long ej), (8, .long ei), (3, .int m), (6, .long p), (5, .int j), (4, .int i), (0, .ref 68), (1, .int a), (2, .int b)] [.long p2] M (fun r M' => r = none ∧ ∃ (n : Int32) (b92 b94 : Nat → Int64) (b93 b95 : Nat → Int32), wS b92 n.toInt ∧ n.toInt ≤ 24000 ∧ rowL b92 b93 n.toInt (tgL (q.2.2.2 69) (q.2.2.1 70) (rA (q.2.2.1 73) (a.toInt + 1)) (rA (q.2.2.1 73) (b.toInt + 1)) ((rA (q.2.2.1 73) (a.toInt + 1) - rA (q.2.2.1 73) a.toInt).toNat + (rA (q.2.2.1 73) (b.toInt + 1) - rA (q.2.2.1 73) b.toInt).toNat) (rA (q.2.2.1 73) a.toInt) (rA (q.2.2.1 73) b.toInt) 0 []) ∧ (∀ (i : Nat) (g : Int), dy i g → flat (seg (q.2.2.2 69) (rA (q.2.2.1 73) a.toInt)) (rA (q.2.2.1 73) (a.toInt + 1) - rA (q.2.2.1 73) a.toInt) g (2 ^ i) → flat (seg (q.2.2.2 69) (rA (q.2.2.1 73) b.toInt)) (rA (q.2.2.1 73) (b.toInt + 1) - rA (q.2.2.1 73) b.toInt) g (2 ^ i) → flat b92 n.toInt g (2 ^ i)) ∧ Rm X (sA (sA (sB (sB (sF q 29 n) 92 b92) 94 b94) 93 b93) 95 b95) M') := by
            intro m c94 c95 ei ej p2 M hM m0 hr2 hx2 hei hej hp2
            have hmn := mnF_int (eF (q.2.2.2 69) i.toInt (rA (q.2.2.1 73) (a.toInt + 1))) (eF (q.2.2.2 69) j.toInt (rA (q.2.2.1 73) (b.toInt + 1)))
            rw [← hei, ← hej] at hmn
            rw [← hei] at ega i4
            rw [← hej] at egb j4
            rw [← hei, ← hej] at hp2
            rw [← hp2] at hmn
            rw [← hei, ← hej, ← hp2] at hl2
            have stI : p2.toInt < 1152921504606846976 → _ := fun z => eF_step (p := p.toInt) (p2 := p2.toInt) hwa i0 i2 i3 (by omega) (by rw [← hei]; omega) z
            have stJ : p2.toInt < 1152921504606846976 → _ := fun z => eF_step (p := p.toInt) (p2 := p2.toInt) hwb j0 j2 j3 (by omega) (by rw [← hej]; omega) z
            rw [← hei] at stI
            rw [← hej] at stJ
            refine hs (f := dm_lst 153 6) (lv' := [(6, .long p2), (10, .long ej), (8, .long ei), (3, .int m), (5, .int j), (4, .int i), (0, .ref 68), (1, .int a), (2, .int b)]) rfl rfl ?_
            refine hs (f := dm_lld 155 8) rfl rfl ?_
            refine hs (f := dm_lld 157 6) rfl rfl ?_
            refine g_lc_ne (x := ei) (y := p2) (m := 158) (n := 161) (tt := 164) rfl rfl (fun h3 => ?_) (fun h3 => ?_)
            · skip
              have h3 : ¬ ei.toInt = p2.toInt := h3
              refine hs (f := dm_lld 166 10) rfl rfl ?_
              refine hs (f := dm_lld 168 6) rfl rfl ?_
              refine g_lc_ne (x := ej) (y := p2) (m := 169) (n := 172) (tt := 175) rfl rfl (fun h4 => ?_) (fun h4 => ?_)
              · skip
                have h4 : ¬ ej.toInt = p2.toInt := h4
                refine hs (f := dm_goto 21) rfl rfl ?_
                exfalso
                omega
              · skip
                have h4 : ej.toInt = p2.toInt := h4
                have e5 : (j + 1).toInt = j.toInt + 1 := by have w := i_addc (x := j) (y := 1) 1 rfl (by omega) (by omega); omega
                refine hs (f := dm_iinc 175 5 1) (lv' := [(5, .int (j + 1)), (6, .long p2), (10, .long ej), (8, .long ei), (3, .int m), (4, .int i), (0, .ref 68), (1, .int a), (2, .int b)]) rfl rfl ?_
                refine hs (f := dm_goto 21) rfl rfl ?_
                have hdec : (rA (q.2.2.1 73) (a.toInt + 1) - i.toInt).toNat + (rA (q.2.2.1 73) (b.toInt + 1) - (j + 1).toInt).toNat < nn := by rw [e5]; exact (tg_dec hms i2 j2).2.1
                exact (IH _ hdec).2.2.1 m i (j + 1) p2 ei ej c94 c95 _ hM (by omega) (by omega) (by omega) (by omega) (by omega) (by intro z; have z1 := stI z; exact ⟨by omega, (z1.2 h3).1, by rw [← hei]; exact (z1.2 h3).2⟩) (by intro z; have z1 := stJ z; rw [e5]; exact ⟨(z1.1 h4).1, by rw [(z1.1 h4).2.1]; omega, (z1.1 h4).2.2⟩) (by intro z; exact Or.inr (Or.inr ⟨j.toInt + 1, by omega, ((stJ z).1 h4).1, ((stJ z).1 h4).2.1.symm⟩)) (by omega) (Or.inl (by omega)) ⟨_, dd, hr2, by rw [e5]; exact (tg_le hd9 i2 j2).2.1, by have z := hl2; rw [if_neg h3, if_pos h4] at z; rw [e5]; exact z⟩ (tI_up hx2 (by omega)) (fun z => absurd (show ei.toInt = ej.toInt by rw [hei, hej, (nab z).1, z]) (by omega)) rfl
            · skip
              have h3 : ei.toInt = p2.toInt := h3
              have e6 : (i + 1).toInt = i.toInt + 1 := by have w := i_addc (x := i) (y := 1) 1 rfl (by omega) (by omega); omega
              refine hs (f := dm_iinc 164 4 1) (lv' := [(4, .int (i + 1)), (6, .long p2), (10, .long ej), (8, .long ei), (3, .int m), (5, .int j), (0, .ref 68), (1, .int a), (2, .int b)]) rfl rfl ?_
              refine hs (f := dm_lld 166 10) rfl rfl ?_
              refine hs (f := dm_lld 168 6) rfl rfl ?_
              refine g_lc_ne (x := ej) (y := p2) (m := 169) (n := 172) (tt := 175) rfl rfl (fun h7 => ?_) (fun h7 => ?_)
              · skip
                have h7 : ¬ ej.toInt = p2.toInt := h7
                refine hs (f := dm_goto 21) rfl rfl ?_
                have hdec : (rA (q.2.2.1 73) (a.toInt + 1) - (i + 1).toInt).toNat + (rA (q.2.2.1 73) (b.toInt + 1) - j.toInt).toNat < nn := by rw [e6]; exact (tg_dec hms i2 j2).1
                exact (IH _ hdec).2.1 m (i + 1) j p2 ei ej c94 c95 _ hM (by omega) (by omega) (by omega) (by omega) (by omega) (by intro z; have z1 := stI z; rw [e6]; exact ⟨(z1.1 h3).1, by rw [(z1.1 h3).2.1]; omega, (z1.1 h3).2.2⟩) (by intro z; have z1 := stJ z; exact ⟨by omega, (z1.2 h7).1, by rw [← hej]; exact (z1.2 h7).2⟩) (by intro z; exact Or.inr (Or.inl ⟨i.toInt + 1, by omega, ((stI z).1 h3).1, ((stI z).1 h3).2.1.symm⟩)) (by omega) (Or.inl (by omega)) ⟨_, dd, hr2, by rw [e6]; exact (tg_le hd9 i2 j2).1, by have z := hl2; rw [if_pos h3, if_neg h7] at z; rw [e6]; exact z⟩ (tI_up hx2 (by omega)) (fun z => absurd (show ei.toInt = ej.toInt by rw [hei, hej, (nab z).1, z]) (by omega)) rfl
              · skip
                have h7 : ej.toInt = p2.toInt := h7
                have e8 : (j + 1).toInt = j.toInt + 1 := by have w := i_addc (x := j) (y := 1) 1 rfl (by omega) (by omega); omega
                refine hs (f := dm_iinc 175 5 1) (lv' := [(5, .int (j + 1)), (4, .int (i + 1)), (6, .long p2), (10, .long ej), (8, .long ei), (3, .int m), (0, .ref 68), (1, .int a), (2, .int b)]) rfl rfl ?_
                refine hs (f := dm_goto 21) rfl rfl ?_
                have hdec : (rA (q.2.2.1 73) (a.toInt + 1) - (i + 1).toInt).toNat + (rA (q.2.2.1 73) (b.toInt + 1) - (j + 1).toInt).toNat < nn := by rw [e6, e8]; exact (tg_dec hms i2 j2).2.2
                exact (IH _ hdec).2.2.2 m (i + 1) (j + 1) p2 ei ej c94 c95 _ hM (by omega) (by omega) (by omega) (by omega) (by omega) (by intro z; have z1 := stI z; rw [e6]; exact ⟨(z1.1 h3).1, by rw [(z1.1 h3).2.1]; omega, (z1.1 h3).2.2⟩) (by intro z; have z1 := stJ z; rw [e8]; exact ⟨(z1.1 h7).1, by rw [(z1.1 h7).2.1]; omega, (z1.1 h7).2.2⟩) (by intro z; exact Or.inr (Or.inl ⟨i.toInt + 1, by omega, ((stI z).1 h3).1, ((stI z).1 h3).2.1.symm⟩)) (by omega) (Or.inl (by omega)) ⟨_, dd, hr2, by rw [e6, e8]; exact (tg_le hd9 i2 j2).2.2, by have z := hl2; rw [if_pos h3, if_pos h7] at z; rw [e6]; rw [e8]; exact z⟩ (tI_up hx2 (by omega)) (fun z => by have z1 := nab z; have z2 := m0.2.2 z; omega) rfl
          have j134 : ∀ (m : Int32) (c94 : Nat → Int64) (c95 : Nat → Int32) (ei ej : Int64) (M : dm_Mem), Rm X (sA (sB q 94 c94) 95 c95) M → (1 ≤ m.toInt ∧ m.toInt ≤ (i.toInt - rA (q.2.2.1 73) a.toInt) + (j.toInt - rA (q.2.2.1 73) b.toInt) + 1 ∧ (a = b → m.toInt ≤ i.toInt - rA (q.2.2.1 73) a.toInt + 1)) → (rowL c94 c95 m.toInt (layL l p (mxF ((q.2.2.1 70) i.toInt.toNat) ((q.2.2.1 70) j.toInt.toNat)))) → (tI (q.2.2.2 69) (rA (q.2.2.1 73) a.toInt) (rA (q.2.2.1 73) (a.toInt + 1)) (rA (q.2.2.1 73) b.toInt) (rA (q.2.2.1 73) (b.toInt + 1)) c94 m.toInt (p.toInt + 1)) → (ei = eF (q.2.2.2 69) i.toInt (rA (q.2.2.1 73) (a.toInt + 1))) → (ej = eF (q.2.2.2 69) j.toInt (rA (q.2.2.1 73) (b.toInt + 1))) → hG 1 cd_163 134 [(8, .long ei), (3, .int m), (6, .long p), (5, .int j), (4, .int i), (0, .ref 68), (1, .int a), (2, .int b)] [.long ej] M (fun r M' => r = none ∧ ∃ (n : Int32) (b92 b94 : Nat → Int64) (b93 b95 : Nat → Int32), wS b92 n.toInt ∧ n.toInt ≤ 24000 ∧ rowL b92 b93 n.toInt (tgL (q.2.2.2 69) (q.2.2.1 70) (rA (q.2.2.1 73) (a.toInt + 1)) (rA (q.2.2.1 73) (b.toInt + 1)) ((rA (q.2.2.1 73) (a.toInt + 1) - rA (q.2.2.1 73) a.toInt).toNat + (rA (q.2.2.1 73) (b.toInt + 1) - rA (q.2.2.1 73) b.toInt).toNat) (rA (q.2.2.1 73) a.toInt) (rA (q.2.2.1 73) b.toInt) 0 []) ∧ (∀ (i : Nat) (g : Int), dy i g → flat (seg (q.2.2.2 69) (rA (q.2.2.1 73) a.toInt)) (rA (q.2.2.1 73) (a.toInt + 1) - rA (q.2.2.1 73) a.toInt) g (2 ^ i) → flat (seg (q.2.2.2 69) (rA (q.2.2.1 73) b.toInt)) (rA (q.2.2.1 73) (b.toInt + 1) - rA (q.2.2.1 73) b.toInt) g (2 ^ i) → flat b92 n.toInt g (2 ^ i)) ∧ Rm X (sA (sA (sB (sB (sF q 29 n) 92 b92) 94 b94) 93 b93) 95 b95) M') := by
            intro m c94 c95 ei ej M hM m0 hr2 hx2 hei hej
            refine hs (f := dm_lst 136 10) (lv' := [(10, .long ej), (8, .long ei), (3, .int m), (6, .long p), (5, .int j), (4, .int i), (0, .ref 68), (1, .int a), (2, .int b)]) rfl rfl ?_
            refine hs (f := dm_lld 138 8) rfl rfl ?_
            refine hs (f := dm_lld 140 10) rfl rfl ?_
            refine g_lc_ge (x := ei) (y := ej) (m := 141) (n := 144) (tt := 149) rfl rfl (fun h9 => ?_) (fun h9 => ?_)
            · skip
              have h9 : ei.toInt ≥ ej.toInt := h9
              refine hs (f := dm_lld 151 10) rfl rfl ?_
              exact j151 m c94 c95 ei ej ej _ hM m0 hr2 hx2 hei hej (by rw [← hei, ← hej]; unfold mnF; rw [if_neg (by omega)])
            · skip
              have h9 : ei.toInt < ej.toInt := h9
              refine hs (f := dm_lld 146 8) rfl rfl ?_
              refine hs (f := dm_goto 151) rfl rfl ?_
              exact j151 m c94 c95 ei ej ei _ hM m0 hr2 hx2 hei hej (by rw [← hei, ← hej]; unfold mnF; rw [if_pos (by omega)])
          have j102 : ∀ (m : Int32) (c94 : Nat → Int64) (c95 : Nat → Int32) (ei : Int64) (M : dm_Mem), Rm X (sA (sB q 94 c94) 95 c95) M → (1 ≤ m.toInt ∧ m.toInt ≤ (i.toInt - rA (q.2.2.1 73) a.toInt) + (j.toInt - rA (q.2.2.1 73) b.toInt) + 1 ∧ (a = b → m.toInt ≤ i.toInt - rA (q.2.2.1 73) a.toInt + 1)) → (rowL c94 c95 m.toInt (layL l p (mxF ((q.2.2.1 70) i.toInt.toNat) ((q.2.2.1 70) j.toInt.toNat)))) → (tI (q.2.2.2 69) (rA (q.2.2.1 73) a.toInt) (rA (q.2.2.1 73) (a.toInt + 1)) (rA (q.2.2.1 73) b.toInt) (rA (q.2.2.1 73) (b.toInt + 1)) c94 m.toInt (p.toInt + 1)) → (ei = eF (q.2.2.2 69) i.toInt (rA (q.2.2.1 73) (a.toInt + 1))) → hG 1 cd_163 102 [(3, .int m), (6, .long p), (5, .int j), (4, .int i), (0, .ref 68), (1, .int a), (2, .int b)] [.long ei] M (fun r M' => r = none ∧ ∃ (n : Int32) (b92 b94 : Nat → Int64) (b93 b95 : Nat → Int32), wS b92 n.toInt ∧ n.toInt ≤ 24000 ∧ rowL b92 b93 n.toInt (tgL (q.2.2.2 69) (q.2.2.1 70) (rA (q.2.2.1 73) (a.toInt + 1)) (rA (q.2.2.1 73) (b.toInt + 1)) ((rA (q.2.2.1 73) (a.toInt + 1) - rA (q.2.2.1 73) a.toInt).toNat + (rA (q.2.2.1 73) (b.toInt + 1) - rA (q.2.2.1 73) b.toInt).toNat) (rA (q.2.2.1 73) a.toInt) (rA (q.2.2.1 73) b.toInt) 0 []) ∧ (∀ (i : Nat) (g : Int), dy i g → flat (seg (q.2.2.2 69) (rA (q.2.2.1 73) a.toInt)) (rA (q.2.2.1 73) (a.toInt + 1) - rA (q.2.2.1 73) a.toInt) g (2 ^ i) → flat (seg (q.2.2.2 69) (rA (q.2.2.1 73) b.toInt)) (rA (q.2.2.1 73) (b.toInt + 1) - rA (q.2.2.1 73) b.toInt) g (2 ^ i) → flat b92 n.toInt g (2 ^ i)) ∧ Rm X (sA (sA (sB (sB (sF q 29 n) 92 b92) 94 b94) 93 b93) 95 b95) M') := by
            intro m c94 c95 ei M hM m0 hr2 hx2 hei
            refine hs (f := dm_lst 104 8) (lv' := [(8, .long ei), (3, .int m), (6, .long p), (5, .int j), (4, .int i), (0, .ref 68), (1, .int a), (2, .int b)]) rfl rfl ?_
            refine hs (f := dm_ild 106 5) rfl rfl ?_
            refine hs (f := dm_push 107 (.int 1)) rfl rfl ?_
            have e10 : (j + (1 : Int32)).toInt = j.toInt + 1 := by have w := i_addc (x := j) (y := (1 : Int32)) 1 rfl (by omega) (by omega); omega
            refine hs (f := dm_ii 108 (fun x y => x + y)) (st' := [.int (j + (1 : Int32))]) rfl rfl ?_
            refine hs (f := dm_ald 109 0) rfl rfl ?_
            refine r_geta (c := 70) rfl hM rfl ?_
            refine hs (f := dm_ild 113 2) rfl rfl ?_
            refine hs (f := dm_push 114 (.int 1)) rfl rfl ?_
            have e11 : (b + (1 : Int32)).toInt = b.toInt + 1 := by have w := i_addc (x := b) (y := (1 : Int32)) 1 rfl (by omega) (by omega); omega
            refine hs (f := dm_ii 115 (fun x y => x + y)) (st' := [.int (b + (1 : Int32)), .ref 73, .int (j + (1 : Int32))]) rfl rfl ?_
            refine r_iald (L := 1001) (i := (b + (1 : Int32))) ((q.2.2.1 73) (b + (1 : Int32)).toInt.toNat) rfl hM rfl (by omega) rfl ?_
            generalize g13 : (q.2.2.1 73) (b + (1 : Int32)).toInt.toNat = v12
            have x14 : v12.toInt = rA (q.2.2.1 73) (b.toInt + 1) := rA_of (i := (b + (1 : Int32))) g13 e11
            refine g_ic_ge (n := 119) (tt := 131) rfl (fun h15 => ?_) (fun h15 => ?_)
            · skip
              have h15 : (j + (1 : Int32)).toInt ≥ v12.toInt := h15
              refine hs (f := dm_push 134 (.long 1152921504606846976)) rfl rfl ?_
              exact j134 m c94 c95 ei (1152921504606846976 : Int64) _ hM m0 hr2 hx2 hei (by unfold eF; rw [if_neg (by omega)])
            · skip
              have h15 : (j + (1 : Int32)).toInt < v12.toInt := h15
              refine hs (f := dm_ald 120 0) rfl rfl ?_
              refine r_geta (c := 66) rfl hM rfl ?_
              refine hs (f := dm_ild 125 5) rfl rfl ?_
              refine hs (f := dm_push 126 (.int 1)) rfl rfl ?_
              have e16 : (j + (1 : Int32)).toInt = j.toInt + 1 := by have w := i_addc (x := j) (y := (1 : Int32)) 1 rfl (by omega) (by omega); omega
              refine hs (f := dm_ii 127 (fun x y => x + y)) (st' := [.int (j + (1 : Int32)), .ref 69]) rfl rfl ?_
              refine r_lald (L := 24000) (i := (j + (1 : Int32))) ((q.2.2.2 69) (j + (1 : Int32)).toInt.toNat) rfl hM rfl (by omega) rfl ?_
              generalize g18 : (q.2.2.2 69) (j + (1 : Int32)).toInt.toNat = v17
              have x19 : v17.toInt = rB (q.2.2.2 69) (j.toInt + 1) := rB_of (i := (j + (1 : Int32))) g18 e16
              refine hs (f := dm_goto 134) rfl rfl ?_
              exact j134 m c94 c95 ei v17 _ hM m0 hr2 hx2 hei (by rw [← g18, e16]; unfold eF; rw [if_pos (by omega)])
          have j71 : ∀ (m : Int32) (c94 : Nat → Int64) (c95 : Nat → Int32) (M : dm_Mem), Rm X (sA (sB q 94 c94) 95 c95) M → (1 ≤ m.toInt ∧ m.toInt ≤ (i.toInt - rA (q.2.2.1 73) a.toInt) + (j.toInt - rA (q.2.2.1 73) b.toInt) + 1 ∧ (a = b → m.toInt ≤ i.toInt - rA (q.2.2.1 73) a.toInt + 1)) → (rowL c94 c95 m.toInt (layL l p (mxF ((q.2.2.1 70) i.toInt.toNat) ((q.2.2.1 70) j.toInt.toNat)))) → (tI (q.2.2.2 69) (rA (q.2.2.1 73) a.toInt) (rA (q.2.2.1 73) (a.toInt + 1)) (rA (q.2.2.1 73) b.toInt) (rA (q.2.2.1 73) (b.toInt + 1)) c94 m.toInt (p.toInt + 1)) → hG 1 cd_163 71 [(6, .long p), (5, .int j), (4, .int i), (3, .int n), (0, .ref 68), (1, .int a), (2, .int b)] [.int m] M (fun r M' => r = none ∧ ∃ (n : Int32) (b92 b94 : Nat → Int64) (b93 b95 : Nat → Int32), wS b92 n.toInt ∧ n.toInt ≤ 24000 ∧ rowL b92 b93 n.toInt (tgL (q.2.2.2 69) (q.2.2.1 70) (rA (q.2.2.1 73) (a.toInt + 1)) (rA (q.2.2.1 73) (b.toInt + 1)) ((rA (q.2.2.1 73) (a.toInt + 1) - rA (q.2.2.1 73) a.toInt).toNat + (rA (q.2.2.1 73) (b.toInt + 1) - rA (q.2.2.1 73) b.toInt).toNat) (rA (q.2.2.1 73) a.toInt) (rA (q.2.2.1 73) b.toInt) 0 []) ∧ (∀ (i : Nat) (g : Int), dy i g → flat (seg (q.2.2.2 69) (rA (q.2.2.1 73) a.toInt)) (rA (q.2.2.1 73) (a.toInt + 1) - rA (q.2.2.1 73) a.toInt) g (2 ^ i) → flat (seg (q.2.2.2 69) (rA (q.2.2.1 73) b.toInt)) (rA (q.2.2.1 73) (b.toInt + 1) - rA (q.2.2.1 73) b.toInt) g (2 ^ i) → flat b92 n.toInt g (2 ^ i)) ∧ Rm X (sA (sA (sB (sB (sF q 29 n) 92 b92) 94 b94) 93 b93) 95 b95) M') := by
            intro m c94 c95 M hM m0 hr2 hx2
            refine hs (f := dm_ist 72 3) (lv' := [(3, .int m), (6, .long p), (5, .int j), (4, .int i), (0, .ref 68), (1, .int a), (2, .int b)]) rfl rfl ?_
            refine hs (f := dm_ild 74 4) rfl rfl ?_
            refine hs (f := dm_push 75 (.int 1)) rfl rfl ?_
            have e20 : (i + (1 : Int32)).toInt = i.toInt + 1 := by have w := i_addc (x := i) (y := (1 : Int32)) 1 rfl (by omega) (by omega); omega
            refine hs (f := dm_ii 76 (fun x y => x + y)) (st' := [.int (i + (1 : Int32))]) rfl rfl ?_
            refine hs (f := dm_ald 77 0) rfl rfl ?_
            refine r_geta (c := 70) rfl hM rfl ?_
            refine hs (f := dm_ild 81 1) rfl rfl ?_
            refine hs (f := dm_push 82 (.int 1)) rfl rfl ?_
            have e21 : (a + (1 : Int32)).toInt = a.toInt + 1 := by have w := i_addc (x := a) (y := (1 : Int32)) 1 rfl (by omega) (by omega); omega
            refine hs (f := dm_ii 83 (fun x y => x + y)) (st' := [.int (a + (1 : Int32)), .ref 73, .int (i + (1 : Int32))]) rfl rfl ?_
            refine r_iald (L := 1001) (i := (a + (1 : Int32))) ((q.2.2.1 73) (a + (1 : Int32)).toInt.toNat) rfl hM rfl (by omega) rfl ?_
            generalize g23 : (q.2.2.1 73) (a + (1 : Int32)).toInt.toNat = v22
            have x24 : v22.toInt = rA (q.2.2.1 73) (a.toInt + 1) := rA_of (i := (a + (1 : Int32))) g23 e21
            refine g_ic_ge (n := 87) (tt := 99) rfl (fun h25 => ?_) (fun h25 => ?_)
            · skip
              have h25 : (i + (1 : Int32)).toInt ≥ v22.toInt := h25
              refine hs (f := dm_push 102 (.long 1152921504606846976)) rfl rfl ?_
              exact j102 m c94 c95 (1152921504606846976 : Int64) _ hM m0 hr2 hx2 (by unfold eF; rw [if_neg (by omega)])
            · skip
              have h25 : (i + (1 : Int32)).toInt < v22.toInt := h25
              refine hs (f := dm_ald 88 0) rfl rfl ?_
              refine r_geta (c := 66) rfl hM rfl ?_
              refine hs (f := dm_ild 93 4) rfl rfl ?_
              refine hs (f := dm_push 94 (.int 1)) rfl rfl ?_
              have e26 : (i + (1 : Int32)).toInt = i.toInt + 1 := by have w := i_addc (x := i) (y := (1 : Int32)) 1 rfl (by omega) (by omega); omega
              refine hs (f := dm_ii 95 (fun x y => x + y)) (st' := [.int (i + (1 : Int32)), .ref 69]) rfl rfl ?_
              refine r_lald (L := 24000) (i := (i + (1 : Int32))) ((q.2.2.2 69) (i + (1 : Int32)).toInt.toNat) rfl hM rfl (by omega) rfl ?_
              generalize g28 : (q.2.2.2 69) (i + (1 : Int32)).toInt.toNat = v27
              have x29 : v27.toInt = rB (q.2.2.2 69) (i.toInt + 1) := rB_of (i := (i + (1 : Int32))) g28 e26
              refine hs (f := dm_goto 102) rfl rfl ?_
              exact j102 m c94 c95 v27 _ hM m0 hr2 hx2 (by rw [← g28, e26]; unfold eF; rw [if_pos (by omega)])
          have j68 : ∀ (v : Int32) (M : dm_Mem), Rm X (sA (sB q 94 b94) 95 b95) M → (v = mxF ((q.2.2.1 70) i.toInt.toNat) ((q.2.2.1 70) j.toInt.toNat)) → hG 1 cd_163 68 [(6, .long p), (5, .int j), (4, .int i), (3, .int n), (0, .ref 68), (1, .int a), (2, .int b)] [.int v, .long p, .int n, .ref 68] M (fun r M' => r = none ∧ ∃ (n : Int32) (b92 b94 : Nat → Int64) (b93 b95 : Nat → Int32), wS b92 n.toInt ∧ n.toInt ≤ 24000 ∧ rowL b92 b93 n.toInt (tgL (q.2.2.2 69) (q.2.2.1 70) (rA (q.2.2.1 73) (a.toInt + 1)) (rA (q.2.2.1 73) (b.toInt + 1)) ((rA (q.2.2.1 73) (a.toInt + 1) - rA (q.2.2.1 73) a.toInt).toNat + (rA (q.2.2.1 73) (b.toInt + 1) - rA (q.2.2.1 73) b.toInt).toNat) (rA (q.2.2.1 73) a.toInt) (rA (q.2.2.1 73) b.toInt) 0 []) ∧ (∀ (i : Nat) (g : Int), dy i g → flat (seg (q.2.2.2 69) (rA (q.2.2.1 73) a.toInt)) (rA (q.2.2.1 73) (a.toInt + 1) - rA (q.2.2.1 73) a.toInt) g (2 ^ i) → flat (seg (q.2.2.2 69) (rA (q.2.2.1 73) b.toInt)) (rA (q.2.2.1 73) (b.toInt + 1) - rA (q.2.2.1 73) b.toInt) g (2 ^ i) → flat b92 n.toInt g (2 ^ i)) ∧ Rm X (sA (sA (sB (sB (sF q 29 n) 92 b92) 94 b94) 93 b93) 95 b95) M') := by
            intro v M hM hv
            refine r_inv rfl hM rfl (as := [.ref 68, .int n, .long p, .int v]) rfl (Nat.le_of_ble_eq_true rfl) (hT_mono (by decide) (r_148 hM n p v (by omega) (by rcases hlen with zz | zz <;> first | omega | (have zn := nab zz; omega))) (fun r1 M30 w => ?_))
            rcases w with ⟨rfl, rfl, un, uv⟩ | ⟨rfl, uv, hM30⟩
            · skip
              have uv : rA b95 (n.toInt - 1) = v.toInt := uv
              exact j71 n b94 b95 _ hM ⟨by omega, by omega, fun z => by have z1 := nab z; omega⟩ (by rw [← hv, rowL_skip hrw un uv]; exact hrw) (tI_up hx (by omega))
            · skip
              have uv : 0 < n.toInt → ¬ rA b95 (n.toInt - 1) = v.toInt := uv
              replace hM30 := rm_to (q' := (sA (sB q 94 (vp_updL b94 n.toInt.toNat p)) 95 (upd b95 n.toInt.toNat v))) hM30 (Eq.trans (congrArg (fun z => sA z 95 (upd b95 n.toInt.toNat v)) (show sB (sA (sB q 94 b94) 95 b95) 94 (vp_updL b94 n.toInt.toNat p) = (sA (sB q 94 (vp_updL b94 n.toInt.toNat p)) 95 b95) from (congrArg (fun z => (sA z 95 b95)) (show sB (sB q 94 b94) 94 (vp_updL b94 n.toInt.toNat p) = (sB q 94 (vp_updL b94 n.toInt.toNat p)) from sB_sB)))) (show sA (sA (sB q 94 (vp_updL b94 n.toInt.toNat p)) 95 b95) 95 (upd b95 n.toInt.toNat v) = (sA (sB q 94 (vp_updL b94 n.toInt.toNat p)) 95 (upd b95 n.toInt.toNat v)) from (show sA (sA (sB q 94 (vp_updL b94 n.toInt.toNat p)) 95 b95) 95 (upd b95 n.toInt.toNat v) = (sA (sB q 94 (vp_updL b94 n.toInt.toNat p)) 95 (upd b95 n.toInt.toNat v)) from sA_sA)))
              have e31 : (n + 1).toInt = n.toInt + 1 := i_addc 1 rfl (by omega) (by omega)
              exact j71 (n + 1) (vp_updL b94 n.toInt.toNat p) (upd b95 n.toInt.toNat v) _ hM30 ⟨by omega, by omega, fun z => by have z1 := nab z; omega⟩ (by rw [← hv, e31]; exact rowL_lay hrw (Int.toNat_of_nonneg n0.1).symm uv) (by rw [e31]; exact tI_lay hx (Int.toNat_of_nonneg n0.1).symm (Int.le_refl _) (Int.lt_add_one_of_le (Int.le_refl _)) (fun z => n1.elim (fun y => absurd y (by rw [z]; decide)) id) hpa)
          refine hs (f := dm_ald 31 0) rfl rfl ?_
          refine hs (f := dm_ild 32 3) rfl rfl ?_
          refine hs (f := dm_lld 34 6) rfl rfl ?_
          refine hs (f := dm_ald 35 0) rfl rfl ?_
          refine r_geta (c := 67) rfl hM rfl ?_
          refine hs (f := dm_ild 40 4) rfl rfl ?_
          refine r_iald (L := 24000) (i := i) ((q.2.2.1 70) i.toInt.toNat) rfl hM rfl (by omega) rfl ?_
          generalize g33 : (q.2.2.1 70) i.toInt.toNat = v32
          have x34 : v32.toInt = rA (q.2.2.1 70) i.toInt := rA_of (i := i) g33 rfl
          refine hs (f := dm_ald 42 0) rfl rfl ?_
          refine r_geta (c := 67) rfl hM rfl ?_
          refine hs (f := dm_ild 47 5) rfl rfl ?_
          refine r_iald (L := 24000) (i := j) ((q.2.2.1 70) j.toInt.toNat) rfl hM rfl (by omega) rfl ?_
          generalize g36 : (q.2.2.1 70) j.toInt.toNat = v35
          have x37 : v35.toInt = rA (q.2.2.1 70) j.toInt := rA_of (i := j) g36 rfl
          refine g_ic_le (n := 51) (tt := 61) rfl (fun h38 => ?_) (fun h38 => ?_)
          · skip
            have h38 : v32.toInt ≤ v35.toInt := h38
            refine hs (f := dm_ald 62 0) rfl rfl ?_
            refine r_geta (c := 67) rfl hM rfl ?_
            refine hs (f := dm_ild 67 5) rfl rfl ?_
            refine r_iald (L := 24000) (i := j) ((q.2.2.1 70) j.toInt.toNat) rfl hM rfl (by omega) rfl ?_
            generalize g40 : (q.2.2.1 70) j.toInt.toNat = v39
            have x41 : v39.toInt = rA (q.2.2.1 70) j.toInt := rA_of (i := j) g40 rfl
            exact j68 v39 _ hM (by rw [← g40]; exact (mx_r (by omega)).symm)
          · skip
            have h38 : v32.toInt > v35.toInt := h38
            refine hs (f := dm_ald 52 0) rfl rfl ?_
            refine r_geta (c := 67) rfl hM rfl ?_
            refine hs (f := dm_ild 57 4) rfl rfl ?_
            refine r_iald (L := 24000) (i := i) ((q.2.2.1 70) i.toInt.toNat) rfl hM rfl (by omega) rfl ?_
            generalize g43 : (q.2.2.1 70) i.toInt.toNat = v42
            have x44 : v42.toInt = rA (q.2.2.1 70) i.toInt := rA_of (i := i) g43 rfl
            refine hs (f := dm_goto 68) rfl rfl ?_
            exact j68 v42 _ hM (by rw [← g43]; exact (mx_l (by omega)).symm)
      · skip
        intro n i j p e8 e10 b94 b95 M hM i0 i1 j0 j1 p0 hpi hpj hpa n0 n1 hl hx nab hms
        refine hs (f := dm_lld 23 6) rfl rfl ?_
        refine hs (f := dm_push 26 (.long 1152921504606846976)) rfl rfl ?_
        refine g_lc_ge (x := p) (y := (1152921504606846976 : Int64)) (m := 27) (n := 30) (tt := 178) rfl rfl (fun h45 => ?_) (fun h45 => ?_)
        · skip
          have h45 : p.toInt ≥ 1152921504606846976 := h45
          refine hs (f := dm_ald 179 0) rfl rfl ?_
          refine hs (f := dm_ild 180 3) rfl rfl ?_
          obtain ⟨l, d9, hrw, hd9, hl2⟩ := hl
          rw [tg_end (by omega)] at hl2
          rw [hl2] at hrw
          refine r_inv rfl hM rfl (as := [.ref 68, .int n]) rfl (Nat.le_of_ble_eq_true rfl) (hT_mono (by decide) (r_149 hM n (by omega) (by rcases hlen with zz | zz <;> first | omega | (have zn := nab zz; omega))) (fun r1 M46 w => ?_))
          obtain ⟨rfl, b1, b2, hb, hM46⟩ := w
          replace hM46 := rm_to (q' := (sA (sA (sB (sB (sF q 29 n) 92 b1) 94 b94) 93 b2) 95 b95)) hM46 (Eq.trans (congrArg (fun z => sA z 93 b2) (Eq.trans (congrArg (fun z => sB z 92 b1) (show sF (sA (sB q 94 b94) 95 b95) 29 n = (sA (sB (sF q 29 n) 94 b94) 95 b95) from (congrArg (fun z => (sA (sB z 94 b94) 95 b95)) (show sF q 29 n = (sF q 29 n) from rfl)))) (show sB (sA (sB (sF q 29 n) 94 b94) 95 b95) 92 b1 = (sA (sB (sB (sF q 29 n) 92 b1) 94 b94) 95 b95) from (congrArg (fun z => (sA z 95 b95)) (show sB (sB (sF q 29 n) 94 b94) 92 b1 = (sB (sB (sF q 29 n) 92 b1) 94 b94) from Eq.trans (show sB (sB (sF q 29 n) 94 b94) 92 b1 = sB (sB (sF q 29 n) 92 b1) 94 b94 from sB_cm (by decide)) (congrArg (fun z => sB z 94 b94) (show sB (sF q 29 n) 92 b1 = (sB (sF q 29 n) 92 b1) from rfl))))))) (show sA (sA (sB (sB (sF q 29 n) 92 b1) 94 b94) 95 b95) 93 b2 = (sA (sA (sB (sB (sF q 29 n) 92 b1) 94 b94) 93 b2) 95 b95) from (show sA (sA (sB (sB (sF q 29 n) 92 b1) 94 b94) 95 b95) 93 b2 = (sA (sA (sB (sB (sF q 29 n) 92 b1) 94 b94) 93 b2) 95 b95) from Eq.trans (show sA (sA (sB (sB (sF q 29 n) 92 b1) 94 b94) 95 b95) 93 b2 = sA (sA (sB (sB (sF q 29 n) 92 b1) 94 b94) 93 b2) 95 b95 from sA_cm (by decide)) (congrArg (fun z => sA z 95 b95) (show sA (sB (sB (sF q 29 n) 92 b1) 94 b94) 93 b2 = (sA (sB (sB (sF q 29 n) 92 b1) 94 b94) 93 b2) from rfl)))))
          exact hr (f := dm_vret) rfl rfl (⟨rfl, n, b1, b94, b2, b95, tI_wS (tI_up hx (by omega)) (by omega) (fun i i0 i1 => (hb i i0 i1).1), (by rcases hlen with zz | zz <;> first | omega | (have zn := nab zz; omega)), ⟨hrw.1, fun k z hk => by
                have hk2 := (List.getElem?_eq_some_iff.mp hk).1
                have hk3 := hrw.1
                have hb2 := hb k (by omega) (by omega)
                have hb3 := hrw.2 k z hk
                exact ⟨hb2.1.trans hb3.1, hb2.2.trans hb3.2⟩⟩, tI_flat (tI_up hx (by omega)) (fun i i0 i1 => (hb i i0 i1).1), hM46⟩)
        · skip
          have h45 : p.toInt < 1152921504606846976 := h45
          obtain ⟨i2, i3, i4⟩ := hpi (by omega)
          obtain ⟨j2, j3, j4⟩ := hpj (by omega)
          have hpa := hpa (by omega)
          obtain ⟨l, d9, hrw, hd9, hl2⟩ := hl
          obtain ⟨dd, rfl⟩ : ∃ dd, d9 = dd + 1 := ⟨d9 - 1, by omega⟩
          rw [tg_go (by omega)] at hl2
          have ega := eF_gt hwa i0 i2
          have egb := eF_gt hwb j0 j2
          have j151 : ∀ (m : Int32) (c94 : Nat → Int64) (c95 : Nat → Int32) (ei ej p2 : Int64) (M : dm_Mem), Rm X (sA (sB q 94 c94) 95 c95) M → (1 ≤ m.toInt ∧ m.toInt ≤ (i.toInt - rA (q.2.2.1 73) a.toInt) + (j.toInt - rA (q.2.2.1 73) b.toInt) + 1 ∧ (a = b → m.toInt ≤ i.toInt - rA (q.2.2.1 73) a.toInt + 1)) → (rowL c94 c95 m.toInt (layL l p (mxF ((q.2.2.1 70) i.toInt.toNat) ((q.2.2.1 70) j.toInt.toNat)))) → (tI (q.2.2.2 69) (rA (q.2.2.1 73) a.toInt) (rA (q.2.2.1 73) (a.toInt + 1)) (rA (q.2.2.1 73) b.toInt) (rA (q.2.2.1 73) (b.toInt + 1)) c94 m.toInt (p.toInt + 1)) → (ei = eF (q.2.2.2 69) i.toInt (rA (q.2.2.1 73) (a.toInt + 1))) → (ej = eF (q.2.2.2 69) j.toInt (rA (q.2.2.1 73) (b.toInt + 1))) → (p2 = mnF (eF (q.2.2.2 69) i.toInt (rA (q.2.2.1 73) (a.toInt + 1))) (eF (q.2.2.2 69) j.toInt (rA (q.2.2.1 73) (b.toInt + 1)))) → hG 1 cd_163 151 [(10, .long ej), (8, .long ei), (3, .int m), (4, .int i), (6, .long p), (5, .int j), (0, .ref 68), (1, .int a), (2, .int b)] [.long p2] M (fun r M' => r = none ∧ ∃ (n : Int32) (b92 b94 : Nat → Int64) (b93 b95 : Nat → Int32), wS b92 n.toInt ∧ n.toInt ≤ 24000 ∧ rowL b92 b93 n.toInt (tgL (q.2.2.2 69) (q.2.2.1 70) (rA (q.2.2.1 73) (a.toInt + 1)) (rA (q.2.2.1 73) (b.toInt + 1)) ((rA (q.2.2.1 73) (a.toInt + 1) - rA (q.2.2.1 73) a.toInt).toNat + (rA (q.2.2.1 73) (b.toInt + 1) - rA (q.2.2.1 73) b.toInt).toNat) (rA (q.2.2.1 73) a.toInt) (rA (q.2.2.1 73) b.toInt) 0 []) ∧ (∀ (i : Nat) (g : Int), dy i g → flat (seg (q.2.2.2 69) (rA (q.2.2.1 73) a.toInt)) (rA (q.2.2.1 73) (a.toInt + 1) - rA (q.2.2.1 73) a.toInt) g (2 ^ i) → flat (seg (q.2.2.2 69) (rA (q.2.2.1 73) b.toInt)) (rA (q.2.2.1 73) (b.toInt + 1) - rA (q.2.2.1 73) b.toInt) g (2 ^ i) → flat b92 n.toInt g (2 ^ i)) ∧ Rm X (sA (sA (sB (sB (sF q 29 n) 92 b92) 94 b94) 93 b93) 95 b95) M') := by
            intro m c94 c95 ei ej p2 M hM m0 hr2 hx2 hei hej hp2
            have hmn := mnF_int (eF (q.2.2.2 69) i.toInt (rA (q.2.2.1 73) (a.toInt + 1))) (eF (q.2.2.2 69) j.toInt (rA (q.2.2.1 73) (b.toInt + 1)))
            rw [← hei, ← hej] at hmn
            rw [← hei] at ega i4
            rw [← hej] at egb j4
            rw [← hei, ← hej] at hp2
            rw [← hp2] at hmn
            rw [← hei, ← hej, ← hp2] at hl2
            have stI : p2.toInt < 1152921504606846976 → _ := fun z => eF_step (p := p.toInt) (p2 := p2.toInt) hwa i0 i2 i3 (by omega) (by rw [← hei]; omega) z
            have stJ : p2.toInt < 1152921504606846976 → _ := fun z => eF_step (p := p.toInt) (p2 := p2.toInt) hwb j0 j2 j3 (by omega) (by rw [← hej]; omega) z
            rw [← hei] at stI
            rw [← hej] at stJ
            refine hs (f := dm_lst 153 6) (lv' := [(6, .long p2), (10, .long ej), (8, .long ei), (3, .int m), (4, .int i), (5, .int j), (0, .ref 68), (1, .int a), (2, .int b)]) rfl rfl ?_
            refine hs (f := dm_lld 155 8) rfl rfl ?_
            refine hs (f := dm_lld 157 6) rfl rfl ?_
            refine g_lc_ne (x := ei) (y := p2) (m := 158) (n := 161) (tt := 164) rfl rfl (fun h47 => ?_) (fun h47 => ?_)
            · skip
              have h47 : ¬ ei.toInt = p2.toInt := h47
              refine hs (f := dm_lld 166 10) rfl rfl ?_
              refine hs (f := dm_lld 168 6) rfl rfl ?_
              refine g_lc_ne (x := ej) (y := p2) (m := 169) (n := 172) (tt := 175) rfl rfl (fun h48 => ?_) (fun h48 => ?_)
              · skip
                have h48 : ¬ ej.toInt = p2.toInt := h48
                refine hs (f := dm_goto 21) rfl rfl ?_
                exfalso
                omega
              · skip
                have h48 : ej.toInt = p2.toInt := h48
                have e49 : (j + 1).toInt = j.toInt + 1 := by have w := i_addc (x := j) (y := 1) 1 rfl (by omega) (by omega); omega
                refine hs (f := dm_iinc 175 5 1) (lv' := [(5, .int (j + 1)), (6, .long p2), (10, .long ej), (8, .long ei), (3, .int m), (4, .int i), (0, .ref 68), (1, .int a), (2, .int b)]) rfl rfl ?_
                refine hs (f := dm_goto 21) rfl rfl ?_
                have hdec : (rA (q.2.2.1 73) (a.toInt + 1) - i.toInt).toNat + (rA (q.2.2.1 73) (b.toInt + 1) - (j + 1).toInt).toNat < nn := by rw [e49]; exact (tg_dec hms i2 j2).2.1
                exact (IH _ hdec).2.2.1 m i (j + 1) p2 ei ej c94 c95 _ hM (by omega) (by omega) (by omega) (by omega) (by omega) (by intro z; have z1 := stI z; exact ⟨by omega, (z1.2 h47).1, by rw [← hei]; exact (z1.2 h47).2⟩) (by intro z; have z1 := stJ z; rw [e49]; exact ⟨(z1.1 h48).1, by rw [(z1.1 h48).2.1]; omega, (z1.1 h48).2.2⟩) (by intro z; exact Or.inr (Or.inr ⟨j.toInt + 1, by omega, ((stJ z).1 h48).1, ((stJ z).1 h48).2.1.symm⟩)) (by omega) (Or.inl (by omega)) ⟨_, dd, hr2, by rw [e49]; exact (tg_le hd9 i2 j2).2.1, by have z := hl2; rw [if_neg h47, if_pos h48] at z; rw [e49]; exact z⟩ (tI_up hx2 (by omega)) (fun z => absurd (show ei.toInt = ej.toInt by rw [hei, hej, (nab z).1, z]) (by omega)) rfl
            · skip
              have h47 : ei.toInt = p2.toInt := h47
              have e50 : (i + 1).toInt = i.toInt + 1 := by have w := i_addc (x := i) (y := 1) 1 rfl (by omega) (by omega); omega
              refine hs (f := dm_iinc 164 4 1) (lv' := [(4, .int (i + 1)), (6, .long p2), (10, .long ej), (8, .long ei), (3, .int m), (5, .int j), (0, .ref 68), (1, .int a), (2, .int b)]) rfl rfl ?_
              refine hs (f := dm_lld 166 10) rfl rfl ?_
              refine hs (f := dm_lld 168 6) rfl rfl ?_
              refine g_lc_ne (x := ej) (y := p2) (m := 169) (n := 172) (tt := 175) rfl rfl (fun h51 => ?_) (fun h51 => ?_)
              · skip
                have h51 : ¬ ej.toInt = p2.toInt := h51
                refine hs (f := dm_goto 21) rfl rfl ?_
                have hdec : (rA (q.2.2.1 73) (a.toInt + 1) - (i + 1).toInt).toNat + (rA (q.2.2.1 73) (b.toInt + 1) - j.toInt).toNat < nn := by rw [e50]; exact (tg_dec hms i2 j2).1
                exact (IH _ hdec).2.1 m (i + 1) j p2 ei ej c94 c95 _ hM (by omega) (by omega) (by omega) (by omega) (by omega) (by intro z; have z1 := stI z; rw [e50]; exact ⟨(z1.1 h47).1, by rw [(z1.1 h47).2.1]; omega, (z1.1 h47).2.2⟩) (by intro z; have z1 := stJ z; exact ⟨by omega, (z1.2 h51).1, by rw [← hej]; exact (z1.2 h51).2⟩) (by intro z; exact Or.inr (Or.inl ⟨i.toInt + 1, by omega, ((stI z).1 h47).1, ((stI z).1 h47).2.1.symm⟩)) (by omega) (Or.inl (by omega)) ⟨_, dd, hr2, by rw [e50]; exact (tg_le hd9 i2 j2).1, by have z := hl2; rw [if_pos h47, if_neg h51] at z; rw [e50]; exact z⟩ (tI_up hx2 (by omega)) (fun z => absurd (show ei.toInt = ej.toInt by rw [hei, hej, (nab z).1, z]) (by omega)) rfl
              · skip
                have h51 : ej.toInt = p2.toInt := h51
                have e52 : (j + 1).toInt = j.toInt + 1 := by have w := i_addc (x := j) (y := 1) 1 rfl (by omega) (by omega); omega
                refine hs (f := dm_iinc 175 5 1) (lv' := [(5, .int (j + 1)), (4, .int (i + 1)), (6, .long p2), (10, .long ej), (8, .long ei), (3, .int m), (0, .ref 68), (1, .int a), (2, .int b)]) rfl rfl ?_
                refine hs (f := dm_goto 21) rfl rfl ?_
                have hdec : (rA (q.2.2.1 73) (a.toInt + 1) - (i + 1).toInt).toNat + (rA (q.2.2.1 73) (b.toInt + 1) - (j + 1).toInt).toNat < nn := by rw [e50, e52]; exact (tg_dec hms i2 j2).2.2
                exact (IH _ hdec).2.2.2 m (i + 1) (j + 1) p2 ei ej c94 c95 _ hM (by omega) (by omega) (by omega) (by omega) (by omega) (by intro z; have z1 := stI z; rw [e50]; exact ⟨(z1.1 h47).1, by rw [(z1.1 h47).2.1]; omega, (z1.1 h47).2.2⟩) (by intro z; have z1 := stJ z; rw [e52]; exact ⟨(z1.1 h51).1, by rw [(z1.1 h51).2.1]; omega, (z1.1 h51).2.2⟩) (by intro z; exact Or.inr (Or.inl ⟨i.toInt + 1, by omega, ((stI z).1 h47).1, ((stI z).1 h47).2.1.symm⟩)) (by omega) (Or.inl (by omega)) ⟨_, dd, hr2, by rw [e50, e52]; exact (tg_le hd9 i2 j2).2.2, by have z := hl2; rw [if_pos h47, if_pos h51] at z; rw [e50]; rw [e52]; exact z⟩ (tI_up hx2 (by omega)) (fun z => by have z1 := nab z; have z2 := m0.2.2 z; omega) rfl
          have j134 : ∀ (m : Int32) (c94 : Nat → Int64) (c95 : Nat → Int32) (ei ej : Int64) (M : dm_Mem), Rm X (sA (sB q 94 c94) 95 c95) M → (1 ≤ m.toInt ∧ m.toInt ≤ (i.toInt - rA (q.2.2.1 73) a.toInt) + (j.toInt - rA (q.2.2.1 73) b.toInt) + 1 ∧ (a = b → m.toInt ≤ i.toInt - rA (q.2.2.1 73) a.toInt + 1)) → (rowL c94 c95 m.toInt (layL l p (mxF ((q.2.2.1 70) i.toInt.toNat) ((q.2.2.1 70) j.toInt.toNat)))) → (tI (q.2.2.2 69) (rA (q.2.2.1 73) a.toInt) (rA (q.2.2.1 73) (a.toInt + 1)) (rA (q.2.2.1 73) b.toInt) (rA (q.2.2.1 73) (b.toInt + 1)) c94 m.toInt (p.toInt + 1)) → (ei = eF (q.2.2.2 69) i.toInt (rA (q.2.2.1 73) (a.toInt + 1))) → (ej = eF (q.2.2.2 69) j.toInt (rA (q.2.2.1 73) (b.toInt + 1))) → hG 1 cd_163 134 [(8, .long ei), (3, .int m), (4, .int i), (6, .long p), (10, .long e10), (5, .int j), (0, .ref 68), (1, .int a), (2, .int b)] [.long ej] M (fun r M' => r = none ∧ ∃ (n : Int32) (b92 b94 : Nat → Int64) (b93 b95 : Nat → Int32), wS b92 n.toInt ∧ n.toInt ≤ 24000 ∧ rowL b92 b93 n.toInt (tgL (q.2.2.2 69) (q.2.2.1 70) (rA (q.2.2.1 73) (a.toInt + 1)) (rA (q.2.2.1 73) (b.toInt + 1)) ((rA (q.2.2.1 73) (a.toInt + 1) - rA (q.2.2.1 73) a.toInt).toNat + (rA (q.2.2.1 73) (b.toInt + 1) - rA (q.2.2.1 73) b.toInt).toNat) (rA (q.2.2.1 73) a.toInt) (rA (q.2.2.1 73) b.toInt) 0 []) ∧ (∀ (i : Nat) (g : Int), dy i g → flat (seg (q.2.2.2 69) (rA (q.2.2.1 73) a.toInt)) (rA (q.2.2.1 73) (a.toInt + 1) - rA (q.2.2.1 73) a.toInt) g (2 ^ i) → flat (seg (q.2.2.2 69) (rA (q.2.2.1 73) b.toInt)) (rA (q.2.2.1 73) (b.toInt + 1) - rA (q.2.2.1 73) b.toInt) g (2 ^ i) → flat b92 n.toInt g (2 ^ i)) ∧ Rm X (sA (sA (sB (sB (sF q 29 n) 92 b92) 94 b94) 93 b93) 95 b95) M') := by
            intro m c94 c95 ei ej M hM m0 hr2 hx2 hei hej
            refine hs (f := dm_lst 136 10) (lv' := [(10, .long ej), (8, .long ei), (3, .int m), (4, .int i), (6, .long p), (5, .int j), (0, .ref 68), (1, .int a), (2, .int b)]) rfl rfl ?_
            refine hs (f := dm_lld 138 8) rfl rfl ?_
            refine hs (f := dm_lld 140 10) rfl rfl ?_
            refine g_lc_ge (x := ei) (y := ej) (m := 141) (n := 144) (tt := 149) rfl rfl (fun h53 => ?_) (fun h53 => ?_)
            · skip
              have h53 : ei.toInt ≥ ej.toInt := h53
              refine hs (f := dm_lld 151 10) rfl rfl ?_
              exact j151 m c94 c95 ei ej ej _ hM m0 hr2 hx2 hei hej (by rw [← hei, ← hej]; unfold mnF; rw [if_neg (by omega)])
            · skip
              have h53 : ei.toInt < ej.toInt := h53
              refine hs (f := dm_lld 146 8) rfl rfl ?_
              refine hs (f := dm_goto 151) rfl rfl ?_
              exact j151 m c94 c95 ei ej ei _ hM m0 hr2 hx2 hei hej (by rw [← hei, ← hej]; unfold mnF; rw [if_pos (by omega)])
          have j102 : ∀ (m : Int32) (c94 : Nat → Int64) (c95 : Nat → Int32) (ei : Int64) (M : dm_Mem), Rm X (sA (sB q 94 c94) 95 c95) M → (1 ≤ m.toInt ∧ m.toInt ≤ (i.toInt - rA (q.2.2.1 73) a.toInt) + (j.toInt - rA (q.2.2.1 73) b.toInt) + 1 ∧ (a = b → m.toInt ≤ i.toInt - rA (q.2.2.1 73) a.toInt + 1)) → (rowL c94 c95 m.toInt (layL l p (mxF ((q.2.2.1 70) i.toInt.toNat) ((q.2.2.1 70) j.toInt.toNat)))) → (tI (q.2.2.2 69) (rA (q.2.2.1 73) a.toInt) (rA (q.2.2.1 73) (a.toInt + 1)) (rA (q.2.2.1 73) b.toInt) (rA (q.2.2.1 73) (b.toInt + 1)) c94 m.toInt (p.toInt + 1)) → (ei = eF (q.2.2.2 69) i.toInt (rA (q.2.2.1 73) (a.toInt + 1))) → hG 1 cd_163 102 [(3, .int m), (4, .int i), (6, .long p), (10, .long e10), (8, .long e8), (5, .int j), (0, .ref 68), (1, .int a), (2, .int b)] [.long ei] M (fun r M' => r = none ∧ ∃ (n : Int32) (b92 b94 : Nat → Int64) (b93 b95 : Nat → Int32), wS b92 n.toInt ∧ n.toInt ≤ 24000 ∧ rowL b92 b93 n.toInt (tgL (q.2.2.2 69) (q.2.2.1 70) (rA (q.2.2.1 73) (a.toInt + 1)) (rA (q.2.2.1 73) (b.toInt + 1)) ((rA (q.2.2.1 73) (a.toInt + 1) - rA (q.2.2.1 73) a.toInt).toNat + (rA (q.2.2.1 73) (b.toInt + 1) - rA (q.2.2.1 73) b.toInt).toNat) (rA (q.2.2.1 73) a.toInt) (rA (q.2.2.1 73) b.toInt) 0 []) ∧ (∀ (i : Nat) (g : Int), dy i g → flat (seg (q.2.2.2 69) (rA (q.2.2.1 73) a.toInt)) (rA (q.2.2.1 73) (a.toInt + 1) - rA (q.2.2.1 73) a.toInt) g (2 ^ i) → flat (seg (q.2.2.2 69) (rA (q.2.2.1 73) b.toInt)) (rA (q.2.2.1 73) (b.toInt + 1) - rA (q.2.2.1 73) b.toInt) g (2 ^ i) → flat b92 n.toInt g (2 ^ i)) ∧ Rm X (sA (sA (sB (sB (sF q 29 n) 92 b92) 94 b94) 93 b93) 95 b95) M') := by
            intro m c94 c95 ei M hM m0 hr2 hx2 hei
            refine hs (f := dm_lst 104 8) (lv' := [(8, .long ei), (3, .int m), (4, .int i), (6, .long p), (10, .long e10), (5, .int j), (0, .ref 68), (1, .int a), (2, .int b)]) rfl rfl ?_
            refine hs (f := dm_ild 106 5) rfl rfl ?_
            refine hs (f := dm_push 107 (.int 1)) rfl rfl ?_
            have e54 : (j + (1 : Int32)).toInt = j.toInt + 1 := by have w := i_addc (x := j) (y := (1 : Int32)) 1 rfl (by omega) (by omega); omega
            refine hs (f := dm_ii 108 (fun x y => x + y)) (st' := [.int (j + (1 : Int32))]) rfl rfl ?_
            refine hs (f := dm_ald 109 0) rfl rfl ?_
            refine r_geta (c := 70) rfl hM rfl ?_
            refine hs (f := dm_ild 113 2) rfl rfl ?_
            refine hs (f := dm_push 114 (.int 1)) rfl rfl ?_
            have e55 : (b + (1 : Int32)).toInt = b.toInt + 1 := by have w := i_addc (x := b) (y := (1 : Int32)) 1 rfl (by omega) (by omega); omega
            refine hs (f := dm_ii 115 (fun x y => x + y)) (st' := [.int (b + (1 : Int32)), .ref 73, .int (j + (1 : Int32))]) rfl rfl ?_
            refine r_iald (L := 1001) (i := (b + (1 : Int32))) ((q.2.2.1 73) (b + (1 : Int32)).toInt.toNat) rfl hM rfl (by omega) rfl ?_
            generalize g57 : (q.2.2.1 73) (b + (1 : Int32)).toInt.toNat = v56
            have x58 : v56.toInt = rA (q.2.2.1 73) (b.toInt + 1) := rA_of (i := (b + (1 : Int32))) g57 e55
            refine g_ic_ge (n := 119) (tt := 131) rfl (fun h59 => ?_) (fun h59 => ?_)
            · skip
              have h59 : (j + (1 : Int32)).toInt ≥ v56.toInt := h59
              refine hs (f := dm_push 134 (.long 1152921504606846976)) rfl rfl ?_
              exact j134 m c94 c95 ei (1152921504606846976 : Int64) _ hM m0 hr2 hx2 hei (by unfold eF; rw [if_neg (by omega)])
            · skip
              have h59 : (j + (1 : Int32)).toInt < v56.toInt := h59
              refine hs (f := dm_ald 120 0) rfl rfl ?_
              refine r_geta (c := 66) rfl hM rfl ?_
              refine hs (f := dm_ild 125 5) rfl rfl ?_
              refine hs (f := dm_push 126 (.int 1)) rfl rfl ?_
              have e60 : (j + (1 : Int32)).toInt = j.toInt + 1 := by have w := i_addc (x := j) (y := (1 : Int32)) 1 rfl (by omega) (by omega); omega
              refine hs (f := dm_ii 127 (fun x y => x + y)) (st' := [.int (j + (1 : Int32)), .ref 69]) rfl rfl ?_
              refine r_lald (L := 24000) (i := (j + (1 : Int32))) ((q.2.2.2 69) (j + (1 : Int32)).toInt.toNat) rfl hM rfl (by omega) rfl ?_
              generalize g62 : (q.2.2.2 69) (j + (1 : Int32)).toInt.toNat = v61
              have x63 : v61.toInt = rB (q.2.2.2 69) (j.toInt + 1) := rB_of (i := (j + (1 : Int32))) g62 e60
              refine hs (f := dm_goto 134) rfl rfl ?_
              exact j134 m c94 c95 ei v61 _ hM m0 hr2 hx2 hei (by rw [← g62, e60]; unfold eF; rw [if_pos (by omega)])
          have j71 : ∀ (m : Int32) (c94 : Nat → Int64) (c95 : Nat → Int32) (M : dm_Mem), Rm X (sA (sB q 94 c94) 95 c95) M → (1 ≤ m.toInt ∧ m.toInt ≤ (i.toInt - rA (q.2.2.1 73) a.toInt) + (j.toInt - rA (q.2.2.1 73) b.toInt) + 1 ∧ (a = b → m.toInt ≤ i.toInt - rA (q.2.2.1 73) a.toInt + 1)) → (rowL c94 c95 m.toInt (layL l p (mxF ((q.2.2.1 70) i.toInt.toNat) ((q.2.2.1 70) j.toInt.toNat)))) → (tI (q.2.2.2 69) (rA (q.2.2.1 73) a.toInt) (rA (q.2.2.1 73) (a.toInt + 1)) (rA (q.2.2.1 73) b.toInt) (rA (q.2.2.1 73) (b.toInt + 1)) c94 m.toInt (p.toInt + 1)) → hG 1 cd_163 71 [(4, .int i), (6, .long p), (10, .long e10), (8, .long e8), (3, .int n), (5, .int j), (0, .ref 68), (1, .int a), (2, .int b)] [.int m] M (fun r M' => r = none ∧ ∃ (n : Int32) (b92 b94 : Nat → Int64) (b93 b95 : Nat → Int32), wS b92 n.toInt ∧ n.toInt ≤ 24000 ∧ rowL b92 b93 n.toInt (tgL (q.2.2.2 69) (q.2.2.1 70) (rA (q.2.2.1 73) (a.toInt + 1)) (rA (q.2.2.1 73) (b.toInt + 1)) ((rA (q.2.2.1 73) (a.toInt + 1) - rA (q.2.2.1 73) a.toInt).toNat + (rA (q.2.2.1 73) (b.toInt + 1) - rA (q.2.2.1 73) b.toInt).toNat) (rA (q.2.2.1 73) a.toInt) (rA (q.2.2.1 73) b.toInt) 0 []) ∧ (∀ (i : Nat) (g : Int), dy i g → flat (seg (q.2.2.2 69) (rA (q.2.2.1 73) a.toInt)) (rA (q.2.2.1 73) (a.toInt + 1) - rA (q.2.2.1 73) a.toInt) g (2 ^ i) → flat (seg (q.2.2.2 69) (rA (q.2.2.1 73) b.toInt)) (rA (q.2.2.1 73) (b.toInt + 1) - rA (q.2.2.1 73) b.toInt) g (2 ^ i) → flat b92 n.toInt g (2 ^ i)) ∧ Rm X (sA (sA (sB (sB (sF q 29 n) 92 b92) 94 b94) 93 b93) 95 b95) M') := by
            intro m c94 c95 M hM m0 hr2 hx2
            refine hs (f := dm_ist 72 3) (lv' := [(3, .int m), (4, .int i), (6, .long p), (10, .long e10), (8, .long e8), (5, .int j), (0, .ref 68), (1, .int a), (2, .int b)]) rfl rfl ?_
            refine hs (f := dm_ild 74 4) rfl rfl ?_
            refine hs (f := dm_push 75 (.int 1)) rfl rfl ?_
            have e64 : (i + (1 : Int32)).toInt = i.toInt + 1 := by have w := i_addc (x := i) (y := (1 : Int32)) 1 rfl (by omega) (by omega); omega
            refine hs (f := dm_ii 76 (fun x y => x + y)) (st' := [.int (i + (1 : Int32))]) rfl rfl ?_
            refine hs (f := dm_ald 77 0) rfl rfl ?_
            refine r_geta (c := 70) rfl hM rfl ?_
            refine hs (f := dm_ild 81 1) rfl rfl ?_
            refine hs (f := dm_push 82 (.int 1)) rfl rfl ?_
            have e65 : (a + (1 : Int32)).toInt = a.toInt + 1 := by have w := i_addc (x := a) (y := (1 : Int32)) 1 rfl (by omega) (by omega); omega
            refine hs (f := dm_ii 83 (fun x y => x + y)) (st' := [.int (a + (1 : Int32)), .ref 73, .int (i + (1 : Int32))]) rfl rfl ?_
            refine r_iald (L := 1001) (i := (a + (1 : Int32))) ((q.2.2.1 73) (a + (1 : Int32)).toInt.toNat) rfl hM rfl (by omega) rfl ?_
            generalize g67 : (q.2.2.1 73) (a + (1 : Int32)).toInt.toNat = v66
            have x68 : v66.toInt = rA (q.2.2.1 73) (a.toInt + 1) := rA_of (i := (a + (1 : Int32))) g67 e65
            refine g_ic_ge (n := 87) (tt := 99) rfl (fun h69 => ?_) (fun h69 => ?_)
            · skip
              have h69 : (i + (1 : Int32)).toInt ≥ v66.toInt := h69
              refine hs (f := dm_push 102 (.long 1152921504606846976)) rfl rfl ?_
              exact j102 m c94 c95 (1152921504606846976 : Int64) _ hM m0 hr2 hx2 (by unfold eF; rw [if_neg (by omega)])
            · skip
              have h69 : (i + (1 : Int32)).toInt < v66.toInt := h69
              refine hs (f := dm_ald 88 0) rfl rfl ?_
              refine r_geta (c := 66) rfl hM rfl ?_
              refine hs (f := dm_ild 93 4) rfl rfl ?_
              refine hs (f := dm_push 94 (.int 1)) rfl rfl ?_
              have e70 : (i + (1 : Int32)).toInt = i.toInt + 1 := by have w := i_addc (x := i) (y := (1 : Int32)) 1 rfl (by omega) (by omega); omega
              refine hs (f := dm_ii 95 (fun x y => x + y)) (st' := [.int (i + (1 : Int32)), .ref 69]) rfl rfl ?_
              refine r_lald (L := 24000) (i := (i + (1 : Int32))) ((q.2.2.2 69) (i + (1 : Int32)).toInt.toNat) rfl hM rfl (by omega) rfl ?_
              generalize g72 : (q.2.2.2 69) (i + (1 : Int32)).toInt.toNat = v71
              have x73 : v71.toInt = rB (q.2.2.2 69) (i.toInt + 1) := rB_of (i := (i + (1 : Int32))) g72 e70
              refine hs (f := dm_goto 102) rfl rfl ?_
              exact j102 m c94 c95 v71 _ hM m0 hr2 hx2 (by rw [← g72, e70]; unfold eF; rw [if_pos (by omega)])
          have j68 : ∀ (v : Int32) (M : dm_Mem), Rm X (sA (sB q 94 b94) 95 b95) M → (v = mxF ((q.2.2.1 70) i.toInt.toNat) ((q.2.2.1 70) j.toInt.toNat)) → hG 1 cd_163 68 [(4, .int i), (6, .long p), (10, .long e10), (8, .long e8), (3, .int n), (5, .int j), (0, .ref 68), (1, .int a), (2, .int b)] [.int v, .long p, .int n, .ref 68] M (fun r M' => r = none ∧ ∃ (n : Int32) (b92 b94 : Nat → Int64) (b93 b95 : Nat → Int32), wS b92 n.toInt ∧ n.toInt ≤ 24000 ∧ rowL b92 b93 n.toInt (tgL (q.2.2.2 69) (q.2.2.1 70) (rA (q.2.2.1 73) (a.toInt + 1)) (rA (q.2.2.1 73) (b.toInt + 1)) ((rA (q.2.2.1 73) (a.toInt + 1) - rA (q.2.2.1 73) a.toInt).toNat + (rA (q.2.2.1 73) (b.toInt + 1) - rA (q.2.2.1 73) b.toInt).toNat) (rA (q.2.2.1 73) a.toInt) (rA (q.2.2.1 73) b.toInt) 0 []) ∧ (∀ (i : Nat) (g : Int), dy i g → flat (seg (q.2.2.2 69) (rA (q.2.2.1 73) a.toInt)) (rA (q.2.2.1 73) (a.toInt + 1) - rA (q.2.2.1 73) a.toInt) g (2 ^ i) → flat (seg (q.2.2.2 69) (rA (q.2.2.1 73) b.toInt)) (rA (q.2.2.1 73) (b.toInt + 1) - rA (q.2.2.1 73) b.toInt) g (2 ^ i) → flat b92 n.toInt g (2 ^ i)) ∧ Rm X (sA (sA (sB (sB (sF q 29 n) 92 b92) 94 b94) 93 b93) 95 b95) M') := by
            intro v M hM hv
            refine r_inv rfl hM rfl (as := [.ref 68, .int n, .long p, .int v]) rfl (Nat.le_of_ble_eq_true rfl) (hT_mono (by decide) (r_148 hM n p v (by omega) (by rcases hlen with zz | zz <;> first | omega | (have zn := nab zz; omega))) (fun r1 M74 w => ?_))
            rcases w with ⟨rfl, rfl, un, uv⟩ | ⟨rfl, uv, hM74⟩
            · skip
              have uv : rA b95 (n.toInt - 1) = v.toInt := uv
              exact j71 n b94 b95 _ hM ⟨by omega, by omega, fun z => by have z1 := nab z; omega⟩ (by rw [← hv, rowL_skip hrw un uv]; exact hrw) (tI_up hx (by omega))
            · skip
              have uv : 0 < n.toInt → ¬ rA b95 (n.toInt - 1) = v.toInt := uv
              replace hM74 := rm_to (q' := (sA (sB q 94 (vp_updL b94 n.toInt.toNat p)) 95 (upd b95 n.toInt.toNat v))) hM74 (Eq.trans (congrArg (fun z => sA z 95 (upd b95 n.toInt.toNat v)) (show sB (sA (sB q 94 b94) 95 b95) 94 (vp_updL b94 n.toInt.toNat p) = (sA (sB q 94 (vp_updL b94 n.toInt.toNat p)) 95 b95) from (congrArg (fun z => (sA z 95 b95)) (show sB (sB q 94 b94) 94 (vp_updL b94 n.toInt.toNat p) = (sB q 94 (vp_updL b94 n.toInt.toNat p)) from sB_sB)))) (show sA (sA (sB q 94 (vp_updL b94 n.toInt.toNat p)) 95 b95) 95 (upd b95 n.toInt.toNat v) = (sA (sB q 94 (vp_updL b94 n.toInt.toNat p)) 95 (upd b95 n.toInt.toNat v)) from (show sA (sA (sB q 94 (vp_updL b94 n.toInt.toNat p)) 95 b95) 95 (upd b95 n.toInt.toNat v) = (sA (sB q 94 (vp_updL b94 n.toInt.toNat p)) 95 (upd b95 n.toInt.toNat v)) from sA_sA)))
              have e75 : (n + 1).toInt = n.toInt + 1 := i_addc 1 rfl (by omega) (by omega)
              exact j71 (n + 1) (vp_updL b94 n.toInt.toNat p) (upd b95 n.toInt.toNat v) _ hM74 ⟨by omega, by omega, fun z => by have z1 := nab z; omega⟩ (by rw [← hv, e75]; exact rowL_lay hrw (Int.toNat_of_nonneg n0.1).symm uv) (by rw [e75]; exact tI_lay hx (Int.toNat_of_nonneg n0.1).symm (Int.le_refl _) (Int.lt_add_one_of_le (Int.le_refl _)) (fun z => n1.elim (fun y => absurd y (by rw [z]; decide)) id) hpa)
          refine hs (f := dm_ald 31 0) rfl rfl ?_
          refine hs (f := dm_ild 32 3) rfl rfl ?_
          refine hs (f := dm_lld 34 6) rfl rfl ?_
          refine hs (f := dm_ald 35 0) rfl rfl ?_
          refine r_geta (c := 67) rfl hM rfl ?_
          refine hs (f := dm_ild 40 4) rfl rfl ?_
          refine r_iald (L := 24000) (i := i) ((q.2.2.1 70) i.toInt.toNat) rfl hM rfl (by omega) rfl ?_
          generalize g77 : (q.2.2.1 70) i.toInt.toNat = v76
          have x78 : v76.toInt = rA (q.2.2.1 70) i.toInt := rA_of (i := i) g77 rfl
          refine hs (f := dm_ald 42 0) rfl rfl ?_
          refine r_geta (c := 67) rfl hM rfl ?_
          refine hs (f := dm_ild 47 5) rfl rfl ?_
          refine r_iald (L := 24000) (i := j) ((q.2.2.1 70) j.toInt.toNat) rfl hM rfl (by omega) rfl ?_
          generalize g80 : (q.2.2.1 70) j.toInt.toNat = v79
          have x81 : v79.toInt = rA (q.2.2.1 70) j.toInt := rA_of (i := j) g80 rfl
          refine g_ic_le (n := 51) (tt := 61) rfl (fun h82 => ?_) (fun h82 => ?_)
          · skip
            have h82 : v76.toInt ≤ v79.toInt := h82
            refine hs (f := dm_ald 62 0) rfl rfl ?_
            refine r_geta (c := 67) rfl hM rfl ?_
            refine hs (f := dm_ild 67 5) rfl rfl ?_
            refine r_iald (L := 24000) (i := j) ((q.2.2.1 70) j.toInt.toNat) rfl hM rfl (by omega) rfl ?_
            generalize g84 : (q.2.2.1 70) j.toInt.toNat = v83
            have x85 : v83.toInt = rA (q.2.2.1 70) j.toInt := rA_of (i := j) g84 rfl
            exact j68 v83 _ hM (by rw [← g84]; exact (mx_r (by omega)).symm)
          · skip
            have h82 : v76.toInt > v79.toInt := h82
            refine hs (f := dm_ald 52 0) rfl rfl ?_
            refine r_geta (c := 67) rfl hM rfl ?_
            refine hs (f := dm_ild 57 4) rfl rfl ?_
            refine r_iald (L := 24000) (i := i) ((q.2.2.1 70) i.toInt.toNat) rfl hM rfl (by omega) rfl ?_
            generalize g87 : (q.2.2.1 70) i.toInt.toNat = v86
            have x88 : v86.toInt = rA (q.2.2.1 70) i.toInt := rA_of (i := i) g87 rfl
            refine hs (f := dm_goto 68) rfl rfl ?_
            exact j68 v86 _ hM (by rw [← g87]; exact (mx_l (by omega)).symm)
      · skip
        intro n i j p e8 e10 b94 b95 M hM i0 i1 j0 j1 p0 hpi hpj hpa n0 n1 hl hx nab hms
        refine hs (f := dm_lld 23 6) rfl rfl ?_
        refine hs (f := dm_push 26 (.long 1152921504606846976)) rfl rfl ?_
        refine g_lc_ge (x := p) (y := (1152921504606846976 : Int64)) (m := 27) (n := 30) (tt := 178) rfl rfl (fun h89 => ?_) (fun h89 => ?_)
        · skip
          have h89 : p.toInt ≥ 1152921504606846976 := h89
          refine hs (f := dm_ald 179 0) rfl rfl ?_
          refine hs (f := dm_ild 180 3) rfl rfl ?_
          obtain ⟨l, d9, hrw, hd9, hl2⟩ := hl
          rw [tg_end (by omega)] at hl2
          rw [hl2] at hrw
          refine r_inv rfl hM rfl (as := [.ref 68, .int n]) rfl (Nat.le_of_ble_eq_true rfl) (hT_mono (by decide) (r_149 hM n (by omega) (by rcases hlen with zz | zz <;> first | omega | (have zn := nab zz; omega))) (fun r1 M90 w => ?_))
          obtain ⟨rfl, b1, b2, hb, hM90⟩ := w
          replace hM90 := rm_to (q' := (sA (sA (sB (sB (sF q 29 n) 92 b1) 94 b94) 93 b2) 95 b95)) hM90 (Eq.trans (congrArg (fun z => sA z 93 b2) (Eq.trans (congrArg (fun z => sB z 92 b1) (show sF (sA (sB q 94 b94) 95 b95) 29 n = (sA (sB (sF q 29 n) 94 b94) 95 b95) from (congrArg (fun z => (sA (sB z 94 b94) 95 b95)) (show sF q 29 n = (sF q 29 n) from rfl)))) (show sB (sA (sB (sF q 29 n) 94 b94) 95 b95) 92 b1 = (sA (sB (sB (sF q 29 n) 92 b1) 94 b94) 95 b95) from (congrArg (fun z => (sA z 95 b95)) (show sB (sB (sF q 29 n) 94 b94) 92 b1 = (sB (sB (sF q 29 n) 92 b1) 94 b94) from Eq.trans (show sB (sB (sF q 29 n) 94 b94) 92 b1 = sB (sB (sF q 29 n) 92 b1) 94 b94 from sB_cm (by decide)) (congrArg (fun z => sB z 94 b94) (show sB (sF q 29 n) 92 b1 = (sB (sF q 29 n) 92 b1) from rfl))))))) (show sA (sA (sB (sB (sF q 29 n) 92 b1) 94 b94) 95 b95) 93 b2 = (sA (sA (sB (sB (sF q 29 n) 92 b1) 94 b94) 93 b2) 95 b95) from (show sA (sA (sB (sB (sF q 29 n) 92 b1) 94 b94) 95 b95) 93 b2 = (sA (sA (sB (sB (sF q 29 n) 92 b1) 94 b94) 93 b2) 95 b95) from Eq.trans (show sA (sA (sB (sB (sF q 29 n) 92 b1) 94 b94) 95 b95) 93 b2 = sA (sA (sB (sB (sF q 29 n) 92 b1) 94 b94) 93 b2) 95 b95 from sA_cm (by decide)) (congrArg (fun z => sA z 95 b95) (show sA (sB (sB (sF q 29 n) 92 b1) 94 b94) 93 b2 = (sA (sB (sB (sF q 29 n) 92 b1) 94 b94) 93 b2) from rfl)))))
          exact hr (f := dm_vret) rfl rfl (⟨rfl, n, b1, b94, b2, b95, tI_wS (tI_up hx (by omega)) (by omega) (fun i i0 i1 => (hb i i0 i1).1), (by rcases hlen with zz | zz <;> first | omega | (have zn := nab zz; omega)), ⟨hrw.1, fun k z hk => by
                have hk2 := (List.getElem?_eq_some_iff.mp hk).1
                have hk3 := hrw.1
                have hb2 := hb k (by omega) (by omega)
                have hb3 := hrw.2 k z hk
                exact ⟨hb2.1.trans hb3.1, hb2.2.trans hb3.2⟩⟩, tI_flat (tI_up hx (by omega)) (fun i i0 i1 => (hb i i0 i1).1), hM90⟩)
        · skip
          have h89 : p.toInt < 1152921504606846976 := h89
          obtain ⟨i2, i3, i4⟩ := hpi (by omega)
          obtain ⟨j2, j3, j4⟩ := hpj (by omega)
          have hpa := hpa (by omega)
          obtain ⟨l, d9, hrw, hd9, hl2⟩ := hl
          obtain ⟨dd, rfl⟩ : ∃ dd, d9 = dd + 1 := ⟨d9 - 1, by omega⟩
          rw [tg_go (by omega)] at hl2
          have ega := eF_gt hwa i0 i2
          have egb := eF_gt hwb j0 j2
          have j151 : ∀ (m : Int32) (c94 : Nat → Int64) (c95 : Nat → Int32) (ei ej p2 : Int64) (M : dm_Mem), Rm X (sA (sB q 94 c94) 95 c95) M → (1 ≤ m.toInt ∧ m.toInt ≤ (i.toInt - rA (q.2.2.1 73) a.toInt) + (j.toInt - rA (q.2.2.1 73) b.toInt) + 1 ∧ (a = b → m.toInt ≤ i.toInt - rA (q.2.2.1 73) a.toInt + 1)) → (rowL c94 c95 m.toInt (layL l p (mxF ((q.2.2.1 70) i.toInt.toNat) ((q.2.2.1 70) j.toInt.toNat)))) → (tI (q.2.2.2 69) (rA (q.2.2.1 73) a.toInt) (rA (q.2.2.1 73) (a.toInt + 1)) (rA (q.2.2.1 73) b.toInt) (rA (q.2.2.1 73) (b.toInt + 1)) c94 m.toInt (p.toInt + 1)) → (ei = eF (q.2.2.2 69) i.toInt (rA (q.2.2.1 73) (a.toInt + 1))) → (ej = eF (q.2.2.2 69) j.toInt (rA (q.2.2.1 73) (b.toInt + 1))) → (p2 = mnF (eF (q.2.2.2 69) i.toInt (rA (q.2.2.1 73) (a.toInt + 1))) (eF (q.2.2.2 69) j.toInt (rA (q.2.2.1 73) (b.toInt + 1)))) → hG 1 cd_163 151 [(10, .long ej), (8, .long ei), (3, .int m), (5, .int j), (6, .long p), (4, .int i), (0, .ref 68), (1, .int a), (2, .int b)] [.long p2] M (fun r M' => r = none ∧ ∃ (n : Int32) (b92 b94 : Nat → Int64) (b93 b95 : Nat → Int32), wS b92 n.toInt ∧ n.toInt ≤ 24000 ∧ rowL b92 b93 n.toInt (tgL (q.2.2.2 69) (q.2.2.1 70) (rA (q.2.2.1 73) (a.toInt + 1)) (rA (q.2.2.1 73) (b.toInt + 1)) ((rA (q.2.2.1 73) (a.toInt + 1) - rA (q.2.2.1 73) a.toInt).toNat + (rA (q.2.2.1 73) (b.toInt + 1) - rA (q.2.2.1 73) b.toInt).toNat) (rA (q.2.2.1 73) a.toInt) (rA (q.2.2.1 73) b.toInt) 0 []) ∧ (∀ (i : Nat) (g : Int), dy i g → flat (seg (q.2.2.2 69) (rA (q.2.2.1 73) a.toInt)) (rA (q.2.2.1 73) (a.toInt + 1) - rA (q.2.2.1 73) a.toInt) g (2 ^ i) → flat (seg (q.2.2.2 69) (rA (q.2.2.1 73) b.toInt)) (rA (q.2.2.1 73) (b.toInt + 1) - rA (q.2.2.1 73) b.toInt) g (2 ^ i) → flat b92 n.toInt g (2 ^ i)) ∧ Rm X (sA (sA (sB (sB (sF q 29 n) 92 b92) 94 b94) 93 b93) 95 b95) M') := by
            intro m c94 c95 ei ej p2 M hM m0 hr2 hx2 hei hej hp2
            have hmn := mnF_int (eF (q.2.2.2 69) i.toInt (rA (q.2.2.1 73) (a.toInt + 1))) (eF (q.2.2.2 69) j.toInt (rA (q.2.2.1 73) (b.toInt + 1)))
            rw [← hei, ← hej] at hmn
            rw [← hei] at ega i4
            rw [← hej] at egb j4
            rw [← hei, ← hej] at hp2
            rw [← hp2] at hmn
            rw [← hei, ← hej, ← hp2] at hl2
            have stI : p2.toInt < 1152921504606846976 → _ := fun z => eF_step (p := p.toInt) (p2 := p2.toInt) hwa i0 i2 i3 (by omega) (by rw [← hei]; omega) z
            have stJ : p2.toInt < 1152921504606846976 → _ := fun z => eF_step (p := p.toInt) (p2 := p2.toInt) hwb j0 j2 j3 (by omega) (by rw [← hej]; omega) z
            rw [← hei] at stI
            rw [← hej] at stJ
            refine hs (f := dm_lst 153 6) (lv' := [(6, .long p2), (10, .long ej), (8, .long ei), (3, .int m), (5, .int j), (4, .int i), (0, .ref 68), (1, .int a), (2, .int b)]) rfl rfl ?_
            refine hs (f := dm_lld 155 8) rfl rfl ?_
            refine hs (f := dm_lld 157 6) rfl rfl ?_
            refine g_lc_ne (x := ei) (y := p2) (m := 158) (n := 161) (tt := 164) rfl rfl (fun h91 => ?_) (fun h91 => ?_)
            · skip
              have h91 : ¬ ei.toInt = p2.toInt := h91
              refine hs (f := dm_lld 166 10) rfl rfl ?_
              refine hs (f := dm_lld 168 6) rfl rfl ?_
              refine g_lc_ne (x := ej) (y := p2) (m := 169) (n := 172) (tt := 175) rfl rfl (fun h92 => ?_) (fun h92 => ?_)
              · skip
                have h92 : ¬ ej.toInt = p2.toInt := h92
                refine hs (f := dm_goto 21) rfl rfl ?_
                exfalso
                omega
              · skip
                have h92 : ej.toInt = p2.toInt := h92
                have e93 : (j + 1).toInt = j.toInt + 1 := by have w := i_addc (x := j) (y := 1) 1 rfl (by omega) (by omega); omega
                refine hs (f := dm_iinc 175 5 1) (lv' := [(5, .int (j + 1)), (6, .long p2), (10, .long ej), (8, .long ei), (3, .int m), (4, .int i), (0, .ref 68), (1, .int a), (2, .int b)]) rfl rfl ?_
                refine hs (f := dm_goto 21) rfl rfl ?_
                have hdec : (rA (q.2.2.1 73) (a.toInt + 1) - i.toInt).toNat + (rA (q.2.2.1 73) (b.toInt + 1) - (j + 1).toInt).toNat < nn := by rw [e93]; exact (tg_dec hms i2 j2).2.1
                exact (IH _ hdec).2.2.1 m i (j + 1) p2 ei ej c94 c95 _ hM (by omega) (by omega) (by omega) (by omega) (by omega) (by intro z; have z1 := stI z; exact ⟨by omega, (z1.2 h91).1, by rw [← hei]; exact (z1.2 h91).2⟩) (by intro z; have z1 := stJ z; rw [e93]; exact ⟨(z1.1 h92).1, by rw [(z1.1 h92).2.1]; omega, (z1.1 h92).2.2⟩) (by intro z; exact Or.inr (Or.inr ⟨j.toInt + 1, by omega, ((stJ z).1 h92).1, ((stJ z).1 h92).2.1.symm⟩)) (by omega) (Or.inl (by omega)) ⟨_, dd, hr2, by rw [e93]; exact (tg_le hd9 i2 j2).2.1, by have z := hl2; rw [if_neg h91, if_pos h92] at z; rw [e93]; exact z⟩ (tI_up hx2 (by omega)) (fun z => absurd (show ei.toInt = ej.toInt by rw [hei, hej, (nab z).1, z]) (by omega)) rfl
            · skip
              have h91 : ei.toInt = p2.toInt := h91
              have e94 : (i + 1).toInt = i.toInt + 1 := by have w := i_addc (x := i) (y := 1) 1 rfl (by omega) (by omega); omega
              refine hs (f := dm_iinc 164 4 1) (lv' := [(4, .int (i + 1)), (6, .long p2), (10, .long ej), (8, .long ei), (3, .int m), (5, .int j), (0, .ref 68), (1, .int a), (2, .int b)]) rfl rfl ?_
              refine hs (f := dm_lld 166 10) rfl rfl ?_
              refine hs (f := dm_lld 168 6) rfl rfl ?_
              refine g_lc_ne (x := ej) (y := p2) (m := 169) (n := 172) (tt := 175) rfl rfl (fun h95 => ?_) (fun h95 => ?_)
              · skip
                have h95 : ¬ ej.toInt = p2.toInt := h95
                refine hs (f := dm_goto 21) rfl rfl ?_
                have hdec : (rA (q.2.2.1 73) (a.toInt + 1) - (i + 1).toInt).toNat + (rA (q.2.2.1 73) (b.toInt + 1) - j.toInt).toNat < nn := by rw [e94]; exact (tg_dec hms i2 j2).1
                exact (IH _ hdec).2.1 m (i + 1) j p2 ei ej c94 c95 _ hM (by omega) (by omega) (by omega) (by omega) (by omega) (by intro z; have z1 := stI z; rw [e94]; exact ⟨(z1.1 h91).1, by rw [(z1.1 h91).2.1]; omega, (z1.1 h91).2.2⟩) (by intro z; have z1 := stJ z; exact ⟨by omega, (z1.2 h95).1, by rw [← hej]; exact (z1.2 h95).2⟩) (by intro z; exact Or.inr (Or.inl ⟨i.toInt + 1, by omega, ((stI z).1 h91).1, ((stI z).1 h91).2.1.symm⟩)) (by omega) (Or.inl (by omega)) ⟨_, dd, hr2, by rw [e94]; exact (tg_le hd9 i2 j2).1, by have z := hl2; rw [if_pos h91, if_neg h95] at z; rw [e94]; exact z⟩ (tI_up hx2 (by omega)) (fun z => absurd (show ei.toInt = ej.toInt by rw [hei, hej, (nab z).1, z]) (by omega)) rfl
              · skip
                have h95 : ej.toInt = p2.toInt := h95
                have e96 : (j + 1).toInt = j.toInt + 1 := by have w := i_addc (x := j) (y := 1) 1 rfl (by omega) (by omega); omega
                refine hs (f := dm_iinc 175 5 1) (lv' := [(5, .int (j + 1)), (4, .int (i + 1)), (6, .long p2), (10, .long ej), (8, .long ei), (3, .int m), (0, .ref 68), (1, .int a), (2, .int b)]) rfl rfl ?_
                refine hs (f := dm_goto 21) rfl rfl ?_
                have hdec : (rA (q.2.2.1 73) (a.toInt + 1) - (i + 1).toInt).toNat + (rA (q.2.2.1 73) (b.toInt + 1) - (j + 1).toInt).toNat < nn := by rw [e94, e96]; exact (tg_dec hms i2 j2).2.2
                exact (IH _ hdec).2.2.2 m (i + 1) (j + 1) p2 ei ej c94 c95 _ hM (by omega) (by omega) (by omega) (by omega) (by omega) (by intro z; have z1 := stI z; rw [e94]; exact ⟨(z1.1 h91).1, by rw [(z1.1 h91).2.1]; omega, (z1.1 h91).2.2⟩) (by intro z; have z1 := stJ z; rw [e96]; exact ⟨(z1.1 h95).1, by rw [(z1.1 h95).2.1]; omega, (z1.1 h95).2.2⟩) (by intro z; exact Or.inr (Or.inl ⟨i.toInt + 1, by omega, ((stI z).1 h91).1, ((stI z).1 h91).2.1.symm⟩)) (by omega) (Or.inl (by omega)) ⟨_, dd, hr2, by rw [e94, e96]; exact (tg_le hd9 i2 j2).2.2, by have z := hl2; rw [if_pos h91, if_pos h95] at z; rw [e94]; rw [e96]; exact z⟩ (tI_up hx2 (by omega)) (fun z => by have z1 := nab z; have z2 := m0.2.2 z; omega) rfl
          have j134 : ∀ (m : Int32) (c94 : Nat → Int64) (c95 : Nat → Int32) (ei ej : Int64) (M : dm_Mem), Rm X (sA (sB q 94 c94) 95 c95) M → (1 ≤ m.toInt ∧ m.toInt ≤ (i.toInt - rA (q.2.2.1 73) a.toInt) + (j.toInt - rA (q.2.2.1 73) b.toInt) + 1 ∧ (a = b → m.toInt ≤ i.toInt - rA (q.2.2.1 73) a.toInt + 1)) → (rowL c94 c95 m.toInt (layL l p (mxF ((q.2.2.1 70) i.toInt.toNat) ((q.2.2.1 70) j.toInt.toNat)))) → (tI (q.2.2.2 69) (rA (q.2.2.1 73) a.toInt) (rA (q.2.2.1 73) (a.toInt + 1)) (rA (q.2.2.1 73) b.toInt) (rA (q.2.2.1 73) (b.toInt + 1)) c94 m.toInt (p.toInt + 1)) → (ei = eF (q.2.2.2 69) i.toInt (rA (q.2.2.1 73) (a.toInt + 1))) → (ej = eF (q.2.2.2 69) j.toInt (rA (q.2.2.1 73) (b.toInt + 1))) → hG 1 cd_163 134 [(8, .long ei), (3, .int m), (5, .int j), (6, .long p), (10, .long e10), (4, .int i), (0, .ref 68), (1, .int a), (2, .int b)] [.long ej] M (fun r M' => r = none ∧ ∃ (n : Int32) (b92 b94 : Nat → Int64) (b93 b95 : Nat → Int32), wS b92 n.toInt ∧ n.toInt ≤ 24000 ∧ rowL b92 b93 n.toInt (tgL (q.2.2.2 69) (q.2.2.1 70) (rA (q.2.2.1 73) (a.toInt + 1)) (rA (q.2.2.1 73) (b.toInt + 1)) ((rA (q.2.2.1 73) (a.toInt + 1) - rA (q.2.2.1 73) a.toInt).toNat + (rA (q.2.2.1 73) (b.toInt + 1) - rA (q.2.2.1 73) b.toInt).toNat) (rA (q.2.2.1 73) a.toInt) (rA (q.2.2.1 73) b.toInt) 0 []) ∧ (∀ (i : Nat) (g : Int), dy i g → flat (seg (q.2.2.2 69) (rA (q.2.2.1 73) a.toInt)) (rA (q.2.2.1 73) (a.toInt + 1) - rA (q.2.2.1 73) a.toInt) g (2 ^ i) → flat (seg (q.2.2.2 69) (rA (q.2.2.1 73) b.toInt)) (rA (q.2.2.1 73) (b.toInt + 1) - rA (q.2.2.1 73) b.toInt) g (2 ^ i) → flat b92 n.toInt g (2 ^ i)) ∧ Rm X (sA (sA (sB (sB (sF q 29 n) 92 b92) 94 b94) 93 b93) 95 b95) M') := by
            intro m c94 c95 ei ej M hM m0 hr2 hx2 hei hej
            refine hs (f := dm_lst 136 10) (lv' := [(10, .long ej), (8, .long ei), (3, .int m), (5, .int j), (6, .long p), (4, .int i), (0, .ref 68), (1, .int a), (2, .int b)]) rfl rfl ?_
            refine hs (f := dm_lld 138 8) rfl rfl ?_
            refine hs (f := dm_lld 140 10) rfl rfl ?_
            refine g_lc_ge (x := ei) (y := ej) (m := 141) (n := 144) (tt := 149) rfl rfl (fun h97 => ?_) (fun h97 => ?_)
            · skip
              have h97 : ei.toInt ≥ ej.toInt := h97
              refine hs (f := dm_lld 151 10) rfl rfl ?_
              exact j151 m c94 c95 ei ej ej _ hM m0 hr2 hx2 hei hej (by rw [← hei, ← hej]; unfold mnF; rw [if_neg (by omega)])
            · skip
              have h97 : ei.toInt < ej.toInt := h97
              refine hs (f := dm_lld 146 8) rfl rfl ?_
              refine hs (f := dm_goto 151) rfl rfl ?_
              exact j151 m c94 c95 ei ej ei _ hM m0 hr2 hx2 hei hej (by rw [← hei, ← hej]; unfold mnF; rw [if_pos (by omega)])
          have j102 : ∀ (m : Int32) (c94 : Nat → Int64) (c95 : Nat → Int32) (ei : Int64) (M : dm_Mem), Rm X (sA (sB q 94 c94) 95 c95) M → (1 ≤ m.toInt ∧ m.toInt ≤ (i.toInt - rA (q.2.2.1 73) a.toInt) + (j.toInt - rA (q.2.2.1 73) b.toInt) + 1 ∧ (a = b → m.toInt ≤ i.toInt - rA (q.2.2.1 73) a.toInt + 1)) → (rowL c94 c95 m.toInt (layL l p (mxF ((q.2.2.1 70) i.toInt.toNat) ((q.2.2.1 70) j.toInt.toNat)))) → (tI (q.2.2.2 69) (rA (q.2.2.1 73) a.toInt) (rA (q.2.2.1 73) (a.toInt + 1)) (rA (q.2.2.1 73) b.toInt) (rA (q.2.2.1 73) (b.toInt + 1)) c94 m.toInt (p.toInt + 1)) → (ei = eF (q.2.2.2 69) i.toInt (rA (q.2.2.1 73) (a.toInt + 1))) → hG 1 cd_163 102 [(3, .int m), (5, .int j), (6, .long p), (10, .long e10), (8, .long e8), (4, .int i), (0, .ref 68), (1, .int a), (2, .int b)] [.long ei] M (fun r M' => r = none ∧ ∃ (n : Int32) (b92 b94 : Nat → Int64) (b93 b95 : Nat → Int32), wS b92 n.toInt ∧ n.toInt ≤ 24000 ∧ rowL b92 b93 n.toInt (tgL (q.2.2.2 69) (q.2.2.1 70) (rA (q.2.2.1 73) (a.toInt + 1)) (rA (q.2.2.1 73) (b.toInt + 1)) ((rA (q.2.2.1 73) (a.toInt + 1) - rA (q.2.2.1 73) a.toInt).toNat + (rA (q.2.2.1 73) (b.toInt + 1) - rA (q.2.2.1 73) b.toInt).toNat) (rA (q.2.2.1 73) a.toInt) (rA (q.2.2.1 73) b.toInt) 0 []) ∧ (∀ (i : Nat) (g : Int), dy i g → flat (seg (q.2.2.2 69) (rA (q.2.2.1 73) a.toInt)) (rA (q.2.2.1 73) (a.toInt + 1) - rA (q.2.2.1 73) a.toInt) g (2 ^ i) → flat (seg (q.2.2.2 69) (rA (q.2.2.1 73) b.toInt)) (rA (q.2.2.1 73) (b.toInt + 1) - rA (q.2.2.1 73) b.toInt) g (2 ^ i) → flat b92 n.toInt g (2 ^ i)) ∧ Rm X (sA (sA (sB (sB (sF q 29 n) 92 b92) 94 b94) 93 b93) 95 b95) M') := by
            intro m c94 c95 ei M hM m0 hr2 hx2 hei
            refine hs (f := dm_lst 104 8) (lv' := [(8, .long ei), (3, .int m), (5, .int j), (6, .long p), (10, .long e10), (4, .int i), (0, .ref 68), (1, .int a), (2, .int b)]) rfl rfl ?_
            refine hs (f := dm_ild 106 5) rfl rfl ?_
            refine hs (f := dm_push 107 (.int 1)) rfl rfl ?_
            have e98 : (j + (1 : Int32)).toInt = j.toInt + 1 := by have w := i_addc (x := j) (y := (1 : Int32)) 1 rfl (by omega) (by omega); omega
            refine hs (f := dm_ii 108 (fun x y => x + y)) (st' := [.int (j + (1 : Int32))]) rfl rfl ?_
            refine hs (f := dm_ald 109 0) rfl rfl ?_
            refine r_geta (c := 70) rfl hM rfl ?_
            refine hs (f := dm_ild 113 2) rfl rfl ?_
            refine hs (f := dm_push 114 (.int 1)) rfl rfl ?_
            have e99 : (b + (1 : Int32)).toInt = b.toInt + 1 := by have w := i_addc (x := b) (y := (1 : Int32)) 1 rfl (by omega) (by omega); omega
            refine hs (f := dm_ii 115 (fun x y => x + y)) (st' := [.int (b + (1 : Int32)), .ref 73, .int (j + (1 : Int32))]) rfl rfl ?_
            refine r_iald (L := 1001) (i := (b + (1 : Int32))) ((q.2.2.1 73) (b + (1 : Int32)).toInt.toNat) rfl hM rfl (by omega) rfl ?_
            generalize g101 : (q.2.2.1 73) (b + (1 : Int32)).toInt.toNat = v100
            have x102 : v100.toInt = rA (q.2.2.1 73) (b.toInt + 1) := rA_of (i := (b + (1 : Int32))) g101 e99
            refine g_ic_ge (n := 119) (tt := 131) rfl (fun h103 => ?_) (fun h103 => ?_)
            · skip
              have h103 : (j + (1 : Int32)).toInt ≥ v100.toInt := h103
              refine hs (f := dm_push 134 (.long 1152921504606846976)) rfl rfl ?_
              exact j134 m c94 c95 ei (1152921504606846976 : Int64) _ hM m0 hr2 hx2 hei (by unfold eF; rw [if_neg (by omega)])
            · skip
              have h103 : (j + (1 : Int32)).toInt < v100.toInt := h103
              refine hs (f := dm_ald 120 0) rfl rfl ?_
              refine r_geta (c := 66) rfl hM rfl ?_
              refine hs (f := dm_ild 125 5) rfl rfl ?_
              refine hs (f := dm_push 126 (.int 1)) rfl rfl ?_
              have e104 : (j + (1 : Int32)).toInt = j.toInt + 1 := by have w := i_addc (x := j) (y := (1 : Int32)) 1 rfl (by omega) (by omega); omega
              refine hs (f := dm_ii 127 (fun x y => x + y)) (st' := [.int (j + (1 : Int32)), .ref 69]) rfl rfl ?_
              refine r_lald (L := 24000) (i := (j + (1 : Int32))) ((q.2.2.2 69) (j + (1 : Int32)).toInt.toNat) rfl hM rfl (by omega) rfl ?_
              generalize g106 : (q.2.2.2 69) (j + (1 : Int32)).toInt.toNat = v105
              have x107 : v105.toInt = rB (q.2.2.2 69) (j.toInt + 1) := rB_of (i := (j + (1 : Int32))) g106 e104
              refine hs (f := dm_goto 134) rfl rfl ?_
              exact j134 m c94 c95 ei v105 _ hM m0 hr2 hx2 hei (by rw [← g106, e104]; unfold eF; rw [if_pos (by omega)])
          have j71 : ∀ (m : Int32) (c94 : Nat → Int64) (c95 : Nat → Int32) (M : dm_Mem), Rm X (sA (sB q 94 c94) 95 c95) M → (1 ≤ m.toInt ∧ m.toInt ≤ (i.toInt - rA (q.2.2.1 73) a.toInt) + (j.toInt - rA (q.2.2.1 73) b.toInt) + 1 ∧ (a = b → m.toInt ≤ i.toInt - rA (q.2.2.1 73) a.toInt + 1)) → (rowL c94 c95 m.toInt (layL l p (mxF ((q.2.2.1 70) i.toInt.toNat) ((q.2.2.1 70) j.toInt.toNat)))) → (tI (q.2.2.2 69) (rA (q.2.2.1 73) a.toInt) (rA (q.2.2.1 73) (a.toInt + 1)) (rA (q.2.2.1 73) b.toInt) (rA (q.2.2.1 73) (b.toInt + 1)) c94 m.toInt (p.toInt + 1)) → hG 1 cd_163 71 [(5, .int j), (6, .long p), (10, .long e10), (8, .long e8), (3, .int n), (4, .int i), (0, .ref 68), (1, .int a), (2, .int b)] [.int m] M (fun r M' => r = none ∧ ∃ (n : Int32) (b92 b94 : Nat → Int64) (b93 b95 : Nat → Int32), wS b92 n.toInt ∧ n.toInt ≤ 24000 ∧ rowL b92 b93 n.toInt (tgL (q.2.2.2 69) (q.2.2.1 70) (rA (q.2.2.1 73) (a.toInt + 1)) (rA (q.2.2.1 73) (b.toInt + 1)) ((rA (q.2.2.1 73) (a.toInt + 1) - rA (q.2.2.1 73) a.toInt).toNat + (rA (q.2.2.1 73) (b.toInt + 1) - rA (q.2.2.1 73) b.toInt).toNat) (rA (q.2.2.1 73) a.toInt) (rA (q.2.2.1 73) b.toInt) 0 []) ∧ (∀ (i : Nat) (g : Int), dy i g → flat (seg (q.2.2.2 69) (rA (q.2.2.1 73) a.toInt)) (rA (q.2.2.1 73) (a.toInt + 1) - rA (q.2.2.1 73) a.toInt) g (2 ^ i) → flat (seg (q.2.2.2 69) (rA (q.2.2.1 73) b.toInt)) (rA (q.2.2.1 73) (b.toInt + 1) - rA (q.2.2.1 73) b.toInt) g (2 ^ i) → flat b92 n.toInt g (2 ^ i)) ∧ Rm X (sA (sA (sB (sB (sF q 29 n) 92 b92) 94 b94) 93 b93) 95 b95) M') := by
            intro m c94 c95 M hM m0 hr2 hx2
            refine hs (f := dm_ist 72 3) (lv' := [(3, .int m), (5, .int j), (6, .long p), (10, .long e10), (8, .long e8), (4, .int i), (0, .ref 68), (1, .int a), (2, .int b)]) rfl rfl ?_
            refine hs (f := dm_ild 74 4) rfl rfl ?_
            refine hs (f := dm_push 75 (.int 1)) rfl rfl ?_
            have e108 : (i + (1 : Int32)).toInt = i.toInt + 1 := by have w := i_addc (x := i) (y := (1 : Int32)) 1 rfl (by omega) (by omega); omega
            refine hs (f := dm_ii 76 (fun x y => x + y)) (st' := [.int (i + (1 : Int32))]) rfl rfl ?_
            refine hs (f := dm_ald 77 0) rfl rfl ?_
            refine r_geta (c := 70) rfl hM rfl ?_
            refine hs (f := dm_ild 81 1) rfl rfl ?_
            refine hs (f := dm_push 82 (.int 1)) rfl rfl ?_
            have e109 : (a + (1 : Int32)).toInt = a.toInt + 1 := by have w := i_addc (x := a) (y := (1 : Int32)) 1 rfl (by omega) (by omega); omega
            refine hs (f := dm_ii 83 (fun x y => x + y)) (st' := [.int (a + (1 : Int32)), .ref 73, .int (i + (1 : Int32))]) rfl rfl ?_
            refine r_iald (L := 1001) (i := (a + (1 : Int32))) ((q.2.2.1 73) (a + (1 : Int32)).toInt.toNat) rfl hM rfl (by omega) rfl ?_
            generalize g111 : (q.2.2.1 73) (a + (1 : Int32)).toInt.toNat = v110
            have x112 : v110.toInt = rA (q.2.2.1 73) (a.toInt + 1) := rA_of (i := (a + (1 : Int32))) g111 e109
            refine g_ic_ge (n := 87) (tt := 99) rfl (fun h113 => ?_) (fun h113 => ?_)
            · skip
              have h113 : (i + (1 : Int32)).toInt ≥ v110.toInt := h113
              refine hs (f := dm_push 102 (.long 1152921504606846976)) rfl rfl ?_
              exact j102 m c94 c95 (1152921504606846976 : Int64) _ hM m0 hr2 hx2 (by unfold eF; rw [if_neg (by omega)])
            · skip
              have h113 : (i + (1 : Int32)).toInt < v110.toInt := h113
              refine hs (f := dm_ald 88 0) rfl rfl ?_
              refine r_geta (c := 66) rfl hM rfl ?_
              refine hs (f := dm_ild 93 4) rfl rfl ?_
              refine hs (f := dm_push 94 (.int 1)) rfl rfl ?_
              have e114 : (i + (1 : Int32)).toInt = i.toInt + 1 := by have w := i_addc (x := i) (y := (1 : Int32)) 1 rfl (by omega) (by omega); omega
              refine hs (f := dm_ii 95 (fun x y => x + y)) (st' := [.int (i + (1 : Int32)), .ref 69]) rfl rfl ?_
              refine r_lald (L := 24000) (i := (i + (1 : Int32))) ((q.2.2.2 69) (i + (1 : Int32)).toInt.toNat) rfl hM rfl (by omega) rfl ?_
              generalize g116 : (q.2.2.2 69) (i + (1 : Int32)).toInt.toNat = v115
              have x117 : v115.toInt = rB (q.2.2.2 69) (i.toInt + 1) := rB_of (i := (i + (1 : Int32))) g116 e114
              refine hs (f := dm_goto 102) rfl rfl ?_
              exact j102 m c94 c95 v115 _ hM m0 hr2 hx2 (by rw [← g116, e114]; unfold eF; rw [if_pos (by omega)])
          have j68 : ∀ (v : Int32) (M : dm_Mem), Rm X (sA (sB q 94 b94) 95 b95) M → (v = mxF ((q.2.2.1 70) i.toInt.toNat) ((q.2.2.1 70) j.toInt.toNat)) → hG 1 cd_163 68 [(5, .int j), (6, .long p), (10, .long e10), (8, .long e8), (3, .int n), (4, .int i), (0, .ref 68), (1, .int a), (2, .int b)] [.int v, .long p, .int n, .ref 68] M (fun r M' => r = none ∧ ∃ (n : Int32) (b92 b94 : Nat → Int64) (b93 b95 : Nat → Int32), wS b92 n.toInt ∧ n.toInt ≤ 24000 ∧ rowL b92 b93 n.toInt (tgL (q.2.2.2 69) (q.2.2.1 70) (rA (q.2.2.1 73) (a.toInt + 1)) (rA (q.2.2.1 73) (b.toInt + 1)) ((rA (q.2.2.1 73) (a.toInt + 1) - rA (q.2.2.1 73) a.toInt).toNat + (rA (q.2.2.1 73) (b.toInt + 1) - rA (q.2.2.1 73) b.toInt).toNat) (rA (q.2.2.1 73) a.toInt) (rA (q.2.2.1 73) b.toInt) 0 []) ∧ (∀ (i : Nat) (g : Int), dy i g → flat (seg (q.2.2.2 69) (rA (q.2.2.1 73) a.toInt)) (rA (q.2.2.1 73) (a.toInt + 1) - rA (q.2.2.1 73) a.toInt) g (2 ^ i) → flat (seg (q.2.2.2 69) (rA (q.2.2.1 73) b.toInt)) (rA (q.2.2.1 73) (b.toInt + 1) - rA (q.2.2.1 73) b.toInt) g (2 ^ i) → flat b92 n.toInt g (2 ^ i)) ∧ Rm X (sA (sA (sB (sB (sF q 29 n) 92 b92) 94 b94) 93 b93) 95 b95) M') := by
            intro v M hM hv
            refine r_inv rfl hM rfl (as := [.ref 68, .int n, .long p, .int v]) rfl (Nat.le_of_ble_eq_true rfl) (hT_mono (by decide) (r_148 hM n p v (by omega) (by rcases hlen with zz | zz <;> first | omega | (have zn := nab zz; omega))) (fun r1 M118 w => ?_))
            rcases w with ⟨rfl, rfl, un, uv⟩ | ⟨rfl, uv, hM118⟩
            · skip
              have uv : rA b95 (n.toInt - 1) = v.toInt := uv
              exact j71 n b94 b95 _ hM ⟨by omega, by omega, fun z => by have z1 := nab z; omega⟩ (by rw [← hv, rowL_skip hrw un uv]; exact hrw) (tI_up hx (by omega))
            · skip
              have uv : 0 < n.toInt → ¬ rA b95 (n.toInt - 1) = v.toInt := uv
              replace hM118 := rm_to (q' := (sA (sB q 94 (vp_updL b94 n.toInt.toNat p)) 95 (upd b95 n.toInt.toNat v))) hM118 (Eq.trans (congrArg (fun z => sA z 95 (upd b95 n.toInt.toNat v)) (show sB (sA (sB q 94 b94) 95 b95) 94 (vp_updL b94 n.toInt.toNat p) = (sA (sB q 94 (vp_updL b94 n.toInt.toNat p)) 95 b95) from (congrArg (fun z => (sA z 95 b95)) (show sB (sB q 94 b94) 94 (vp_updL b94 n.toInt.toNat p) = (sB q 94 (vp_updL b94 n.toInt.toNat p)) from sB_sB)))) (show sA (sA (sB q 94 (vp_updL b94 n.toInt.toNat p)) 95 b95) 95 (upd b95 n.toInt.toNat v) = (sA (sB q 94 (vp_updL b94 n.toInt.toNat p)) 95 (upd b95 n.toInt.toNat v)) from (show sA (sA (sB q 94 (vp_updL b94 n.toInt.toNat p)) 95 b95) 95 (upd b95 n.toInt.toNat v) = (sA (sB q 94 (vp_updL b94 n.toInt.toNat p)) 95 (upd b95 n.toInt.toNat v)) from sA_sA)))
              have e119 : (n + 1).toInt = n.toInt + 1 := i_addc 1 rfl (by omega) (by omega)
              exact j71 (n + 1) (vp_updL b94 n.toInt.toNat p) (upd b95 n.toInt.toNat v) _ hM118 ⟨by omega, by omega, fun z => by have z1 := nab z; omega⟩ (by rw [← hv, e119]; exact rowL_lay hrw (Int.toNat_of_nonneg n0.1).symm uv) (by rw [e119]; exact tI_lay hx (Int.toNat_of_nonneg n0.1).symm (Int.le_refl _) (Int.lt_add_one_of_le (Int.le_refl _)) (fun z => n1.elim (fun y => absurd y (by rw [z]; decide)) id) hpa)
          refine hs (f := dm_ald 31 0) rfl rfl ?_
          refine hs (f := dm_ild 32 3) rfl rfl ?_
          refine hs (f := dm_lld 34 6) rfl rfl ?_
          refine hs (f := dm_ald 35 0) rfl rfl ?_
          refine r_geta (c := 67) rfl hM rfl ?_
          refine hs (f := dm_ild 40 4) rfl rfl ?_
          refine r_iald (L := 24000) (i := i) ((q.2.2.1 70) i.toInt.toNat) rfl hM rfl (by omega) rfl ?_
          generalize g121 : (q.2.2.1 70) i.toInt.toNat = v120
          have x122 : v120.toInt = rA (q.2.2.1 70) i.toInt := rA_of (i := i) g121 rfl
          refine hs (f := dm_ald 42 0) rfl rfl ?_
          refine r_geta (c := 67) rfl hM rfl ?_
          refine hs (f := dm_ild 47 5) rfl rfl ?_
          refine r_iald (L := 24000) (i := j) ((q.2.2.1 70) j.toInt.toNat) rfl hM rfl (by omega) rfl ?_
          generalize g124 : (q.2.2.1 70) j.toInt.toNat = v123
          have x125 : v123.toInt = rA (q.2.2.1 70) j.toInt := rA_of (i := j) g124 rfl
          refine g_ic_le (n := 51) (tt := 61) rfl (fun h126 => ?_) (fun h126 => ?_)
          · skip
            have h126 : v120.toInt ≤ v123.toInt := h126
            refine hs (f := dm_ald 62 0) rfl rfl ?_
            refine r_geta (c := 67) rfl hM rfl ?_
            refine hs (f := dm_ild 67 5) rfl rfl ?_
            refine r_iald (L := 24000) (i := j) ((q.2.2.1 70) j.toInt.toNat) rfl hM rfl (by omega) rfl ?_
            generalize g128 : (q.2.2.1 70) j.toInt.toNat = v127
            have x129 : v127.toInt = rA (q.2.2.1 70) j.toInt := rA_of (i := j) g128 rfl
            exact j68 v127 _ hM (by rw [← g128]; exact (mx_r (by omega)).symm)
          · skip
            have h126 : v120.toInt > v123.toInt := h126
            refine hs (f := dm_ald 52 0) rfl rfl ?_
            refine r_geta (c := 67) rfl hM rfl ?_
            refine hs (f := dm_ild 57 4) rfl rfl ?_
            refine r_iald (L := 24000) (i := i) ((q.2.2.1 70) i.toInt.toNat) rfl hM rfl (by omega) rfl ?_
            generalize g131 : (q.2.2.1 70) i.toInt.toNat = v130
            have x132 : v130.toInt = rA (q.2.2.1 70) i.toInt := rA_of (i := i) g131 rfl
            refine hs (f := dm_goto 68) rfl rfl ?_
            exact j68 v130 _ hM (by rw [← g131]; exact (mx_l (by omega)).symm)
      · skip
        intro n i j p e8 e10 b94 b95 M hM i0 i1 j0 j1 p0 hpi hpj hpa n0 n1 hl hx nab hms
        refine hs (f := dm_lld 23 6) rfl rfl ?_
        refine hs (f := dm_push 26 (.long 1152921504606846976)) rfl rfl ?_
        refine g_lc_ge (x := p) (y := (1152921504606846976 : Int64)) (m := 27) (n := 30) (tt := 178) rfl rfl (fun h133 => ?_) (fun h133 => ?_)
        · skip
          have h133 : p.toInt ≥ 1152921504606846976 := h133
          refine hs (f := dm_ald 179 0) rfl rfl ?_
          refine hs (f := dm_ild 180 3) rfl rfl ?_
          obtain ⟨l, d9, hrw, hd9, hl2⟩ := hl
          rw [tg_end (by omega)] at hl2
          rw [hl2] at hrw
          refine r_inv rfl hM rfl (as := [.ref 68, .int n]) rfl (Nat.le_of_ble_eq_true rfl) (hT_mono (by decide) (r_149 hM n (by omega) (by rcases hlen with zz | zz <;> first | omega | (have zn := nab zz; omega))) (fun r1 M134 w => ?_))
          obtain ⟨rfl, b1, b2, hb, hM134⟩ := w
          replace hM134 := rm_to (q' := (sA (sA (sB (sB (sF q 29 n) 92 b1) 94 b94) 93 b2) 95 b95)) hM134 (Eq.trans (congrArg (fun z => sA z 93 b2) (Eq.trans (congrArg (fun z => sB z 92 b1) (show sF (sA (sB q 94 b94) 95 b95) 29 n = (sA (sB (sF q 29 n) 94 b94) 95 b95) from (congrArg (fun z => (sA (sB z 94 b94) 95 b95)) (show sF q 29 n = (sF q 29 n) from rfl)))) (show sB (sA (sB (sF q 29 n) 94 b94) 95 b95) 92 b1 = (sA (sB (sB (sF q 29 n) 92 b1) 94 b94) 95 b95) from (congrArg (fun z => (sA z 95 b95)) (show sB (sB (sF q 29 n) 94 b94) 92 b1 = (sB (sB (sF q 29 n) 92 b1) 94 b94) from Eq.trans (show sB (sB (sF q 29 n) 94 b94) 92 b1 = sB (sB (sF q 29 n) 92 b1) 94 b94 from sB_cm (by decide)) (congrArg (fun z => sB z 94 b94) (show sB (sF q 29 n) 92 b1 = (sB (sF q 29 n) 92 b1) from rfl))))))) (show sA (sA (sB (sB (sF q 29 n) 92 b1) 94 b94) 95 b95) 93 b2 = (sA (sA (sB (sB (sF q 29 n) 92 b1) 94 b94) 93 b2) 95 b95) from (show sA (sA (sB (sB (sF q 29 n) 92 b1) 94 b94) 95 b95) 93 b2 = (sA (sA (sB (sB (sF q 29 n) 92 b1) 94 b94) 93 b2) 95 b95) from Eq.trans (show sA (sA (sB (sB (sF q 29 n) 92 b1) 94 b94) 95 b95) 93 b2 = sA (sA (sB (sB (sF q 29 n) 92 b1) 94 b94) 93 b2) 95 b95 from sA_cm (by decide)) (congrArg (fun z => sA z 95 b95) (show sA (sB (sB (sF q 29 n) 92 b1) 94 b94) 93 b2 = (sA (sB (sB (sF q 29 n) 92 b1) 94 b94) 93 b2) from rfl)))))
          exact hr (f := dm_vret) rfl rfl (⟨rfl, n, b1, b94, b2, b95, tI_wS (tI_up hx (by omega)) (by omega) (fun i i0 i1 => (hb i i0 i1).1), (by rcases hlen with zz | zz <;> first | omega | (have zn := nab zz; omega)), ⟨hrw.1, fun k z hk => by
                have hk2 := (List.getElem?_eq_some_iff.mp hk).1
                have hk3 := hrw.1
                have hb2 := hb k (by omega) (by omega)
                have hb3 := hrw.2 k z hk
                exact ⟨hb2.1.trans hb3.1, hb2.2.trans hb3.2⟩⟩, tI_flat (tI_up hx (by omega)) (fun i i0 i1 => (hb i i0 i1).1), hM134⟩)
        · skip
          have h133 : p.toInt < 1152921504606846976 := h133
          obtain ⟨i2, i3, i4⟩ := hpi (by omega)
          obtain ⟨j2, j3, j4⟩ := hpj (by omega)
          have hpa := hpa (by omega)
          obtain ⟨l, d9, hrw, hd9, hl2⟩ := hl
          obtain ⟨dd, rfl⟩ : ∃ dd, d9 = dd + 1 := ⟨d9 - 1, by omega⟩
          rw [tg_go (by omega)] at hl2
          have ega := eF_gt hwa i0 i2
          have egb := eF_gt hwb j0 j2
          have j151 : ∀ (m : Int32) (c94 : Nat → Int64) (c95 : Nat → Int32) (ei ej p2 : Int64) (M : dm_Mem), Rm X (sA (sB q 94 c94) 95 c95) M → (1 ≤ m.toInt ∧ m.toInt ≤ (i.toInt - rA (q.2.2.1 73) a.toInt) + (j.toInt - rA (q.2.2.1 73) b.toInt) + 1 ∧ (a = b → m.toInt ≤ i.toInt - rA (q.2.2.1 73) a.toInt + 1)) → (rowL c94 c95 m.toInt (layL l p (mxF ((q.2.2.1 70) i.toInt.toNat) ((q.2.2.1 70) j.toInt.toNat)))) → (tI (q.2.2.2 69) (rA (q.2.2.1 73) a.toInt) (rA (q.2.2.1 73) (a.toInt + 1)) (rA (q.2.2.1 73) b.toInt) (rA (q.2.2.1 73) (b.toInt + 1)) c94 m.toInt (p.toInt + 1)) → (ei = eF (q.2.2.2 69) i.toInt (rA (q.2.2.1 73) (a.toInt + 1))) → (ej = eF (q.2.2.2 69) j.toInt (rA (q.2.2.1 73) (b.toInt + 1))) → (p2 = mnF (eF (q.2.2.2 69) i.toInt (rA (q.2.2.1 73) (a.toInt + 1))) (eF (q.2.2.2 69) j.toInt (rA (q.2.2.1 73) (b.toInt + 1)))) → hG 1 cd_163 151 [(10, .long ej), (8, .long ei), (3, .int m), (5, .int j), (4, .int i), (6, .long p), (0, .ref 68), (1, .int a), (2, .int b)] [.long p2] M (fun r M' => r = none ∧ ∃ (n : Int32) (b92 b94 : Nat → Int64) (b93 b95 : Nat → Int32), wS b92 n.toInt ∧ n.toInt ≤ 24000 ∧ rowL b92 b93 n.toInt (tgL (q.2.2.2 69) (q.2.2.1 70) (rA (q.2.2.1 73) (a.toInt + 1)) (rA (q.2.2.1 73) (b.toInt + 1)) ((rA (q.2.2.1 73) (a.toInt + 1) - rA (q.2.2.1 73) a.toInt).toNat + (rA (q.2.2.1 73) (b.toInt + 1) - rA (q.2.2.1 73) b.toInt).toNat) (rA (q.2.2.1 73) a.toInt) (rA (q.2.2.1 73) b.toInt) 0 []) ∧ (∀ (i : Nat) (g : Int), dy i g → flat (seg (q.2.2.2 69) (rA (q.2.2.1 73) a.toInt)) (rA (q.2.2.1 73) (a.toInt + 1) - rA (q.2.2.1 73) a.toInt) g (2 ^ i) → flat (seg (q.2.2.2 69) (rA (q.2.2.1 73) b.toInt)) (rA (q.2.2.1 73) (b.toInt + 1) - rA (q.2.2.1 73) b.toInt) g (2 ^ i) → flat b92 n.toInt g (2 ^ i)) ∧ Rm X (sA (sA (sB (sB (sF q 29 n) 92 b92) 94 b94) 93 b93) 95 b95) M') := by
            intro m c94 c95 ei ej p2 M hM m0 hr2 hx2 hei hej hp2
            have hmn := mnF_int (eF (q.2.2.2 69) i.toInt (rA (q.2.2.1 73) (a.toInt + 1))) (eF (q.2.2.2 69) j.toInt (rA (q.2.2.1 73) (b.toInt + 1)))
            rw [← hei, ← hej] at hmn
            rw [← hei] at ega i4
            rw [← hej] at egb j4
            rw [← hei, ← hej] at hp2
            rw [← hp2] at hmn
            rw [← hei, ← hej, ← hp2] at hl2
            have stI : p2.toInt < 1152921504606846976 → _ := fun z => eF_step (p := p.toInt) (p2 := p2.toInt) hwa i0 i2 i3 (by omega) (by rw [← hei]; omega) z
            have stJ : p2.toInt < 1152921504606846976 → _ := fun z => eF_step (p := p.toInt) (p2 := p2.toInt) hwb j0 j2 j3 (by omega) (by rw [← hej]; omega) z
            rw [← hei] at stI
            rw [← hej] at stJ
            refine hs (f := dm_lst 153 6) (lv' := [(6, .long p2), (10, .long ej), (8, .long ei), (3, .int m), (5, .int j), (4, .int i), (0, .ref 68), (1, .int a), (2, .int b)]) rfl rfl ?_
            refine hs (f := dm_lld 155 8) rfl rfl ?_
            refine hs (f := dm_lld 157 6) rfl rfl ?_
            refine g_lc_ne (x := ei) (y := p2) (m := 158) (n := 161) (tt := 164) rfl rfl (fun h135 => ?_) (fun h135 => ?_)
            · skip
              have h135 : ¬ ei.toInt = p2.toInt := h135
              refine hs (f := dm_lld 166 10) rfl rfl ?_
              refine hs (f := dm_lld 168 6) rfl rfl ?_
              refine g_lc_ne (x := ej) (y := p2) (m := 169) (n := 172) (tt := 175) rfl rfl (fun h136 => ?_) (fun h136 => ?_)
              · skip
                have h136 : ¬ ej.toInt = p2.toInt := h136
                refine hs (f := dm_goto 21) rfl rfl ?_
                exfalso
                omega
              · skip
                have h136 : ej.toInt = p2.toInt := h136
                have e137 : (j + 1).toInt = j.toInt + 1 := by have w := i_addc (x := j) (y := 1) 1 rfl (by omega) (by omega); omega
                refine hs (f := dm_iinc 175 5 1) (lv' := [(5, .int (j + 1)), (6, .long p2), (10, .long ej), (8, .long ei), (3, .int m), (4, .int i), (0, .ref 68), (1, .int a), (2, .int b)]) rfl rfl ?_
                refine hs (f := dm_goto 21) rfl rfl ?_
                have hdec : (rA (q.2.2.1 73) (a.toInt + 1) - i.toInt).toNat + (rA (q.2.2.1 73) (b.toInt + 1) - (j + 1).toInt).toNat < nn := by rw [e137]; exact (tg_dec hms i2 j2).2.1
                exact (IH _ hdec).2.2.1 m i (j + 1) p2 ei ej c94 c95 _ hM (by omega) (by omega) (by omega) (by omega) (by omega) (by intro z; have z1 := stI z; exact ⟨by omega, (z1.2 h135).1, by rw [← hei]; exact (z1.2 h135).2⟩) (by intro z; have z1 := stJ z; rw [e137]; exact ⟨(z1.1 h136).1, by rw [(z1.1 h136).2.1]; omega, (z1.1 h136).2.2⟩) (by intro z; exact Or.inr (Or.inr ⟨j.toInt + 1, by omega, ((stJ z).1 h136).1, ((stJ z).1 h136).2.1.symm⟩)) (by omega) (Or.inl (by omega)) ⟨_, dd, hr2, by rw [e137]; exact (tg_le hd9 i2 j2).2.1, by have z := hl2; rw [if_neg h135, if_pos h136] at z; rw [e137]; exact z⟩ (tI_up hx2 (by omega)) (fun z => absurd (show ei.toInt = ej.toInt by rw [hei, hej, (nab z).1, z]) (by omega)) rfl
            · skip
              have h135 : ei.toInt = p2.toInt := h135
              have e138 : (i + 1).toInt = i.toInt + 1 := by have w := i_addc (x := i) (y := 1) 1 rfl (by omega) (by omega); omega
              refine hs (f := dm_iinc 164 4 1) (lv' := [(4, .int (i + 1)), (6, .long p2), (10, .long ej), (8, .long ei), (3, .int m), (5, .int j), (0, .ref 68), (1, .int a), (2, .int b)]) rfl rfl ?_
              refine hs (f := dm_lld 166 10) rfl rfl ?_
              refine hs (f := dm_lld 168 6) rfl rfl ?_
              refine g_lc_ne (x := ej) (y := p2) (m := 169) (n := 172) (tt := 175) rfl rfl (fun h139 => ?_) (fun h139 => ?_)
              · skip
                have h139 : ¬ ej.toInt = p2.toInt := h139
                refine hs (f := dm_goto 21) rfl rfl ?_
                have hdec : (rA (q.2.2.1 73) (a.toInt + 1) - (i + 1).toInt).toNat + (rA (q.2.2.1 73) (b.toInt + 1) - j.toInt).toNat < nn := by rw [e138]; exact (tg_dec hms i2 j2).1
                exact (IH _ hdec).2.1 m (i + 1) j p2 ei ej c94 c95 _ hM (by omega) (by omega) (by omega) (by omega) (by omega) (by intro z; have z1 := stI z; rw [e138]; exact ⟨(z1.1 h135).1, by rw [(z1.1 h135).2.1]; omega, (z1.1 h135).2.2⟩) (by intro z; have z1 := stJ z; exact ⟨by omega, (z1.2 h139).1, by rw [← hej]; exact (z1.2 h139).2⟩) (by intro z; exact Or.inr (Or.inl ⟨i.toInt + 1, by omega, ((stI z).1 h135).1, ((stI z).1 h135).2.1.symm⟩)) (by omega) (Or.inl (by omega)) ⟨_, dd, hr2, by rw [e138]; exact (tg_le hd9 i2 j2).1, by have z := hl2; rw [if_pos h135, if_neg h139] at z; rw [e138]; exact z⟩ (tI_up hx2 (by omega)) (fun z => absurd (show ei.toInt = ej.toInt by rw [hei, hej, (nab z).1, z]) (by omega)) rfl
              · skip
                have h139 : ej.toInt = p2.toInt := h139
                have e140 : (j + 1).toInt = j.toInt + 1 := by have w := i_addc (x := j) (y := 1) 1 rfl (by omega) (by omega); omega
                refine hs (f := dm_iinc 175 5 1) (lv' := [(5, .int (j + 1)), (4, .int (i + 1)), (6, .long p2), (10, .long ej), (8, .long ei), (3, .int m), (0, .ref 68), (1, .int a), (2, .int b)]) rfl rfl ?_
                refine hs (f := dm_goto 21) rfl rfl ?_
                have hdec : (rA (q.2.2.1 73) (a.toInt + 1) - (i + 1).toInt).toNat + (rA (q.2.2.1 73) (b.toInt + 1) - (j + 1).toInt).toNat < nn := by rw [e138, e140]; exact (tg_dec hms i2 j2).2.2
                exact (IH _ hdec).2.2.2 m (i + 1) (j + 1) p2 ei ej c94 c95 _ hM (by omega) (by omega) (by omega) (by omega) (by omega) (by intro z; have z1 := stI z; rw [e138]; exact ⟨(z1.1 h135).1, by rw [(z1.1 h135).2.1]; omega, (z1.1 h135).2.2⟩) (by intro z; have z1 := stJ z; rw [e140]; exact ⟨(z1.1 h139).1, by rw [(z1.1 h139).2.1]; omega, (z1.1 h139).2.2⟩) (by intro z; exact Or.inr (Or.inl ⟨i.toInt + 1, by omega, ((stI z).1 h135).1, ((stI z).1 h135).2.1.symm⟩)) (by omega) (Or.inl (by omega)) ⟨_, dd, hr2, by rw [e138, e140]; exact (tg_le hd9 i2 j2).2.2, by have z := hl2; rw [if_pos h135, if_pos h139] at z; rw [e138]; rw [e140]; exact z⟩ (tI_up hx2 (by omega)) (fun z => by have z1 := nab z; have z2 := m0.2.2 z; omega) rfl
          have j134 : ∀ (m : Int32) (c94 : Nat → Int64) (c95 : Nat → Int32) (ei ej : Int64) (M : dm_Mem), Rm X (sA (sB q 94 c94) 95 c95) M → (1 ≤ m.toInt ∧ m.toInt ≤ (i.toInt - rA (q.2.2.1 73) a.toInt) + (j.toInt - rA (q.2.2.1 73) b.toInt) + 1 ∧ (a = b → m.toInt ≤ i.toInt - rA (q.2.2.1 73) a.toInt + 1)) → (rowL c94 c95 m.toInt (layL l p (mxF ((q.2.2.1 70) i.toInt.toNat) ((q.2.2.1 70) j.toInt.toNat)))) → (tI (q.2.2.2 69) (rA (q.2.2.1 73) a.toInt) (rA (q.2.2.1 73) (a.toInt + 1)) (rA (q.2.2.1 73) b.toInt) (rA (q.2.2.1 73) (b.toInt + 1)) c94 m.toInt (p.toInt + 1)) → (ei = eF (q.2.2.2 69) i.toInt (rA (q.2.2.1 73) (a.toInt + 1))) → (ej = eF (q.2.2.2 69) j.toInt (rA (q.2.2.1 73) (b.toInt + 1))) → hG 1 cd_163 134 [(8, .long ei), (3, .int m), (5, .int j), (4, .int i), (6, .long p), (10, .long e10), (0, .ref 68), (1, .int a), (2, .int b)] [.long ej] M (fun r M' => r = none ∧ ∃ (n : Int32) (b92 b94 : Nat → Int64) (b93 b95 : Nat → Int32), wS b92 n.toInt ∧ n.toInt ≤ 24000 ∧ rowL b92 b93 n.toInt (tgL (q.2.2.2 69) (q.2.2.1 70) (rA (q.2.2.1 73) (a.toInt + 1)) (rA (q.2.2.1 73) (b.toInt + 1)) ((rA (q.2.2.1 73) (a.toInt + 1) - rA (q.2.2.1 73) a.toInt).toNat + (rA (q.2.2.1 73) (b.toInt + 1) - rA (q.2.2.1 73) b.toInt).toNat) (rA (q.2.2.1 73) a.toInt) (rA (q.2.2.1 73) b.toInt) 0 []) ∧ (∀ (i : Nat) (g : Int), dy i g → flat (seg (q.2.2.2 69) (rA (q.2.2.1 73) a.toInt)) (rA (q.2.2.1 73) (a.toInt + 1) - rA (q.2.2.1 73) a.toInt) g (2 ^ i) → flat (seg (q.2.2.2 69) (rA (q.2.2.1 73) b.toInt)) (rA (q.2.2.1 73) (b.toInt + 1) - rA (q.2.2.1 73) b.toInt) g (2 ^ i) → flat b92 n.toInt g (2 ^ i)) ∧ Rm X (sA (sA (sB (sB (sF q 29 n) 92 b92) 94 b94) 93 b93) 95 b95) M') := by
            intro m c94 c95 ei ej M hM m0 hr2 hx2 hei hej
            refine hs (f := dm_lst 136 10) (lv' := [(10, .long ej), (8, .long ei), (3, .int m), (5, .int j), (4, .int i), (6, .long p), (0, .ref 68), (1, .int a), (2, .int b)]) rfl rfl ?_
            refine hs (f := dm_lld 138 8) rfl rfl ?_
            refine hs (f := dm_lld 140 10) rfl rfl ?_
            refine g_lc_ge (x := ei) (y := ej) (m := 141) (n := 144) (tt := 149) rfl rfl (fun h141 => ?_) (fun h141 => ?_)
            · skip
              have h141 : ei.toInt ≥ ej.toInt := h141
              refine hs (f := dm_lld 151 10) rfl rfl ?_
              exact j151 m c94 c95 ei ej ej _ hM m0 hr2 hx2 hei hej (by rw [← hei, ← hej]; unfold mnF; rw [if_neg (by omega)])
            · skip
              have h141 : ei.toInt < ej.toInt := h141
              refine hs (f := dm_lld 146 8) rfl rfl ?_
              refine hs (f := dm_goto 151) rfl rfl ?_
              exact j151 m c94 c95 ei ej ei _ hM m0 hr2 hx2 hei hej (by rw [← hei, ← hej]; unfold mnF; rw [if_pos (by omega)])
          have j102 : ∀ (m : Int32) (c94 : Nat → Int64) (c95 : Nat → Int32) (ei : Int64) (M : dm_Mem), Rm X (sA (sB q 94 c94) 95 c95) M → (1 ≤ m.toInt ∧ m.toInt ≤ (i.toInt - rA (q.2.2.1 73) a.toInt) + (j.toInt - rA (q.2.2.1 73) b.toInt) + 1 ∧ (a = b → m.toInt ≤ i.toInt - rA (q.2.2.1 73) a.toInt + 1)) → (rowL c94 c95 m.toInt (layL l p (mxF ((q.2.2.1 70) i.toInt.toNat) ((q.2.2.1 70) j.toInt.toNat)))) → (tI (q.2.2.2 69) (rA (q.2.2.1 73) a.toInt) (rA (q.2.2.1 73) (a.toInt + 1)) (rA (q.2.2.1 73) b.toInt) (rA (q.2.2.1 73) (b.toInt + 1)) c94 m.toInt (p.toInt + 1)) → (ei = eF (q.2.2.2 69) i.toInt (rA (q.2.2.1 73) (a.toInt + 1))) → hG 1 cd_163 102 [(3, .int m), (5, .int j), (4, .int i), (6, .long p), (10, .long e10), (8, .long e8), (0, .ref 68), (1, .int a), (2, .int b)] [.long ei] M (fun r M' => r = none ∧ ∃ (n : Int32) (b92 b94 : Nat → Int64) (b93 b95 : Nat → Int32), wS b92 n.toInt ∧ n.toInt ≤ 24000 ∧ rowL b92 b93 n.toInt (tgL (q.2.2.2 69) (q.2.2.1 70) (rA (q.2.2.1 73) (a.toInt + 1)) (rA (q.2.2.1 73) (b.toInt + 1)) ((rA (q.2.2.1 73) (a.toInt + 1) - rA (q.2.2.1 73) a.toInt).toNat + (rA (q.2.2.1 73) (b.toInt + 1) - rA (q.2.2.1 73) b.toInt).toNat) (rA (q.2.2.1 73) a.toInt) (rA (q.2.2.1 73) b.toInt) 0 []) ∧ (∀ (i : Nat) (g : Int), dy i g → flat (seg (q.2.2.2 69) (rA (q.2.2.1 73) a.toInt)) (rA (q.2.2.1 73) (a.toInt + 1) - rA (q.2.2.1 73) a.toInt) g (2 ^ i) → flat (seg (q.2.2.2 69) (rA (q.2.2.1 73) b.toInt)) (rA (q.2.2.1 73) (b.toInt + 1) - rA (q.2.2.1 73) b.toInt) g (2 ^ i) → flat b92 n.toInt g (2 ^ i)) ∧ Rm X (sA (sA (sB (sB (sF q 29 n) 92 b92) 94 b94) 93 b93) 95 b95) M') := by
            intro m c94 c95 ei M hM m0 hr2 hx2 hei
            refine hs (f := dm_lst 104 8) (lv' := [(8, .long ei), (3, .int m), (5, .int j), (4, .int i), (6, .long p), (10, .long e10), (0, .ref 68), (1, .int a), (2, .int b)]) rfl rfl ?_
            refine hs (f := dm_ild 106 5) rfl rfl ?_
            refine hs (f := dm_push 107 (.int 1)) rfl rfl ?_
            have e142 : (j + (1 : Int32)).toInt = j.toInt + 1 := by have w := i_addc (x := j) (y := (1 : Int32)) 1 rfl (by omega) (by omega); omega
            refine hs (f := dm_ii 108 (fun x y => x + y)) (st' := [.int (j + (1 : Int32))]) rfl rfl ?_
            refine hs (f := dm_ald 109 0) rfl rfl ?_
            refine r_geta (c := 70) rfl hM rfl ?_
            refine hs (f := dm_ild 113 2) rfl rfl ?_
            refine hs (f := dm_push 114 (.int 1)) rfl rfl ?_
            have e143 : (b + (1 : Int32)).toInt = b.toInt + 1 := by have w := i_addc (x := b) (y := (1 : Int32)) 1 rfl (by omega) (by omega); omega
            refine hs (f := dm_ii 115 (fun x y => x + y)) (st' := [.int (b + (1 : Int32)), .ref 73, .int (j + (1 : Int32))]) rfl rfl ?_
            refine r_iald (L := 1001) (i := (b + (1 : Int32))) ((q.2.2.1 73) (b + (1 : Int32)).toInt.toNat) rfl hM rfl (by omega) rfl ?_
            generalize g145 : (q.2.2.1 73) (b + (1 : Int32)).toInt.toNat = v144
            have x146 : v144.toInt = rA (q.2.2.1 73) (b.toInt + 1) := rA_of (i := (b + (1 : Int32))) g145 e143
            refine g_ic_ge (n := 119) (tt := 131) rfl (fun h147 => ?_) (fun h147 => ?_)
            · skip
              have h147 : (j + (1 : Int32)).toInt ≥ v144.toInt := h147
              refine hs (f := dm_push 134 (.long 1152921504606846976)) rfl rfl ?_
              exact j134 m c94 c95 ei (1152921504606846976 : Int64) _ hM m0 hr2 hx2 hei (by unfold eF; rw [if_neg (by omega)])
            · skip
              have h147 : (j + (1 : Int32)).toInt < v144.toInt := h147
              refine hs (f := dm_ald 120 0) rfl rfl ?_
              refine r_geta (c := 66) rfl hM rfl ?_
              refine hs (f := dm_ild 125 5) rfl rfl ?_
              refine hs (f := dm_push 126 (.int 1)) rfl rfl ?_
              have e148 : (j + (1 : Int32)).toInt = j.toInt + 1 := by have w := i_addc (x := j) (y := (1 : Int32)) 1 rfl (by omega) (by omega); omega
              refine hs (f := dm_ii 127 (fun x y => x + y)) (st' := [.int (j + (1 : Int32)), .ref 69]) rfl rfl ?_
              refine r_lald (L := 24000) (i := (j + (1 : Int32))) ((q.2.2.2 69) (j + (1 : Int32)).toInt.toNat) rfl hM rfl (by omega) rfl ?_
              generalize g150 : (q.2.2.2 69) (j + (1 : Int32)).toInt.toNat = v149
              have x151 : v149.toInt = rB (q.2.2.2 69) (j.toInt + 1) := rB_of (i := (j + (1 : Int32))) g150 e148
              refine hs (f := dm_goto 134) rfl rfl ?_
              exact j134 m c94 c95 ei v149 _ hM m0 hr2 hx2 hei (by rw [← g150, e148]; unfold eF; rw [if_pos (by omega)])
          have j71 : ∀ (m : Int32) (c94 : Nat → Int64) (c95 : Nat → Int32) (M : dm_Mem), Rm X (sA (sB q 94 c94) 95 c95) M → (1 ≤ m.toInt ∧ m.toInt ≤ (i.toInt - rA (q.2.2.1 73) a.toInt) + (j.toInt - rA (q.2.2.1 73) b.toInt) + 1 ∧ (a = b → m.toInt ≤ i.toInt - rA (q.2.2.1 73) a.toInt + 1)) → (rowL c94 c95 m.toInt (layL l p (mxF ((q.2.2.1 70) i.toInt.toNat) ((q.2.2.1 70) j.toInt.toNat)))) → (tI (q.2.2.2 69) (rA (q.2.2.1 73) a.toInt) (rA (q.2.2.1 73) (a.toInt + 1)) (rA (q.2.2.1 73) b.toInt) (rA (q.2.2.1 73) (b.toInt + 1)) c94 m.toInt (p.toInt + 1)) → hG 1 cd_163 71 [(5, .int j), (4, .int i), (6, .long p), (10, .long e10), (8, .long e8), (3, .int n), (0, .ref 68), (1, .int a), (2, .int b)] [.int m] M (fun r M' => r = none ∧ ∃ (n : Int32) (b92 b94 : Nat → Int64) (b93 b95 : Nat → Int32), wS b92 n.toInt ∧ n.toInt ≤ 24000 ∧ rowL b92 b93 n.toInt (tgL (q.2.2.2 69) (q.2.2.1 70) (rA (q.2.2.1 73) (a.toInt + 1)) (rA (q.2.2.1 73) (b.toInt + 1)) ((rA (q.2.2.1 73) (a.toInt + 1) - rA (q.2.2.1 73) a.toInt).toNat + (rA (q.2.2.1 73) (b.toInt + 1) - rA (q.2.2.1 73) b.toInt).toNat) (rA (q.2.2.1 73) a.toInt) (rA (q.2.2.1 73) b.toInt) 0 []) ∧ (∀ (i : Nat) (g : Int), dy i g → flat (seg (q.2.2.2 69) (rA (q.2.2.1 73) a.toInt)) (rA (q.2.2.1 73) (a.toInt + 1) - rA (q.2.2.1 73) a.toInt) g (2 ^ i) → flat (seg (q.2.2.2 69) (rA (q.2.2.1 73) b.toInt)) (rA (q.2.2.1 73) (b.toInt + 1) - rA (q.2.2.1 73) b.toInt) g (2 ^ i) → flat b92 n.toInt g (2 ^ i)) ∧ Rm X (sA (sA (sB (sB (sF q 29 n) 92 b92) 94 b94) 93 b93) 95 b95) M') := by
            intro m c94 c95 M hM m0 hr2 hx2
            refine hs (f := dm_ist 72 3) (lv' := [(3, .int m), (5, .int j), (4, .int i), (6, .long p), (10, .long e10), (8, .long e8), (0, .ref 68), (1, .int a), (2, .int b)]) rfl rfl ?_
            refine hs (f := dm_ild 74 4) rfl rfl ?_
            refine hs (f := dm_push 75 (.int 1)) rfl rfl ?_
            have e152 : (i + (1 : Int32)).toInt = i.toInt + 1 := by have w := i_addc (x := i) (y := (1 : Int32)) 1 rfl (by omega) (by omega); omega
            refine hs (f := dm_ii 76 (fun x y => x + y)) (st' := [.int (i + (1 : Int32))]) rfl rfl ?_
            refine hs (f := dm_ald 77 0) rfl rfl ?_
            refine r_geta (c := 70) rfl hM rfl ?_
            refine hs (f := dm_ild 81 1) rfl rfl ?_
            refine hs (f := dm_push 82 (.int 1)) rfl rfl ?_
            have e153 : (a + (1 : Int32)).toInt = a.toInt + 1 := by have w := i_addc (x := a) (y := (1 : Int32)) 1 rfl (by omega) (by omega); omega
            refine hs (f := dm_ii 83 (fun x y => x + y)) (st' := [.int (a + (1 : Int32)), .ref 73, .int (i + (1 : Int32))]) rfl rfl ?_
            refine r_iald (L := 1001) (i := (a + (1 : Int32))) ((q.2.2.1 73) (a + (1 : Int32)).toInt.toNat) rfl hM rfl (by omega) rfl ?_
            generalize g155 : (q.2.2.1 73) (a + (1 : Int32)).toInt.toNat = v154
            have x156 : v154.toInt = rA (q.2.2.1 73) (a.toInt + 1) := rA_of (i := (a + (1 : Int32))) g155 e153
            refine g_ic_ge (n := 87) (tt := 99) rfl (fun h157 => ?_) (fun h157 => ?_)
            · skip
              have h157 : (i + (1 : Int32)).toInt ≥ v154.toInt := h157
              refine hs (f := dm_push 102 (.long 1152921504606846976)) rfl rfl ?_
              exact j102 m c94 c95 (1152921504606846976 : Int64) _ hM m0 hr2 hx2 (by unfold eF; rw [if_neg (by omega)])
            · skip
              have h157 : (i + (1 : Int32)).toInt < v154.toInt := h157
              refine hs (f := dm_ald 88 0) rfl rfl ?_
              refine r_geta (c := 66) rfl hM rfl ?_
              refine hs (f := dm_ild 93 4) rfl rfl ?_
              refine hs (f := dm_push 94 (.int 1)) rfl rfl ?_
              have e158 : (i + (1 : Int32)).toInt = i.toInt + 1 := by have w := i_addc (x := i) (y := (1 : Int32)) 1 rfl (by omega) (by omega); omega
              refine hs (f := dm_ii 95 (fun x y => x + y)) (st' := [.int (i + (1 : Int32)), .ref 69]) rfl rfl ?_
              refine r_lald (L := 24000) (i := (i + (1 : Int32))) ((q.2.2.2 69) (i + (1 : Int32)).toInt.toNat) rfl hM rfl (by omega) rfl ?_
              generalize g160 : (q.2.2.2 69) (i + (1 : Int32)).toInt.toNat = v159
              have x161 : v159.toInt = rB (q.2.2.2 69) (i.toInt + 1) := rB_of (i := (i + (1 : Int32))) g160 e158
              refine hs (f := dm_goto 102) rfl rfl ?_
              exact j102 m c94 c95 v159 _ hM m0 hr2 hx2 (by rw [← g160, e158]; unfold eF; rw [if_pos (by omega)])
          have j68 : ∀ (v : Int32) (M : dm_Mem), Rm X (sA (sB q 94 b94) 95 b95) M → (v = mxF ((q.2.2.1 70) i.toInt.toNat) ((q.2.2.1 70) j.toInt.toNat)) → hG 1 cd_163 68 [(5, .int j), (4, .int i), (6, .long p), (10, .long e10), (8, .long e8), (3, .int n), (0, .ref 68), (1, .int a), (2, .int b)] [.int v, .long p, .int n, .ref 68] M (fun r M' => r = none ∧ ∃ (n : Int32) (b92 b94 : Nat → Int64) (b93 b95 : Nat → Int32), wS b92 n.toInt ∧ n.toInt ≤ 24000 ∧ rowL b92 b93 n.toInt (tgL (q.2.2.2 69) (q.2.2.1 70) (rA (q.2.2.1 73) (a.toInt + 1)) (rA (q.2.2.1 73) (b.toInt + 1)) ((rA (q.2.2.1 73) (a.toInt + 1) - rA (q.2.2.1 73) a.toInt).toNat + (rA (q.2.2.1 73) (b.toInt + 1) - rA (q.2.2.1 73) b.toInt).toNat) (rA (q.2.2.1 73) a.toInt) (rA (q.2.2.1 73) b.toInt) 0 []) ∧ (∀ (i : Nat) (g : Int), dy i g → flat (seg (q.2.2.2 69) (rA (q.2.2.1 73) a.toInt)) (rA (q.2.2.1 73) (a.toInt + 1) - rA (q.2.2.1 73) a.toInt) g (2 ^ i) → flat (seg (q.2.2.2 69) (rA (q.2.2.1 73) b.toInt)) (rA (q.2.2.1 73) (b.toInt + 1) - rA (q.2.2.1 73) b.toInt) g (2 ^ i) → flat b92 n.toInt g (2 ^ i)) ∧ Rm X (sA (sA (sB (sB (sF q 29 n) 92 b92) 94 b94) 93 b93) 95 b95) M') := by
            intro v M hM hv
            refine r_inv rfl hM rfl (as := [.ref 68, .int n, .long p, .int v]) rfl (Nat.le_of_ble_eq_true rfl) (hT_mono (by decide) (r_148 hM n p v (by omega) (by rcases hlen with zz | zz <;> first | omega | (have zn := nab zz; omega))) (fun r1 M162 w => ?_))
            rcases w with ⟨rfl, rfl, un, uv⟩ | ⟨rfl, uv, hM162⟩
            · skip
              have uv : rA b95 (n.toInt - 1) = v.toInt := uv
              exact j71 n b94 b95 _ hM ⟨by omega, by omega, fun z => by have z1 := nab z; omega⟩ (by rw [← hv, rowL_skip hrw un uv]; exact hrw) (tI_up hx (by omega))
            · skip
              have uv : 0 < n.toInt → ¬ rA b95 (n.toInt - 1) = v.toInt := uv
              replace hM162 := rm_to (q' := (sA (sB q 94 (vp_updL b94 n.toInt.toNat p)) 95 (upd b95 n.toInt.toNat v))) hM162 (Eq.trans (congrArg (fun z => sA z 95 (upd b95 n.toInt.toNat v)) (show sB (sA (sB q 94 b94) 95 b95) 94 (vp_updL b94 n.toInt.toNat p) = (sA (sB q 94 (vp_updL b94 n.toInt.toNat p)) 95 b95) from (congrArg (fun z => (sA z 95 b95)) (show sB (sB q 94 b94) 94 (vp_updL b94 n.toInt.toNat p) = (sB q 94 (vp_updL b94 n.toInt.toNat p)) from sB_sB)))) (show sA (sA (sB q 94 (vp_updL b94 n.toInt.toNat p)) 95 b95) 95 (upd b95 n.toInt.toNat v) = (sA (sB q 94 (vp_updL b94 n.toInt.toNat p)) 95 (upd b95 n.toInt.toNat v)) from (show sA (sA (sB q 94 (vp_updL b94 n.toInt.toNat p)) 95 b95) 95 (upd b95 n.toInt.toNat v) = (sA (sB q 94 (vp_updL b94 n.toInt.toNat p)) 95 (upd b95 n.toInt.toNat v)) from sA_sA)))
              have e163 : (n + 1).toInt = n.toInt + 1 := i_addc 1 rfl (by omega) (by omega)
              exact j71 (n + 1) (vp_updL b94 n.toInt.toNat p) (upd b95 n.toInt.toNat v) _ hM162 ⟨by omega, by omega, fun z => by have z1 := nab z; omega⟩ (by rw [← hv, e163]; exact rowL_lay hrw (Int.toNat_of_nonneg n0.1).symm uv) (by rw [e163]; exact tI_lay hx (Int.toNat_of_nonneg n0.1).symm (Int.le_refl _) (Int.lt_add_one_of_le (Int.le_refl _)) (fun z => n1.elim (fun y => absurd y (by rw [z]; decide)) id) hpa)
          refine hs (f := dm_ald 31 0) rfl rfl ?_
          refine hs (f := dm_ild 32 3) rfl rfl ?_
          refine hs (f := dm_lld 34 6) rfl rfl ?_
          refine hs (f := dm_ald 35 0) rfl rfl ?_
          refine r_geta (c := 67) rfl hM rfl ?_
          refine hs (f := dm_ild 40 4) rfl rfl ?_
          refine r_iald (L := 24000) (i := i) ((q.2.2.1 70) i.toInt.toNat) rfl hM rfl (by omega) rfl ?_
          generalize g165 : (q.2.2.1 70) i.toInt.toNat = v164
          have x166 : v164.toInt = rA (q.2.2.1 70) i.toInt := rA_of (i := i) g165 rfl
          refine hs (f := dm_ald 42 0) rfl rfl ?_
          refine r_geta (c := 67) rfl hM rfl ?_
          refine hs (f := dm_ild 47 5) rfl rfl ?_
          refine r_iald (L := 24000) (i := j) ((q.2.2.1 70) j.toInt.toNat) rfl hM rfl (by omega) rfl ?_
          generalize g168 : (q.2.2.1 70) j.toInt.toNat = v167
          have x169 : v167.toInt = rA (q.2.2.1 70) j.toInt := rA_of (i := j) g168 rfl
          refine g_ic_le (n := 51) (tt := 61) rfl (fun h170 => ?_) (fun h170 => ?_)
          · skip
            have h170 : v164.toInt ≤ v167.toInt := h170
            refine hs (f := dm_ald 62 0) rfl rfl ?_
            refine r_geta (c := 67) rfl hM rfl ?_
            refine hs (f := dm_ild 67 5) rfl rfl ?_
            refine r_iald (L := 24000) (i := j) ((q.2.2.1 70) j.toInt.toNat) rfl hM rfl (by omega) rfl ?_
            generalize g172 : (q.2.2.1 70) j.toInt.toNat = v171
            have x173 : v171.toInt = rA (q.2.2.1 70) j.toInt := rA_of (i := j) g172 rfl
            exact j68 v171 _ hM (by rw [← g172]; exact (mx_r (by omega)).symm)
          · skip
            have h170 : v164.toInt > v167.toInt := h170
            refine hs (f := dm_ald 52 0) rfl rfl ?_
            refine r_geta (c := 67) rfl hM rfl ?_
            refine hs (f := dm_ild 57 4) rfl rfl ?_
            refine r_iald (L := 24000) (i := i) ((q.2.2.1 70) i.toInt.toNat) rfl hM rfl (by omega) rfl ?_
            generalize g175 : (q.2.2.1 70) i.toInt.toNat = v174
            have x176 : v174.toInt = rA (q.2.2.1 70) i.toInt := rA_of (i := i) g175 rfl
            refine hs (f := dm_goto 68) rfl rfl ?_
            exact j68 v174 _ hM (by rw [← g175]; exact (mx_l (by omega)).symm)
  refine hx (t := cd_163) rfl (Nat.le_of_ble_eq_true rfl) (lv := [(0, .ref 68), (1, .int a), (2, .int b)]) rfl ?_
  refine hs (f := dm_push 1 (.int 0)) rfl rfl ?_
  refine hs (f := dm_ist 2 3) (lv' := [(3, .int 0), (0, .ref 68), (1, .int a), (2, .int b)]) rfl rfl ?_
  refine hs (f := dm_ald 3 0) rfl rfl ?_
  refine r_geta (c := 70) rfl hM rfl ?_
  refine hs (f := dm_ild 7 1) rfl rfl ?_
  refine r_iald (L := 1001) (i := a) ((q.2.2.1 73) a.toInt.toNat) rfl hM rfl (by omega) rfl ?_
  generalize g178 : (q.2.2.1 73) a.toInt.toNat = v177
  have x179 : v177.toInt = rA (q.2.2.1 73) a.toInt := rA_of (i := a) g178 rfl
  refine hs (f := dm_ist 10 4) (lv' := [(4, .int v177), (3, .int 0), (0, .ref 68), (1, .int a), (2, .int b)]) rfl rfl ?_
  refine hs (f := dm_ald 11 0) rfl rfl ?_
  refine r_geta (c := 70) rfl hM rfl ?_
  refine hs (f := dm_ild 15 2) rfl rfl ?_
  refine r_iald (L := 1001) (i := b) ((q.2.2.1 73) b.toInt.toNat) rfl hM rfl (by omega) rfl ?_
  generalize g181 : (q.2.2.1 73) b.toInt.toNat = v180
  have x182 : v180.toInt = rA (q.2.2.1 73) b.toInt := rA_of (i := b) g181 rfl
  refine hs (f := dm_ist 18 5) (lv' := [(5, .int v180), (4, .int v177), (3, .int 0), (0, .ref 68), (1, .int a), (2, .int b)]) rfl rfl ?_
  refine hs (f := dm_push 19 (.long 0)) rfl rfl ?_
  refine hs (f := dm_lst 21 6) (lv' := [(6, .long 0), (5, .int v180), (4, .int v177), (3, .int 0), (0, .ref 68), (1, .int a), (2, .int b)]) rfl rfl ?_
  replace hM := rm_to (q' := (sB q 94 (q.2.2.2 94))) hM (Eq.trans (sB_id (q := q) (k := 94) (v := (q.2.2.2 94)) rfl) (show sB q 94 (q.2.2.2 94) = (sB q 94 (q.2.2.2 94)) from (show sB q 94 (q.2.2.2 94) = (sB q 94 (q.2.2.2 94)) from rfl)))
  replace hM := rm_to (q' := (sA (sB q 94 (q.2.2.2 94)) 95 (q.2.2.1 95))) hM (Eq.trans (sA_id (q := (sB q 94 (q.2.2.2 94))) (k := 95) (v := (q.2.2.1 95)) rfl) (show sA (sB q 94 (q.2.2.2 94)) 95 (q.2.2.1 95) = (sA (sB q 94 (q.2.2.2 94)) 95 (q.2.2.1 95)) from (show sA (sB q 94 (q.2.2.2 94)) 95 (q.2.2.1 95) = (sA (sB q 94 (q.2.2.2 94)) 95 (q.2.2.1 95)) from rfl)))
  exact (j21 _).1 (0 : Int32) v177 v180 (0 : Int64) 0 0 (q.2.2.2 94) (q.2.2.1 95) _ hM (by omega) (by omega) (by omega) (by omega) (by decide) (by intro _; exact ⟨by omega, (by rw [x179]; have z := hwa.2.1; rw [rB_seg (by omega), Int.add_zero] at z; show _ ≤ (0 : Int); omega), (by rw [x179]; have z := (eF_gt hwa (Int.le_refl _) h1a).1; have z2 := hwa.2.1; rw [rB_seg (by omega), Int.add_zero] at z2; show (0 : Int) < _; omega)⟩) (by intro _; exact ⟨by omega, (by rw [x182]; have z := hwb.2.1; rw [rB_seg (by omega), Int.add_zero] at z; show _ ≤ (0 : Int); omega), (by rw [x182]; have z := (eF_gt hwb (Int.le_refl _) h1b).1; have z2 := hwb.2.1; rw [rB_seg (by omega), Int.add_zero] at z2; show (0 : Int) < _; omega)⟩) (fun _ => Or.inl rfl) (by show (0 : Int) ≤ 0 ∧ (0 : Int) ≤ _; omega) (Or.inr rfl) ⟨[], _, rowL_nil, Nat.le_refl _, by rw [x179, x182]⟩ tI_nil (fun z => ⟨by rw [x179, x182, z], by show (0 : Int) ≤ _; omega⟩) rfl
set_option maxHeartbeats 8000000 in
theorem r_164b {X : dm_Mem} {q : rS} {M : dm_Mem} (hM : Rm X q M) (a b : Int32) (a0 : 0 ≤ a.toInt ∧ a.toInt < 1000) (b0 : 0 ≤ b.toInt ∧ b.toInt < 1000) (h0a : 0 ≤ rA (q.2.2.1 74) a.toInt) (h1a : rA (q.2.2.1 74) a.toInt ≤ rA (q.2.2.1 74) (a.toInt + 1)) (h2a : rA (q.2.2.1 74) (a.toInt + 1) ≤ 24000) (h0b : 0 ≤ rA (q.2.2.1 74) b.toInt) (h1b : rA (q.2.2.1 74) b.toInt ≤ rA (q.2.2.1 74) (b.toInt + 1)) (h2b : rA (q.2.2.1 74) (b.toInt + 1) ≤ 24000) (hoa : oS (seg (q.2.2.2 71) (rA (q.2.2.1 74) a.toInt)) (seg (q.2.2.2 72) (rA (q.2.2.1 74) a.toInt)) (rA (q.2.2.1 74) (a.toInt + 1) - rA (q.2.2.1 74) a.toInt)) (hob : oS (seg (q.2.2.2 71) (rA (q.2.2.1 74) b.toInt)) (seg (q.2.2.2 72) (rA (q.2.2.1 74) b.toInt)) (rA (q.2.2.1 74) (b.toInt + 1) - rA (q.2.2.1 74) b.toInt)) (hlen : (rA (q.2.2.1 74) (a.toInt + 1) - rA (q.2.2.1 74) a.toInt) + (rA (q.2.2.1 74) (b.toInt + 1) - rA (q.2.2.1 74) b.toInt) ≤ 22000 ∨ a = b) : hT 1 164 [.ref 68, .int a, .int b] M (fun r M' => r = none ∧ ∃ (n : Int32) (b96 b97 : Nat → Int64), oS b96 b97 n.toInt ∧ 0 ≤ n.toInt ∧ n.toInt ≤ 24000 ∧ (rA (q.2.2.1 74) a.toInt < rA (q.2.2.1 74) (a.toInt + 1) ∨ rA (q.2.2.1 74) b.toInt < rA (q.2.2.1 74) (b.toInt + 1) → 1 ≤ n.toInt) ∧ Rm X (sB (sB (sF q 34 n) 96 b96) 97 b97) M') := by
  have hfr : a = b → ∀ k : Int, rA (q.2.2.1 74) a.toInt ≤ k → k + 1 < rA (q.2.2.1 74) (a.toInt + 1) → rB (q.2.2.2 71) k < rB (q.2.2.2 71) (k + 1) := by
    intro z k k0 k1
    have z1 := hoa.1 (k - rA (q.2.2.1 74) a.toInt) (by omega) (by omega)
    have z2 := hoa.2 (k - rA (q.2.2.1 74) a.toInt) (by omega) (by omega)
    rw [rB_seg (by omega), rB_seg (by omega), show rA (q.2.2.1 74) a.toInt + (k - rA (q.2.2.1 74) a.toInt) = k by omega] at z1
    rw [rB_seg (by omega), rB_seg (by omega), show rA (q.2.2.1 74) a.toInt + (k - rA (q.2.2.1 74) a.toInt) = k by omega, show rA (q.2.2.1 74) a.toInt + (k - rA (q.2.2.1 74) a.toInt + 1) = k + 1 by omega] at z2
    omega
  have j20 : ∀ (nn : Nat), (∀ (n i j l : Int32) (f t : Int64) (b96 b97 : Nat → Int64) (M : dm_Mem), Rm X (sB (sB (sF q 34 n) 96 b96) 97 b97) M → (rA (q.2.2.1 74) a.toInt ≤ i.toInt ∧ i.toInt ≤ rA (q.2.2.1 74) (a.toInt + 1)) → (rA (q.2.2.1 74) b.toInt ≤ j.toInt ∧ j.toInt ≤ rA (q.2.2.1 74) (b.toInt + 1)) → (0 ≤ n.toInt ∧ n.toInt ≤ (i.toInt - rA (q.2.2.1 74) a.toInt) + (j.toInt - rA (q.2.2.1 74) b.toInt)) → (rA (q.2.2.1 74) a.toInt < i.toInt ∨ rA (q.2.2.1 74) b.toInt < j.toInt → 1 ≤ n.toInt) → (oS b96 b97 n.toInt) → (a = b → (i.toInt = j.toInt ∧ n.toInt ≤ i.toInt - rA (q.2.2.1 74) a.toInt) ∨ (i.toInt = j.toInt + 1 ∧ n.toInt ≤ i.toInt - rA (q.2.2.1 74) a.toInt ∧ 0 < n.toInt ∧ rB (q.2.2.2 71) j.toInt ≤ rB b97 (n.toInt - 1))) → ((rA (q.2.2.1 74) (a.toInt + 1) - i.toInt) + (rA (q.2.2.1 74) (b.toInt + 1) - j.toInt)).toNat = nn → hG 0 cd_164 20 [(4, .int j), (3, .int i), (0, .ref 68), (1, .int a), (2, .int b)] [] M (fun r M' => r = none ∧ ∃ (n : Int32) (b96 b97 : Nat → Int64), oS b96 b97 n.toInt ∧ 0 ≤ n.toInt ∧ n.toInt ≤ 24000 ∧ (rA (q.2.2.1 74) a.toInt < rA (q.2.2.1 74) (a.toInt + 1) ∨ rA (q.2.2.1 74) b.toInt < rA (q.2.2.1 74) (b.toInt + 1) → 1 ≤ n.toInt) ∧ Rm X (sB (sB (sF q 34 n) 96 b96) 97 b97) M')) ∧ (∀ (n i j l : Int32) (f t : Int64) (b96 b97 : Nat → Int64) (M : dm_Mem), Rm X (sB (sB (sF q 34 n) 96 b96) 97 b97) M → (rA (q.2.2.1 74) a.toInt ≤ i.toInt ∧ i.toInt ≤ rA (q.2.2.1 74) (a.toInt + 1)) → (rA (q.2.2.1 74) b.toInt ≤ j.toInt ∧ j.toInt ≤ rA (q.2.2.1 74) (b.toInt + 1)) → (0 ≤ n.toInt ∧ n.toInt ≤ (i.toInt - rA (q.2.2.1 74) a.toInt) + (j.toInt - rA (q.2.2.1 74) b.toInt)) → (rA (q.2.2.1 74) a.toInt < i.toInt ∨ rA (q.2.2.1 74) b.toInt < j.toInt → 1 ≤ n.toInt) → (oS b96 b97 n.toInt) → (a = b → (i.toInt = j.toInt ∧ n.toInt ≤ i.toInt - rA (q.2.2.1 74) a.toInt) ∨ (i.toInt = j.toInt + 1 ∧ n.toInt ≤ i.toInt - rA (q.2.2.1 74) a.toInt ∧ 0 < n.toInt ∧ rB (q.2.2.2 71) j.toInt ≤ rB b97 (n.toInt - 1))) → ((rA (q.2.2.1 74) (a.toInt + 1) - i.toInt) + (rA (q.2.2.1 74) (b.toInt + 1) - j.toInt)).toNat = nn → hG 0 cd_164 20 [(3, .int i), (8, .long t), (6, .long f), (5, .int l), (4, .int j), (0, .ref 68), (1, .int a), (2, .int b)] [] M (fun r M' => r = none ∧ ∃ (n : Int32) (b96 b97 : Nat → Int64), oS b96 b97 n.toInt ∧ 0 ≤ n.toInt ∧ n.toInt ≤ 24000 ∧ (rA (q.2.2.1 74) a.toInt < rA (q.2.2.1 74) (a.toInt + 1) ∨ rA (q.2.2.1 74) b.toInt < rA (q.2.2.1 74) (b.toInt + 1) → 1 ≤ n.toInt) ∧ Rm X (sB (sB (sF q 34 n) 96 b96) 97 b97) M')) ∧ (∀ (n i j l : Int32) (f t : Int64) (b96 b97 : Nat → Int64) (M : dm_Mem), Rm X (sB (sB (sF q 34 n) 96 b96) 97 b97) M → (rA (q.2.2.1 74) a.toInt ≤ i.toInt ∧ i.toInt ≤ rA (q.2.2.1 74) (a.toInt + 1)) → (rA (q.2.2.1 74) b.toInt ≤ j.toInt ∧ j.toInt ≤ rA (q.2.2.1 74) (b.toInt + 1)) → (0 ≤ n.toInt ∧ n.toInt ≤ (i.toInt - rA (q.2.2.1 74) a.toInt) + (j.toInt - rA (q.2.2.1 74) b.toInt)) → (rA (q.2.2.1 74) a.toInt < i.toInt ∨ rA (q.2.2.1 74) b.toInt < j.toInt → 1 ≤ n.toInt) → (oS b96 b97 n.toInt) → (a = b → (i.toInt = j.toInt ∧ n.toInt ≤ i.toInt - rA (q.2.2.1 74) a.toInt) ∨ (i.toInt = j.toInt + 1 ∧ n.toInt ≤ i.toInt - rA (q.2.2.1 74) a.toInt ∧ 0 < n.toInt ∧ rB (q.2.2.2 71) j.toInt ≤ rB b97 (n.toInt - 1))) → ((rA (q.2.2.1 74) (a.toInt + 1) - i.toInt) + (rA (q.2.2.1 74) (b.toInt + 1) - j.toInt)).toNat = nn → hG 0 cd_164 20 [(4, .int j), (8, .long t), (6, .long f), (5, .int l), (3, .int i), (0, .ref 68), (1, .int a), (2, .int b)] [] M (fun r M' => r = none ∧ ∃ (n : Int32) (b96 b97 : Nat → Int64), oS b96 b97 n.toInt ∧ 0 ≤ n.toInt ∧ n.toInt ≤ 24000 ∧ (rA (q.2.2.1 74) a.toInt < rA (q.2.2.1 74) (a.toInt + 1) ∨ rA (q.2.2.1 74) b.toInt < rA (q.2.2.1 74) (b.toInt + 1) → 1 ≤ n.toInt) ∧ Rm X (sB (sB (sF q 34 n) 96 b96) 97 b97) M')) := by
    intro nn
    induction nn using Nat.strongRecOn with
    | ind nn IH =>
      refine ⟨?_, ?_, ?_⟩
      · skip
        intro n i j l f t b96 b97 M hM i0 j0 n0 n1 hx nab hms
        have j154 : (∀ (i2 j2 l9 : Int32) (f9 t9 : Int64) (M : dm_Mem), Rm X (sB (sB (sF q 34 n) 96 b96) 97 b97) M → (rA (q.2.2.1 74) a.toInt ≤ i2.toInt ∧ i2.toInt ≤ rA (q.2.2.1 74) (a.toInt + 1)) → (rA (q.2.2.1 74) b.toInt ≤ j2.toInt ∧ j2.toInt ≤ rA (q.2.2.1 74) (b.toInt + 1)) → (0 ≤ f9.toInt ∧ f9.toInt < t9.toInt ∧ t9.toInt ≤ 1152921504606846976) → (n.toInt + 1 ≤ (i2.toInt - rA (q.2.2.1 74) a.toInt) + (j2.toInt - rA (q.2.2.1 74) b.toInt)) → (((rA (q.2.2.1 74) (a.toInt + 1) - i2.toInt) + (rA (q.2.2.1 74) (b.toInt + 1) - j2.toInt)).toNat < nn) → (a = b → (i2.toInt = j2.toInt + 1 ∧ n.toInt + 1 ≤ i2.toInt - rA (q.2.2.1 74) a.toInt ∧ rB (q.2.2.2 71) j2.toInt ≤ f9.toInt) ∨ (i2.toInt = j2.toInt ∧ n.toInt ≤ i2.toInt - rA (q.2.2.1 74) a.toInt ∧ 0 < n.toInt ∧ f9.toInt ≤ rB b97 (n.toInt - 1))) → hG 0 cd_164 154 [(3, .int i2), (8, .long t9), (6, .long f9), (5, .int l9), (4, .int j2), (0, .ref 68), (1, .int a), (2, .int b)] [] M (fun r M' => r = none ∧ ∃ (n : Int32) (b96 b97 : Nat → Int64), oS b96 b97 n.toInt ∧ 0 ≤ n.toInt ∧ n.toInt ≤ 24000 ∧ (rA (q.2.2.1 74) a.toInt < rA (q.2.2.1 74) (a.toInt + 1) ∨ rA (q.2.2.1 74) b.toInt < rA (q.2.2.1 74) (b.toInt + 1) → 1 ≤ n.toInt) ∧ Rm X (sB (sB (sF q 34 n) 96 b96) 97 b97) M')) ∧ (∀ (i2 j2 l9 : Int32) (f9 t9 : Int64) (M : dm_Mem), Rm X (sB (sB (sF q 34 n) 96 b96) 97 b97) M → (rA (q.2.2.1 74) a.toInt ≤ i2.toInt ∧ i2.toInt ≤ rA (q.2.2.1 74) (a.toInt + 1)) → (rA (q.2.2.1 74) b.toInt ≤ j2.toInt ∧ j2.toInt ≤ rA (q.2.2.1 74) (b.toInt + 1)) → (0 ≤ f9.toInt ∧ f9.toInt < t9.toInt ∧ t9.toInt ≤ 1152921504606846976) → (n.toInt + 1 ≤ (i2.toInt - rA (q.2.2.1 74) a.toInt) + (j2.toInt - rA (q.2.2.1 74) b.toInt)) → (((rA (q.2.2.1 74) (a.toInt + 1) - i2.toInt) + (rA (q.2.2.1 74) (b.toInt + 1) - j2.toInt)).toNat < nn) → (a = b → (i2.toInt = j2.toInt + 1 ∧ n.toInt + 1 ≤ i2.toInt - rA (q.2.2.1 74) a.toInt ∧ rB (q.2.2.2 71) j2.toInt ≤ f9.toInt) ∨ (i2.toInt = j2.toInt ∧ n.toInt ≤ i2.toInt - rA (q.2.2.1 74) a.toInt ∧ 0 < n.toInt ∧ f9.toInt ≤ rB b97 (n.toInt - 1))) → hG 0 cd_164 154 [(4, .int j2), (8, .long t9), (6, .long f9), (5, .int l9), (3, .int i2), (0, .ref 68), (1, .int a), (2, .int b)] [] M (fun r M' => r = none ∧ ∃ (n : Int32) (b96 b97 : Nat → Int64), oS b96 b97 n.toInt ∧ 0 ≤ n.toInt ∧ n.toInt ≤ 24000 ∧ (rA (q.2.2.1 74) a.toInt < rA (q.2.2.1 74) (a.toInt + 1) ∨ rA (q.2.2.1 74) b.toInt < rA (q.2.2.1 74) (b.toInt + 1) → 1 ≤ n.toInt) ∧ Rm X (sB (sB (sF q 34 n) 96 b96) 97 b97) M')) := by
          refine ⟨?_, ?_⟩
          · skip
            intro i2 j2 l9 f9 t9 M hM i3 j3 ft n3 hdec nab2
            have hn24 : n.toInt ≤ 24000 := by rcases hlen with zz | zz <;> first | omega | (rcases nab2 zz with zn | zn <;> omega)
            refine hs (f := dm_ald 155 0) rfl rfl ?_
            refine r_geti n rfl hM rfl rfl ?_
            refine g_if_le (n := 161) (tt := 211) rfl (fun h1 => ?_) (fun h1 => ?_)
            · skip
              have h1 : n.toInt ≤ 0 := h1
              refine hs (f := dm_ald 212 0) rfl rfl ?_
              refine r_geta (c := 93) rfl hM rfl ?_
              refine hs (f := dm_ald 216 0) rfl rfl ?_
              refine r_geti n rfl hM rfl rfl ?_
              refine hs (f := dm_lld 221 6) rfl rfl ?_
              refine r_last (L := 24000) (i := n) (x := f9) b96 rfl hM rfl (by rcases hlen with zz | zz <;> first | omega | (rcases nab2 zz with zn | zn <;> omega)) rfl (fun M2 hM2 => ?_)
              replace hM2 := rm_to (q' := (sB (sB (sF q 34 n) 96 (vp_updL b96 n.toInt.toNat f9)) 97 b97)) hM2 (show sB (sB (sB (sF q 34 n) 96 b96) 97 b97) 96 (vp_updL b96 n.toInt.toNat f9) = (sB (sB (sF q 34 n) 96 (vp_updL b96 n.toInt.toNat f9)) 97 b97) from (show sB (sB (sB (sF q 34 n) 96 b96) 97 b97) 96 (vp_updL b96 n.toInt.toNat f9) = (sB (sB (sF q 34 n) 96 (vp_updL b96 n.toInt.toNat f9)) 97 b97) from Eq.trans (show sB (sB (sB (sF q 34 n) 96 b96) 97 b97) 96 (vp_updL b96 n.toInt.toNat f9) = sB (sB (sB (sF q 34 n) 96 b96) 96 (vp_updL b96 n.toInt.toNat f9)) 97 b97 from sB_cm (by decide)) (congrArg (fun z => sB z 97 b97) (show sB (sB (sF q 34 n) 96 b96) 96 (vp_updL b96 n.toInt.toNat f9) = (sB (sF q 34 n) 96 (vp_updL b96 n.toInt.toNat f9)) from sB_sB))))
              refine hs (f := dm_ald 223 0) rfl rfl ?_
              refine r_geta (c := 94) rfl hM2 rfl ?_
              refine hs (f := dm_ald 227 0) rfl rfl ?_
              refine r_geti n rfl hM2 rfl rfl ?_
              refine hs (f := dm_lld 232 8) rfl rfl ?_
              refine r_last (L := 24000) (i := n) (x := t9) b97 rfl hM2 rfl (by rcases hlen with zz | zz <;> first | omega | (rcases nab2 zz with zn | zn <;> omega)) rfl (fun M3 hM3 => ?_)
              replace hM3 := rm_to (q' := (sB (sB (sF q 34 n) 96 (vp_updL b96 n.toInt.toNat f9)) 97 (vp_updL b97 n.toInt.toNat t9))) hM3 (show sB (sB (sB (sF q 34 n) 96 (vp_updL b96 n.toInt.toNat f9)) 97 b97) 97 (vp_updL b97 n.toInt.toNat t9) = (sB (sB (sF q 34 n) 96 (vp_updL b96 n.toInt.toNat f9)) 97 (vp_updL b97 n.toInt.toNat t9)) from (show sB (sB (sB (sF q 34 n) 96 (vp_updL b96 n.toInt.toNat f9)) 97 b97) 97 (vp_updL b97 n.toInt.toNat t9) = (sB (sB (sF q 34 n) 96 (vp_updL b96 n.toInt.toNat f9)) 97 (vp_updL b97 n.toInt.toNat t9)) from sB_sB))
              refine hs (f := dm_ald 234 0) rfl rfl ?_
              refine hs (f := dm_dup 235) (st' := [.ref 68, .ref 68]) rfl rfl ?_
              refine r_geti n rfl hM3 rfl rfl ?_
              refine hs (f := dm_push 239 (.int 1)) rfl rfl ?_
              have e4 : (n + (1 : Int32)).toInt = n.toInt + 1 := by have w := i_addc (x := n) (y := (1 : Int32)) 1 rfl (by omega) (by omega); omega
              refine hs (f := dm_ii 240 (fun x y => x + y)) (st' := [.int (n + (1 : Int32)), .ref 68]) rfl rfl ?_
              refine r_puti rfl hM3 rfl (fun M5 hM5 => ?_)
              replace hM5 := rm_to (q' := (sB (sB (sF q 34 (n + (1 : Int32))) 96 (vp_updL b96 n.toInt.toNat f9)) 97 (vp_updL b97 n.toInt.toNat t9))) hM5 (show sF (sB (sB (sF q 34 n) 96 (vp_updL b96 n.toInt.toNat f9)) 97 (vp_updL b97 n.toInt.toNat t9)) 34 (n + (1 : Int32)) = (sB (sB (sF q 34 (n + (1 : Int32))) 96 (vp_updL b96 n.toInt.toNat f9)) 97 (vp_updL b97 n.toInt.toNat t9)) from (congrArg (fun z => (sB (sB z 96 (vp_updL b96 n.toInt.toNat f9)) 97 (vp_updL b97 n.toInt.toNat t9))) (show sF (sF q 34 n) 34 (n + (1 : Int32)) = (sF q 34 (n + (1 : Int32))) from sF_sF)))
              refine hs (f := dm_goto 20) rfl rfl ?_
              exact (IH _ hdec).2.1 (n + (1 : Int32)) i2 j2 l9 f9 t9 (vp_updL b96 n.toInt.toNat f9) (vp_updL b97 n.toInt.toNat t9) _ hM5 (by omega) (by omega) (by omega) (fun _ => by omega) (by rw [e4]; exact oS_app hx (Int.toNat_of_nonneg n0.1).symm (fun z => by omega) ft.1 ft.2.1 ft.2.2) (fun z => by rcases nab2 z with ⟨y1, y2, y3⟩ | ⟨y1, y2, y3, y4⟩ <;> first | exact Or.inr ⟨y1, by omega, by omega, by rw [e4, rB_upd (by omega), if_pos (by omega)]; omega⟩ | exact absurd y4 (by omega)) rfl
            · skip
              have h1 : n.toInt > 0 := h1
              refine hs (f := dm_ald 162 0) rfl rfl ?_
              refine r_geta (c := 94) rfl hM rfl ?_
              refine hs (f := dm_ald 166 0) rfl rfl ?_
              refine r_geti n rfl hM rfl rfl ?_
              refine hs (f := dm_push 170 (.int 1)) rfl rfl ?_
              have e6 : (n - (1 : Int32)).toInt = n.toInt - 1 := by have w := i_subc (x := n) (y := (1 : Int32)) 1 rfl (by omega) (by omega); omega
              refine hs (f := dm_ii 171 (fun x y => x - y)) (st' := [.int (n - (1 : Int32)), .ref 97]) rfl rfl ?_
              refine r_lald (L := 24000) (i := (n - (1 : Int32))) (b97 (n - (1 : Int32)).toInt.toNat) rfl hM rfl (by omega) rfl ?_
              generalize g8 : b97 (n - (1 : Int32)).toInt.toNat = v7
              have x9 : v7.toInt = rB b97 (n.toInt - 1) := rB_of (i := (n - (1 : Int32))) g8 e6
              refine hs (f := dm_lld 174 6) rfl rfl ?_
              refine g_lc_lt (x := v7) (y := f9) (m := 175) (n := 178) (tt := 211) rfl rfl (fun h10 => ?_) (fun h10 => ?_)
              · skip
                have h10 : v7.toInt < f9.toInt := h10
                refine hs (f := dm_ald 212 0) rfl rfl ?_
                refine r_geta (c := 93) rfl hM rfl ?_
                refine hs (f := dm_ald 216 0) rfl rfl ?_
                refine r_geti n rfl hM rfl rfl ?_
                refine hs (f := dm_lld 221 6) rfl rfl ?_
                refine r_last (L := 24000) (i := n) (x := f9) b96 rfl hM rfl (by rcases hlen with zz | zz <;> first | omega | (rcases nab2 zz with zn | zn <;> omega)) rfl (fun M11 hM11 => ?_)
                replace hM11 := rm_to (q' := (sB (sB (sF q 34 n) 96 (vp_updL b96 n.toInt.toNat f9)) 97 b97)) hM11 (show sB (sB (sB (sF q 34 n) 96 b96) 97 b97) 96 (vp_updL b96 n.toInt.toNat f9) = (sB (sB (sF q 34 n) 96 (vp_updL b96 n.toInt.toNat f9)) 97 b97) from (show sB (sB (sB (sF q 34 n) 96 b96) 97 b97) 96 (vp_updL b96 n.toInt.toNat f9) = (sB (sB (sF q 34 n) 96 (vp_updL b96 n.toInt.toNat f9)) 97 b97) from Eq.trans (show sB (sB (sB (sF q 34 n) 96 b96) 97 b97) 96 (vp_updL b96 n.toInt.toNat f9) = sB (sB (sB (sF q 34 n) 96 b96) 96 (vp_updL b96 n.toInt.toNat f9)) 97 b97 from sB_cm (by decide)) (congrArg (fun z => sB z 97 b97) (show sB (sB (sF q 34 n) 96 b96) 96 (vp_updL b96 n.toInt.toNat f9) = (sB (sF q 34 n) 96 (vp_updL b96 n.toInt.toNat f9)) from sB_sB))))
                refine hs (f := dm_ald 223 0) rfl rfl ?_
                refine r_geta (c := 94) rfl hM11 rfl ?_
                refine hs (f := dm_ald 227 0) rfl rfl ?_
                refine r_geti n rfl hM11 rfl rfl ?_
                refine hs (f := dm_lld 232 8) rfl rfl ?_
                refine r_last (L := 24000) (i := n) (x := t9) b97 rfl hM11 rfl (by rcases hlen with zz | zz <;> first | omega | (rcases nab2 zz with zn | zn <;> omega)) rfl (fun M12 hM12 => ?_)
                replace hM12 := rm_to (q' := (sB (sB (sF q 34 n) 96 (vp_updL b96 n.toInt.toNat f9)) 97 (vp_updL b97 n.toInt.toNat t9))) hM12 (show sB (sB (sB (sF q 34 n) 96 (vp_updL b96 n.toInt.toNat f9)) 97 b97) 97 (vp_updL b97 n.toInt.toNat t9) = (sB (sB (sF q 34 n) 96 (vp_updL b96 n.toInt.toNat f9)) 97 (vp_updL b97 n.toInt.toNat t9)) from (show sB (sB (sB (sF q 34 n) 96 (vp_updL b96 n.toInt.toNat f9)) 97 b97) 97 (vp_updL b97 n.toInt.toNat t9) = (sB (sB (sF q 34 n) 96 (vp_updL b96 n.toInt.toNat f9)) 97 (vp_updL b97 n.toInt.toNat t9)) from sB_sB))
                refine hs (f := dm_ald 234 0) rfl rfl ?_
                refine hs (f := dm_dup 235) (st' := [.ref 68, .ref 68]) rfl rfl ?_
                refine r_geti n rfl hM12 rfl rfl ?_
                refine hs (f := dm_push 239 (.int 1)) rfl rfl ?_
                have e13 : (n + (1 : Int32)).toInt = n.toInt + 1 := by have w := i_addc (x := n) (y := (1 : Int32)) 1 rfl (by omega) (by omega); omega
                refine hs (f := dm_ii 240 (fun x y => x + y)) (st' := [.int (n + (1 : Int32)), .ref 68]) rfl rfl ?_
                refine r_puti rfl hM12 rfl (fun M14 hM14 => ?_)
                replace hM14 := rm_to (q' := (sB (sB (sF q 34 (n + (1 : Int32))) 96 (vp_updL b96 n.toInt.toNat f9)) 97 (vp_updL b97 n.toInt.toNat t9))) hM14 (show sF (sB (sB (sF q 34 n) 96 (vp_updL b96 n.toInt.toNat f9)) 97 (vp_updL b97 n.toInt.toNat t9)) 34 (n + (1 : Int32)) = (sB (sB (sF q 34 (n + (1 : Int32))) 96 (vp_updL b96 n.toInt.toNat f9)) 97 (vp_updL b97 n.toInt.toNat t9)) from (congrArg (fun z => (sB (sB z 96 (vp_updL b96 n.toInt.toNat f9)) 97 (vp_updL b97 n.toInt.toNat t9))) (show sF (sF q 34 n) 34 (n + (1 : Int32)) = (sF q 34 (n + (1 : Int32))) from sF_sF)))
                refine hs (f := dm_goto 20) rfl rfl ?_
                exact (IH _ hdec).2.1 (n + (1 : Int32)) i2 j2 l9 f9 t9 (vp_updL b96 n.toInt.toNat f9) (vp_updL b97 n.toInt.toNat t9) _ hM14 (by omega) (by omega) (by omega) (fun _ => by omega) (by rw [e13]; exact oS_app hx (Int.toNat_of_nonneg n0.1).symm (fun z => by omega) ft.1 ft.2.1 ft.2.2) (fun z => by rcases nab2 z with ⟨y1, y2, y3⟩ | ⟨y1, y2, y3, y4⟩ <;> first | exact Or.inr ⟨y1, by omega, by omega, by rw [e13, rB_upd (by omega), if_pos (by omega)]; omega⟩ | exact absurd y4 (by omega)) rfl
              · skip
                have h10 : v7.toInt ≥ f9.toInt := h10
                refine hs (f := dm_lld 180 8) rfl rfl ?_
                refine hs (f := dm_ald 181 0) rfl rfl ?_
                refine r_geta (c := 94) rfl hM rfl ?_
                refine hs (f := dm_ald 185 0) rfl rfl ?_
                refine r_geti n rfl hM rfl rfl ?_
                refine hs (f := dm_push 189 (.int 1)) rfl rfl ?_
                have e15 : (n - (1 : Int32)).toInt = n.toInt - 1 := by have w := i_subc (x := n) (y := (1 : Int32)) 1 rfl (by omega) (by omega); omega
                refine hs (f := dm_ii 190 (fun x y => x - y)) (st' := [.int (n - (1 : Int32)), .ref 97, .long t9]) rfl rfl ?_
                refine r_lald (L := 24000) (i := (n - (1 : Int32))) (b97 (n - (1 : Int32)).toInt.toNat) rfl hM rfl (by omega) rfl ?_
                generalize g17 : b97 (n - (1 : Int32)).toInt.toNat = v16
                have x18 : v16.toInt = rB b97 (n.toInt - 1) := rB_of (i := (n - (1 : Int32))) g17 e15
                refine g_lc_le (x := t9) (y := v16) (m := 192) (n := 195) (tt := 243) rfl rfl (fun h19 => ?_) (fun h19 => ?_)
                · skip
                  have h19 : t9.toInt ≤ v16.toInt := h19
                  refine hs (f := dm_goto 20) rfl rfl ?_
                  exact (IH _ hdec).2.1 n i2 j2 l9 f9 t9 b96 b97 _ hM (by omega) (by omega) (by omega) (fun _ => by omega) hx (fun z => by rcases nab2 z with ⟨y1, y2, y3⟩ | ⟨y1, y2, y3, y4⟩ <;> first | exact Or.inr ⟨y1, by omega, by omega, by omega⟩ | exact Or.inl ⟨y1, y2⟩) rfl
                · skip
                  have h19 : t9.toInt > v16.toInt := h19
                  refine hs (f := dm_ald 196 0) rfl rfl ?_
                  refine r_geta (c := 94) rfl hM rfl ?_
                  refine hs (f := dm_ald 200 0) rfl rfl ?_
                  refine r_geti n rfl hM rfl rfl ?_
                  refine hs (f := dm_push 204 (.int 1)) rfl rfl ?_
                  have e20 : (n - (1 : Int32)).toInt = n.toInt - 1 := by have w := i_subc (x := n) (y := (1 : Int32)) 1 rfl (by omega) (by omega); omega
                  refine hs (f := dm_ii 205 (fun x y => x - y)) (st' := [.int (n - (1 : Int32)), .ref 97]) rfl rfl ?_
                  refine hs (f := dm_lld 207 8) rfl rfl ?_
                  refine r_last (L := 24000) (i := (n - (1 : Int32))) (x := t9) b97 rfl hM rfl (by omega) rfl (fun M21 hM21 => ?_)
                  replace hM21 := rm_to (q' := (sB (sB (sF q 34 n) 96 b96) 97 (vp_updL b97 (n - (1 : Int32)).toInt.toNat t9))) hM21 (show sB (sB (sB (sF q 34 n) 96 b96) 97 b97) 97 (vp_updL b97 (n - (1 : Int32)).toInt.toNat t9) = (sB (sB (sF q 34 n) 96 b96) 97 (vp_updL b97 (n - (1 : Int32)).toInt.toNat t9)) from (show sB (sB (sB (sF q 34 n) 96 b96) 97 b97) 97 (vp_updL b97 (n - (1 : Int32)).toInt.toNat t9) = (sB (sB (sF q 34 n) 96 b96) 97 (vp_updL b97 (n - (1 : Int32)).toInt.toNat t9)) from sB_sB))
                  refine hs (f := dm_goto 243) rfl rfl ?_
                  refine hs (f := dm_goto 20) rfl rfl ?_
                  exact (IH _ hdec).2.1 n i2 j2 l9 f9 t9 b96 (vp_updL b97 (n - (1 : Int32)).toInt.toNat t9) _ hM21 (by omega) (by omega) (by omega) (fun _ => by omega) (oS_ext hx (by omega) (show n.toInt - 1 = _ by omega) (by omega) ft.2.2) (fun z => by rcases nab2 z with ⟨y1, y2, y3⟩ | ⟨y1, y2, y3, y4⟩ <;> first | exact Or.inr ⟨y1, by omega, by omega, by rw [rB_upd (by omega), if_pos (by omega)]; omega⟩ | exact Or.inl ⟨y1, y2⟩) rfl
          · skip
            intro i2 j2 l9 f9 t9 M hM i3 j3 ft n3 hdec nab2
            have hn24 : n.toInt ≤ 24000 := by rcases hlen with zz | zz <;> first | omega | (rcases nab2 zz with zn | zn <;> omega)
            refine hs (f := dm_ald 155 0) rfl rfl ?_
            refine r_geti n rfl hM rfl rfl ?_
            refine g_if_le (n := 161) (tt := 211) rfl (fun h22 => ?_) (fun h22 => ?_)
            · skip
              have h22 : n.toInt ≤ 0 := h22
              refine hs (f := dm_ald 212 0) rfl rfl ?_
              refine r_geta (c := 93) rfl hM rfl ?_
              refine hs (f := dm_ald 216 0) rfl rfl ?_
              refine r_geti n rfl hM rfl rfl ?_
              refine hs (f := dm_lld 221 6) rfl rfl ?_
              refine r_last (L := 24000) (i := n) (x := f9) b96 rfl hM rfl (by rcases hlen with zz | zz <;> first | omega | (rcases nab2 zz with zn | zn <;> omega)) rfl (fun M23 hM23 => ?_)
              replace hM23 := rm_to (q' := (sB (sB (sF q 34 n) 96 (vp_updL b96 n.toInt.toNat f9)) 97 b97)) hM23 (show sB (sB (sB (sF q 34 n) 96 b96) 97 b97) 96 (vp_updL b96 n.toInt.toNat f9) = (sB (sB (sF q 34 n) 96 (vp_updL b96 n.toInt.toNat f9)) 97 b97) from (show sB (sB (sB (sF q 34 n) 96 b96) 97 b97) 96 (vp_updL b96 n.toInt.toNat f9) = (sB (sB (sF q 34 n) 96 (vp_updL b96 n.toInt.toNat f9)) 97 b97) from Eq.trans (show sB (sB (sB (sF q 34 n) 96 b96) 97 b97) 96 (vp_updL b96 n.toInt.toNat f9) = sB (sB (sB (sF q 34 n) 96 b96) 96 (vp_updL b96 n.toInt.toNat f9)) 97 b97 from sB_cm (by decide)) (congrArg (fun z => sB z 97 b97) (show sB (sB (sF q 34 n) 96 b96) 96 (vp_updL b96 n.toInt.toNat f9) = (sB (sF q 34 n) 96 (vp_updL b96 n.toInt.toNat f9)) from sB_sB))))
              refine hs (f := dm_ald 223 0) rfl rfl ?_
              refine r_geta (c := 94) rfl hM23 rfl ?_
              refine hs (f := dm_ald 227 0) rfl rfl ?_
              refine r_geti n rfl hM23 rfl rfl ?_
              refine hs (f := dm_lld 232 8) rfl rfl ?_
              refine r_last (L := 24000) (i := n) (x := t9) b97 rfl hM23 rfl (by rcases hlen with zz | zz <;> first | omega | (rcases nab2 zz with zn | zn <;> omega)) rfl (fun M24 hM24 => ?_)
              replace hM24 := rm_to (q' := (sB (sB (sF q 34 n) 96 (vp_updL b96 n.toInt.toNat f9)) 97 (vp_updL b97 n.toInt.toNat t9))) hM24 (show sB (sB (sB (sF q 34 n) 96 (vp_updL b96 n.toInt.toNat f9)) 97 b97) 97 (vp_updL b97 n.toInt.toNat t9) = (sB (sB (sF q 34 n) 96 (vp_updL b96 n.toInt.toNat f9)) 97 (vp_updL b97 n.toInt.toNat t9)) from (show sB (sB (sB (sF q 34 n) 96 (vp_updL b96 n.toInt.toNat f9)) 97 b97) 97 (vp_updL b97 n.toInt.toNat t9) = (sB (sB (sF q 34 n) 96 (vp_updL b96 n.toInt.toNat f9)) 97 (vp_updL b97 n.toInt.toNat t9)) from sB_sB))
              refine hs (f := dm_ald 234 0) rfl rfl ?_
              refine hs (f := dm_dup 235) (st' := [.ref 68, .ref 68]) rfl rfl ?_
              refine r_geti n rfl hM24 rfl rfl ?_
              refine hs (f := dm_push 239 (.int 1)) rfl rfl ?_
              have e25 : (n + (1 : Int32)).toInt = n.toInt + 1 := by have w := i_addc (x := n) (y := (1 : Int32)) 1 rfl (by omega) (by omega); omega
              refine hs (f := dm_ii 240 (fun x y => x + y)) (st' := [.int (n + (1 : Int32)), .ref 68]) rfl rfl ?_
              refine r_puti rfl hM24 rfl (fun M26 hM26 => ?_)
              replace hM26 := rm_to (q' := (sB (sB (sF q 34 (n + (1 : Int32))) 96 (vp_updL b96 n.toInt.toNat f9)) 97 (vp_updL b97 n.toInt.toNat t9))) hM26 (show sF (sB (sB (sF q 34 n) 96 (vp_updL b96 n.toInt.toNat f9)) 97 (vp_updL b97 n.toInt.toNat t9)) 34 (n + (1 : Int32)) = (sB (sB (sF q 34 (n + (1 : Int32))) 96 (vp_updL b96 n.toInt.toNat f9)) 97 (vp_updL b97 n.toInt.toNat t9)) from (congrArg (fun z => (sB (sB z 96 (vp_updL b96 n.toInt.toNat f9)) 97 (vp_updL b97 n.toInt.toNat t9))) (show sF (sF q 34 n) 34 (n + (1 : Int32)) = (sF q 34 (n + (1 : Int32))) from sF_sF)))
              refine hs (f := dm_goto 20) rfl rfl ?_
              exact (IH _ hdec).2.2 (n + (1 : Int32)) i2 j2 l9 f9 t9 (vp_updL b96 n.toInt.toNat f9) (vp_updL b97 n.toInt.toNat t9) _ hM26 (by omega) (by omega) (by omega) (fun _ => by omega) (by rw [e25]; exact oS_app hx (Int.toNat_of_nonneg n0.1).symm (fun z => by omega) ft.1 ft.2.1 ft.2.2) (fun z => by rcases nab2 z with ⟨y1, y2, y3⟩ | ⟨y1, y2, y3, y4⟩ <;> first | exact Or.inr ⟨y1, by omega, by omega, by rw [e25, rB_upd (by omega), if_pos (by omega)]; omega⟩ | exact absurd y4 (by omega)) rfl
            · skip
              have h22 : n.toInt > 0 := h22
              refine hs (f := dm_ald 162 0) rfl rfl ?_
              refine r_geta (c := 94) rfl hM rfl ?_
              refine hs (f := dm_ald 166 0) rfl rfl ?_
              refine r_geti n rfl hM rfl rfl ?_
              refine hs (f := dm_push 170 (.int 1)) rfl rfl ?_
              have e27 : (n - (1 : Int32)).toInt = n.toInt - 1 := by have w := i_subc (x := n) (y := (1 : Int32)) 1 rfl (by omega) (by omega); omega
              refine hs (f := dm_ii 171 (fun x y => x - y)) (st' := [.int (n - (1 : Int32)), .ref 97]) rfl rfl ?_
              refine r_lald (L := 24000) (i := (n - (1 : Int32))) (b97 (n - (1 : Int32)).toInt.toNat) rfl hM rfl (by omega) rfl ?_
              generalize g29 : b97 (n - (1 : Int32)).toInt.toNat = v28
              have x30 : v28.toInt = rB b97 (n.toInt - 1) := rB_of (i := (n - (1 : Int32))) g29 e27
              refine hs (f := dm_lld 174 6) rfl rfl ?_
              refine g_lc_lt (x := v28) (y := f9) (m := 175) (n := 178) (tt := 211) rfl rfl (fun h31 => ?_) (fun h31 => ?_)
              · skip
                have h31 : v28.toInt < f9.toInt := h31
                refine hs (f := dm_ald 212 0) rfl rfl ?_
                refine r_geta (c := 93) rfl hM rfl ?_
                refine hs (f := dm_ald 216 0) rfl rfl ?_
                refine r_geti n rfl hM rfl rfl ?_
                refine hs (f := dm_lld 221 6) rfl rfl ?_
                refine r_last (L := 24000) (i := n) (x := f9) b96 rfl hM rfl (by rcases hlen with zz | zz <;> first | omega | (rcases nab2 zz with zn | zn <;> omega)) rfl (fun M32 hM32 => ?_)
                replace hM32 := rm_to (q' := (sB (sB (sF q 34 n) 96 (vp_updL b96 n.toInt.toNat f9)) 97 b97)) hM32 (show sB (sB (sB (sF q 34 n) 96 b96) 97 b97) 96 (vp_updL b96 n.toInt.toNat f9) = (sB (sB (sF q 34 n) 96 (vp_updL b96 n.toInt.toNat f9)) 97 b97) from (show sB (sB (sB (sF q 34 n) 96 b96) 97 b97) 96 (vp_updL b96 n.toInt.toNat f9) = (sB (sB (sF q 34 n) 96 (vp_updL b96 n.toInt.toNat f9)) 97 b97) from Eq.trans (show sB (sB (sB (sF q 34 n) 96 b96) 97 b97) 96 (vp_updL b96 n.toInt.toNat f9) = sB (sB (sB (sF q 34 n) 96 b96) 96 (vp_updL b96 n.toInt.toNat f9)) 97 b97 from sB_cm (by decide)) (congrArg (fun z => sB z 97 b97) (show sB (sB (sF q 34 n) 96 b96) 96 (vp_updL b96 n.toInt.toNat f9) = (sB (sF q 34 n) 96 (vp_updL b96 n.toInt.toNat f9)) from sB_sB))))
                refine hs (f := dm_ald 223 0) rfl rfl ?_
                refine r_geta (c := 94) rfl hM32 rfl ?_
                refine hs (f := dm_ald 227 0) rfl rfl ?_
                refine r_geti n rfl hM32 rfl rfl ?_
                refine hs (f := dm_lld 232 8) rfl rfl ?_
                refine r_last (L := 24000) (i := n) (x := t9) b97 rfl hM32 rfl (by rcases hlen with zz | zz <;> first | omega | (rcases nab2 zz with zn | zn <;> omega)) rfl (fun M33 hM33 => ?_)
                replace hM33 := rm_to (q' := (sB (sB (sF q 34 n) 96 (vp_updL b96 n.toInt.toNat f9)) 97 (vp_updL b97 n.toInt.toNat t9))) hM33 (show sB (sB (sB (sF q 34 n) 96 (vp_updL b96 n.toInt.toNat f9)) 97 b97) 97 (vp_updL b97 n.toInt.toNat t9) = (sB (sB (sF q 34 n) 96 (vp_updL b96 n.toInt.toNat f9)) 97 (vp_updL b97 n.toInt.toNat t9)) from (show sB (sB (sB (sF q 34 n) 96 (vp_updL b96 n.toInt.toNat f9)) 97 b97) 97 (vp_updL b97 n.toInt.toNat t9) = (sB (sB (sF q 34 n) 96 (vp_updL b96 n.toInt.toNat f9)) 97 (vp_updL b97 n.toInt.toNat t9)) from sB_sB))
                refine hs (f := dm_ald 234 0) rfl rfl ?_
                refine hs (f := dm_dup 235) (st' := [.ref 68, .ref 68]) rfl rfl ?_
                refine r_geti n rfl hM33 rfl rfl ?_
                refine hs (f := dm_push 239 (.int 1)) rfl rfl ?_
                have e34 : (n + (1 : Int32)).toInt = n.toInt + 1 := by have w := i_addc (x := n) (y := (1 : Int32)) 1 rfl (by omega) (by omega); omega
                refine hs (f := dm_ii 240 (fun x y => x + y)) (st' := [.int (n + (1 : Int32)), .ref 68]) rfl rfl ?_
                refine r_puti rfl hM33 rfl (fun M35 hM35 => ?_)
                replace hM35 := rm_to (q' := (sB (sB (sF q 34 (n + (1 : Int32))) 96 (vp_updL b96 n.toInt.toNat f9)) 97 (vp_updL b97 n.toInt.toNat t9))) hM35 (show sF (sB (sB (sF q 34 n) 96 (vp_updL b96 n.toInt.toNat f9)) 97 (vp_updL b97 n.toInt.toNat t9)) 34 (n + (1 : Int32)) = (sB (sB (sF q 34 (n + (1 : Int32))) 96 (vp_updL b96 n.toInt.toNat f9)) 97 (vp_updL b97 n.toInt.toNat t9)) from (congrArg (fun z => (sB (sB z 96 (vp_updL b96 n.toInt.toNat f9)) 97 (vp_updL b97 n.toInt.toNat t9))) (show sF (sF q 34 n) 34 (n + (1 : Int32)) = (sF q 34 (n + (1 : Int32))) from sF_sF)))
                refine hs (f := dm_goto 20) rfl rfl ?_
                exact (IH _ hdec).2.2 (n + (1 : Int32)) i2 j2 l9 f9 t9 (vp_updL b96 n.toInt.toNat f9) (vp_updL b97 n.toInt.toNat t9) _ hM35 (by omega) (by omega) (by omega) (fun _ => by omega) (by rw [e34]; exact oS_app hx (Int.toNat_of_nonneg n0.1).symm (fun z => by omega) ft.1 ft.2.1 ft.2.2) (fun z => by rcases nab2 z with ⟨y1, y2, y3⟩ | ⟨y1, y2, y3, y4⟩ <;> first | exact Or.inr ⟨y1, by omega, by omega, by rw [e34, rB_upd (by omega), if_pos (by omega)]; omega⟩ | exact absurd y4 (by omega)) rfl
              · skip
                have h31 : v28.toInt ≥ f9.toInt := h31
                refine hs (f := dm_lld 180 8) rfl rfl ?_
                refine hs (f := dm_ald 181 0) rfl rfl ?_
                refine r_geta (c := 94) rfl hM rfl ?_
                refine hs (f := dm_ald 185 0) rfl rfl ?_
                refine r_geti n rfl hM rfl rfl ?_
                refine hs (f := dm_push 189 (.int 1)) rfl rfl ?_
                have e36 : (n - (1 : Int32)).toInt = n.toInt - 1 := by have w := i_subc (x := n) (y := (1 : Int32)) 1 rfl (by omega) (by omega); omega
                refine hs (f := dm_ii 190 (fun x y => x - y)) (st' := [.int (n - (1 : Int32)), .ref 97, .long t9]) rfl rfl ?_
                refine r_lald (L := 24000) (i := (n - (1 : Int32))) (b97 (n - (1 : Int32)).toInt.toNat) rfl hM rfl (by omega) rfl ?_
                generalize g38 : b97 (n - (1 : Int32)).toInt.toNat = v37
                have x39 : v37.toInt = rB b97 (n.toInt - 1) := rB_of (i := (n - (1 : Int32))) g38 e36
                refine g_lc_le (x := t9) (y := v37) (m := 192) (n := 195) (tt := 243) rfl rfl (fun h40 => ?_) (fun h40 => ?_)
                · skip
                  have h40 : t9.toInt ≤ v37.toInt := h40
                  refine hs (f := dm_goto 20) rfl rfl ?_
                  exact (IH _ hdec).2.2 n i2 j2 l9 f9 t9 b96 b97 _ hM (by omega) (by omega) (by omega) (fun _ => by omega) hx (fun z => by rcases nab2 z with ⟨y1, y2, y3⟩ | ⟨y1, y2, y3, y4⟩ <;> first | exact Or.inr ⟨y1, by omega, by omega, by omega⟩ | exact Or.inl ⟨y1, y2⟩) rfl
                · skip
                  have h40 : t9.toInt > v37.toInt := h40
                  refine hs (f := dm_ald 196 0) rfl rfl ?_
                  refine r_geta (c := 94) rfl hM rfl ?_
                  refine hs (f := dm_ald 200 0) rfl rfl ?_
                  refine r_geti n rfl hM rfl rfl ?_
                  refine hs (f := dm_push 204 (.int 1)) rfl rfl ?_
                  have e41 : (n - (1 : Int32)).toInt = n.toInt - 1 := by have w := i_subc (x := n) (y := (1 : Int32)) 1 rfl (by omega) (by omega); omega
                  refine hs (f := dm_ii 205 (fun x y => x - y)) (st' := [.int (n - (1 : Int32)), .ref 97]) rfl rfl ?_
                  refine hs (f := dm_lld 207 8) rfl rfl ?_
                  refine r_last (L := 24000) (i := (n - (1 : Int32))) (x := t9) b97 rfl hM rfl (by omega) rfl (fun M42 hM42 => ?_)
                  replace hM42 := rm_to (q' := (sB (sB (sF q 34 n) 96 b96) 97 (vp_updL b97 (n - (1 : Int32)).toInt.toNat t9))) hM42 (show sB (sB (sB (sF q 34 n) 96 b96) 97 b97) 97 (vp_updL b97 (n - (1 : Int32)).toInt.toNat t9) = (sB (sB (sF q 34 n) 96 b96) 97 (vp_updL b97 (n - (1 : Int32)).toInt.toNat t9)) from (show sB (sB (sB (sF q 34 n) 96 b96) 97 b97) 97 (vp_updL b97 (n - (1 : Int32)).toInt.toNat t9) = (sB (sB (sF q 34 n) 96 b96) 97 (vp_updL b97 (n - (1 : Int32)).toInt.toNat t9)) from sB_sB))
                  refine hs (f := dm_goto 243) rfl rfl ?_
                  refine hs (f := dm_goto 20) rfl rfl ?_
                  exact (IH _ hdec).2.2 n i2 j2 l9 f9 t9 b96 (vp_updL b97 (n - (1 : Int32)).toInt.toNat t9) _ hM42 (by omega) (by omega) (by omega) (fun _ => by omega) (oS_ext hx (by omega) (show n.toInt - 1 = _ by omega) (by omega) ft.2.2) (fun z => by rcases nab2 z with ⟨y1, y2, y3⟩ | ⟨y1, y2, y3, y4⟩ <;> first | exact Or.inr ⟨y1, by omega, by omega, by rw [rB_upd (by omega), if_pos (by omega)]; omega⟩ | exact Or.inl ⟨y1, y2⟩) rfl
        have j45 : ∀ (M : dm_Mem), Rm X (sB (sB (sF q 34 n) 96 b96) 97 b97) M → (i.toInt < rA (q.2.2.1 74) (a.toInt + 1) ∨ j.toInt < rA (q.2.2.1 74) (b.toInt + 1)) → hG 0 cd_164 45 [(4, .int j), (3, .int i), (0, .ref 68), (1, .int a), (2, .int b)] [] M (fun r M' => r = none ∧ ∃ (n : Int32) (b96 b97 : Nat → Int64), oS b96 b97 n.toInt ∧ 0 ≤ n.toInt ∧ n.toInt ≤ 24000 ∧ (rA (q.2.2.1 74) a.toInt < rA (q.2.2.1 74) (a.toInt + 1) ∨ rA (q.2.2.1 74) b.toInt < rA (q.2.2.1 74) (b.toInt + 1) → 1 ≤ n.toInt) ∧ Rm X (sB (sB (sF q 34 n) 96 b96) 97 b97) M') := by
          intro M hM hij
          refine hs (f := dm_ild 47 4) rfl rfl ?_
          refine hs (f := dm_ald 48 0) rfl rfl ?_
          refine r_geta (c := 71) rfl hM rfl ?_
          refine hs (f := dm_ild 52 2) rfl rfl ?_
          refine hs (f := dm_push 53 (.int 1)) rfl rfl ?_
          have e43 : (b + (1 : Int32)).toInt = b.toInt + 1 := by have w := i_addc (x := b) (y := (1 : Int32)) 1 rfl (by omega) (by omega); omega
          refine hs (f := dm_ii 54 (fun x y => x + y)) (st' := [.int (b + (1 : Int32)), .ref 74, .int j]) rfl rfl ?_
          refine r_iald (L := 1001) (i := (b + (1 : Int32))) ((q.2.2.1 74) (b + (1 : Int32)).toInt.toNat) rfl hM rfl (by omega) rfl ?_
          generalize g45 : (q.2.2.1 74) (b + (1 : Int32)).toInt.toNat = v44
          have x46 : v44.toInt = rA (q.2.2.1 74) (b.toInt + 1) := rA_of (i := (b + (1 : Int32))) g45 e43
          refine g_ic_eq (n := 58) (tt := 87) rfl (fun h47 => ?_) (fun h47 => ?_)
          · skip
            have h47 : j.toInt = v44.toInt := h47
            refine hs (f := dm_push 88 (.int 1)) rfl rfl ?_
            refine hs (f := dm_goto 92) rfl rfl ?_
            refine hs (f := dm_ist 94 5) (lv' := [(5, .int 1), (4, .int j), (3, .int i), (0, .ref 68), (1, .int a), (2, .int b)]) rfl rfl ?_
            refine hs (f := dm_ild 96 5) rfl rfl ?_
            refine hs (f := dm_if_eq 99 108) (pc' := 99) rfl rfl ?_
            refine hs (f := dm_ald 100 0) rfl rfl ?_
            refine r_geta (c := 68) rfl hM rfl ?_
            refine hs (f := dm_ild 104 3) rfl rfl ?_
            refine r_lald (L := 24000) (i := i) ((q.2.2.2 71) i.toInt.toNat) rfl hM rfl (by omega) rfl ?_
            generalize g49 : (q.2.2.2 71) i.toInt.toNat = v48
            have x50 : v48.toInt = rB (q.2.2.2 71) i.toInt := rB_of (i := i) g49 rfl
            refine hs (f := dm_goto 115) rfl rfl ?_
            refine hs (f := dm_lst 117 6) (lv' := [(6, .long v48), (5, .int 1), (4, .int j), (3, .int i), (0, .ref 68), (1, .int a), (2, .int b)]) rfl rfl ?_
            refine hs (f := dm_ild 119 5) rfl rfl ?_
            refine hs (f := dm_if_eq 122 131) (pc' := 122) rfl rfl ?_
            refine hs (f := dm_ald 123 0) rfl rfl ?_
            refine r_geta (c := 69) rfl hM rfl ?_
            refine hs (f := dm_ild 127 3) rfl rfl ?_
            refine r_lald (L := 24000) (i := i) ((q.2.2.2 72) i.toInt.toNat) rfl hM rfl (by omega) rfl ?_
            generalize g52 : (q.2.2.2 72) i.toInt.toNat = v51
            have x53 : v51.toInt = rB (q.2.2.2 72) i.toInt := rB_of (i := i) g52 rfl
            refine hs (f := dm_goto 138) rfl rfl ?_
            refine hs (f := dm_lst 140 8) (lv' := [(8, .long v51), (6, .long v48), (5, .int 1), (4, .int j), (3, .int i), (0, .ref 68), (1, .int a), (2, .int b)]) rfl rfl ?_
            refine hs (f := dm_ild 142 5) rfl rfl ?_
            refine hs (f := dm_if_eq 145 151) (pc' := 145) rfl rfl ?_
            have e54 : (i + 1).toInt = i.toInt + 1 := by have w := i_addc (x := i) (y := 1) 1 rfl (by omega) (by omega); omega
            refine hs (f := dm_iinc 148 3 1) (lv' := [(3, .int (i + 1)), (8, .long v51), (6, .long v48), (5, .int 1), (4, .int j), (0, .ref 68), (1, .int a), (2, .int b)]) rfl rfl ?_
            refine hs (f := dm_goto 154) rfl rfl ?_
            have hz := hoa.1 (i.toInt - rA (q.2.2.1 74) a.toInt) (by omega) (by omega)
            rw [rB_seg (by omega), rB_seg (by omega), show rA (q.2.2.1 74) a.toInt + (i.toInt - rA (q.2.2.1 74) a.toInt) = i.toInt by omega] at hz
            exact j154.1 (i + 1) j (1 : Int32) v48 v51 _ hM (by omega) (by omega) ⟨by omega, by omega, by omega⟩ (by omega) (by omega) (fun z => by
                rcases nab z with ⟨y1, y2⟩ | ⟨y1, y2, y3, y4⟩
                · exact Or.inl ⟨by omega, by omega, by rw [← y1]; omega⟩
                · have y5 : rA (q.2.2.1 74) (a.toInt + 1) = rA (q.2.2.1 74) (b.toInt + 1) := by rw [z]
                  have y6 := hfr z j.toInt
                  rw [← y1] at y6
                  omega)
          · skip
            have h47 : ¬ j.toInt = v44.toInt := h47
            refine hs (f := dm_ild 59 3) rfl rfl ?_
            refine hs (f := dm_ald 60 0) rfl rfl ?_
            refine r_geta (c := 71) rfl hM rfl ?_
            refine hs (f := dm_ild 64 1) rfl rfl ?_
            refine hs (f := dm_push 65 (.int 1)) rfl rfl ?_
            have e55 : (a + (1 : Int32)).toInt = a.toInt + 1 := by have w := i_addc (x := a) (y := (1 : Int32)) 1 rfl (by omega) (by omega); omega
            refine hs (f := dm_ii 66 (fun x y => x + y)) (st' := [.int (a + (1 : Int32)), .ref 74, .int i]) rfl rfl ?_
            refine r_iald (L := 1001) (i := (a + (1 : Int32))) ((q.2.2.1 74) (a + (1 : Int32)).toInt.toNat) rfl hM rfl (by omega) rfl ?_
            generalize g57 : (q.2.2.1 74) (a + (1 : Int32)).toInt.toNat = v56
            have x58 : v56.toInt = rA (q.2.2.1 74) (a.toInt + 1) := rA_of (i := (a + (1 : Int32))) g57 e55
            refine g_ic_ge (n := 70) (tt := 91) rfl (fun h59 => ?_) (fun h59 => ?_)
            · skip
              have h59 : i.toInt ≥ v56.toInt := h59
              refine hs (f := dm_push 92 (.int 0)) rfl rfl ?_
              refine hs (f := dm_ist 94 5) (lv' := [(5, .int 0), (4, .int j), (3, .int i), (0, .ref 68), (1, .int a), (2, .int b)]) rfl rfl ?_
              refine hs (f := dm_ild 96 5) rfl rfl ?_
              refine hs (f := dm_if_eq 99 108) (pc' := 108) rfl rfl ?_
              refine hs (f := dm_ald 109 0) rfl rfl ?_
              refine r_geta (c := 68) rfl hM rfl ?_
              refine hs (f := dm_ild 114 4) rfl rfl ?_
              refine r_lald (L := 24000) (i := j) ((q.2.2.2 71) j.toInt.toNat) rfl hM rfl (by omega) rfl ?_
              generalize g61 : (q.2.2.2 71) j.toInt.toNat = v60
              have x62 : v60.toInt = rB (q.2.2.2 71) j.toInt := rB_of (i := j) g61 rfl
              refine hs (f := dm_lst 117 6) (lv' := [(6, .long v60), (5, .int 0), (4, .int j), (3, .int i), (0, .ref 68), (1, .int a), (2, .int b)]) rfl rfl ?_
              refine hs (f := dm_ild 119 5) rfl rfl ?_
              refine hs (f := dm_if_eq 122 131) (pc' := 131) rfl rfl ?_
              refine hs (f := dm_ald 132 0) rfl rfl ?_
              refine r_geta (c := 69) rfl hM rfl ?_
              refine hs (f := dm_ild 137 4) rfl rfl ?_
              refine r_lald (L := 24000) (i := j) ((q.2.2.2 72) j.toInt.toNat) rfl hM rfl (by omega) rfl ?_
              generalize g64 : (q.2.2.2 72) j.toInt.toNat = v63
              have x65 : v63.toInt = rB (q.2.2.2 72) j.toInt := rB_of (i := j) g64 rfl
              refine hs (f := dm_lst 140 8) (lv' := [(8, .long v63), (6, .long v60), (5, .int 0), (4, .int j), (3, .int i), (0, .ref 68), (1, .int a), (2, .int b)]) rfl rfl ?_
              refine hs (f := dm_ild 142 5) rfl rfl ?_
              refine hs (f := dm_if_eq 145 151) (pc' := 151) rfl rfl ?_
              have e66 : (j + 1).toInt = j.toInt + 1 := by have w := i_addc (x := j) (y := 1) 1 rfl (by omega) (by omega); omega
              refine hs (f := dm_iinc 154 4 1) (lv' := [(4, .int (j + 1)), (8, .long v63), (6, .long v60), (5, .int 0), (3, .int i), (0, .ref 68), (1, .int a), (2, .int b)]) rfl rfl ?_
              have hz := hob.1 (j.toInt - rA (q.2.2.1 74) b.toInt) (by omega) (by omega)
              rw [rB_seg (by omega), rB_seg (by omega), show rA (q.2.2.1 74) b.toInt + (j.toInt - rA (q.2.2.1 74) b.toInt) = j.toInt by omega] at hz
              exact j154.2 i (j + 1) (0 : Int32) v60 v63 _ hM (by omega) (by omega) ⟨by omega, by omega, by omega⟩ (by omega) (by omega) (fun z => by
                  rcases nab z with ⟨y1, y2⟩ | ⟨y1, y2, y3, y4⟩
                  · have y5 : rA (q.2.2.1 74) (a.toInt + 1) = rA (q.2.2.1 74) (b.toInt + 1) := by rw [z]
                    have y7 : rB (q.2.2.2 71) i.toInt = rB (q.2.2.2 71) j.toInt := by rw [y1]
                    omega
                  · exact Or.inr ⟨by omega, by omega, by omega, by omega⟩)
            · skip
              have h59 : i.toInt < v56.toInt := h59
              refine hs (f := dm_ald 71 0) rfl rfl ?_
              refine r_geta (c := 68) rfl hM rfl ?_
              refine hs (f := dm_ild 75 3) rfl rfl ?_
              refine r_lald (L := 24000) (i := i) ((q.2.2.2 71) i.toInt.toNat) rfl hM rfl (by omega) rfl ?_
              generalize g68 : (q.2.2.2 71) i.toInt.toNat = v67
              have x69 : v67.toInt = rB (q.2.2.2 71) i.toInt := rB_of (i := i) g68 rfl
              refine hs (f := dm_ald 77 0) rfl rfl ?_
              refine r_geta (c := 68) rfl hM rfl ?_
              refine hs (f := dm_ild 82 4) rfl rfl ?_
              refine r_lald (L := 24000) (i := j) ((q.2.2.2 71) j.toInt.toNat) rfl hM rfl (by omega) rfl ?_
              generalize g71 : (q.2.2.2 71) j.toInt.toNat = v70
              have x72 : v70.toInt = rB (q.2.2.2 71) j.toInt := rB_of (i := j) g71 rfl
              refine g_lc_gt (x := v67) (y := v70) (m := 84) (n := 87) (tt := 91) rfl rfl (fun h73 => ?_) (fun h73 => ?_)
              · skip
                have h73 : v67.toInt > v70.toInt := h73
                refine hs (f := dm_push 92 (.int 0)) rfl rfl ?_
                refine hs (f := dm_ist 94 5) (lv' := [(5, .int 0), (4, .int j), (3, .int i), (0, .ref 68), (1, .int a), (2, .int b)]) rfl rfl ?_
                refine hs (f := dm_ild 96 5) rfl rfl ?_
                refine hs (f := dm_if_eq 99 108) (pc' := 108) rfl rfl ?_
                refine hs (f := dm_ald 109 0) rfl rfl ?_
                refine r_geta (c := 68) rfl hM rfl ?_
                refine hs (f := dm_ild 114 4) rfl rfl ?_
                refine r_lald (L := 24000) (i := j) ((q.2.2.2 71) j.toInt.toNat) rfl hM rfl (by omega) rfl ?_
                generalize g75 : (q.2.2.2 71) j.toInt.toNat = v74
                have x76 : v74.toInt = rB (q.2.2.2 71) j.toInt := rB_of (i := j) g75 rfl
                refine hs (f := dm_lst 117 6) (lv' := [(6, .long v74), (5, .int 0), (4, .int j), (3, .int i), (0, .ref 68), (1, .int a), (2, .int b)]) rfl rfl ?_
                refine hs (f := dm_ild 119 5) rfl rfl ?_
                refine hs (f := dm_if_eq 122 131) (pc' := 131) rfl rfl ?_
                refine hs (f := dm_ald 132 0) rfl rfl ?_
                refine r_geta (c := 69) rfl hM rfl ?_
                refine hs (f := dm_ild 137 4) rfl rfl ?_
                refine r_lald (L := 24000) (i := j) ((q.2.2.2 72) j.toInt.toNat) rfl hM rfl (by omega) rfl ?_
                generalize g78 : (q.2.2.2 72) j.toInt.toNat = v77
                have x79 : v77.toInt = rB (q.2.2.2 72) j.toInt := rB_of (i := j) g78 rfl
                refine hs (f := dm_lst 140 8) (lv' := [(8, .long v77), (6, .long v74), (5, .int 0), (4, .int j), (3, .int i), (0, .ref 68), (1, .int a), (2, .int b)]) rfl rfl ?_
                refine hs (f := dm_ild 142 5) rfl rfl ?_
                refine hs (f := dm_if_eq 145 151) (pc' := 151) rfl rfl ?_
                have e80 : (j + 1).toInt = j.toInt + 1 := by have w := i_addc (x := j) (y := 1) 1 rfl (by omega) (by omega); omega
                refine hs (f := dm_iinc 154 4 1) (lv' := [(4, .int (j + 1)), (8, .long v77), (6, .long v74), (5, .int 0), (3, .int i), (0, .ref 68), (1, .int a), (2, .int b)]) rfl rfl ?_
                have hz := hob.1 (j.toInt - rA (q.2.2.1 74) b.toInt) (by omega) (by omega)
                rw [rB_seg (by omega), rB_seg (by omega), show rA (q.2.2.1 74) b.toInt + (j.toInt - rA (q.2.2.1 74) b.toInt) = j.toInt by omega] at hz
                exact j154.2 i (j + 1) (0 : Int32) v74 v77 _ hM (by omega) (by omega) ⟨by omega, by omega, by omega⟩ (by omega) (by omega) (fun z => by
                    rcases nab z with ⟨y1, y2⟩ | ⟨y1, y2, y3, y4⟩
                    · have y5 : rA (q.2.2.1 74) (a.toInt + 1) = rA (q.2.2.1 74) (b.toInt + 1) := by rw [z]
                      have y7 : rB (q.2.2.2 71) i.toInt = rB (q.2.2.2 71) j.toInt := by rw [y1]
                      omega
                    · exact Or.inr ⟨by omega, by omega, by omega, by omega⟩)
              · skip
                have h73 : v67.toInt ≤ v70.toInt := h73
                refine hs (f := dm_push 88 (.int 1)) rfl rfl ?_
                refine hs (f := dm_goto 92) rfl rfl ?_
                refine hs (f := dm_ist 94 5) (lv' := [(5, .int 1), (4, .int j), (3, .int i), (0, .ref 68), (1, .int a), (2, .int b)]) rfl rfl ?_
                refine hs (f := dm_ild 96 5) rfl rfl ?_
                refine hs (f := dm_if_eq 99 108) (pc' := 99) rfl rfl ?_
                refine hs (f := dm_ald 100 0) rfl rfl ?_
                refine r_geta (c := 68) rfl hM rfl ?_
                refine hs (f := dm_ild 104 3) rfl rfl ?_
                refine r_lald (L := 24000) (i := i) ((q.2.2.2 71) i.toInt.toNat) rfl hM rfl (by omega) rfl ?_
                generalize g82 : (q.2.2.2 71) i.toInt.toNat = v81
                have x83 : v81.toInt = rB (q.2.2.2 71) i.toInt := rB_of (i := i) g82 rfl
                refine hs (f := dm_goto 115) rfl rfl ?_
                refine hs (f := dm_lst 117 6) (lv' := [(6, .long v81), (5, .int 1), (4, .int j), (3, .int i), (0, .ref 68), (1, .int a), (2, .int b)]) rfl rfl ?_
                refine hs (f := dm_ild 119 5) rfl rfl ?_
                refine hs (f := dm_if_eq 122 131) (pc' := 122) rfl rfl ?_
                refine hs (f := dm_ald 123 0) rfl rfl ?_
                refine r_geta (c := 69) rfl hM rfl ?_
                refine hs (f := dm_ild 127 3) rfl rfl ?_
                refine r_lald (L := 24000) (i := i) ((q.2.2.2 72) i.toInt.toNat) rfl hM rfl (by omega) rfl ?_
                generalize g85 : (q.2.2.2 72) i.toInt.toNat = v84
                have x86 : v84.toInt = rB (q.2.2.2 72) i.toInt := rB_of (i := i) g85 rfl
                refine hs (f := dm_goto 138) rfl rfl ?_
                refine hs (f := dm_lst 140 8) (lv' := [(8, .long v84), (6, .long v81), (5, .int 1), (4, .int j), (3, .int i), (0, .ref 68), (1, .int a), (2, .int b)]) rfl rfl ?_
                refine hs (f := dm_ild 142 5) rfl rfl ?_
                refine hs (f := dm_if_eq 145 151) (pc' := 145) rfl rfl ?_
                have e87 : (i + 1).toInt = i.toInt + 1 := by have w := i_addc (x := i) (y := 1) 1 rfl (by omega) (by omega); omega
                refine hs (f := dm_iinc 148 3 1) (lv' := [(3, .int (i + 1)), (8, .long v84), (6, .long v81), (5, .int 1), (4, .int j), (0, .ref 68), (1, .int a), (2, .int b)]) rfl rfl ?_
                refine hs (f := dm_goto 154) rfl rfl ?_
                have hz := hoa.1 (i.toInt - rA (q.2.2.1 74) a.toInt) (by omega) (by omega)
                rw [rB_seg (by omega), rB_seg (by omega), show rA (q.2.2.1 74) a.toInt + (i.toInt - rA (q.2.2.1 74) a.toInt) = i.toInt by omega] at hz
                exact j154.1 (i + 1) j (1 : Int32) v81 v84 _ hM (by omega) (by omega) ⟨by omega, by omega, by omega⟩ (by omega) (by omega) (fun z => by
                    rcases nab z with ⟨y1, y2⟩ | ⟨y1, y2, y3, y4⟩
                    · exact Or.inl ⟨by omega, by omega, by rw [← y1]; omega⟩
                    · have y5 : rA (q.2.2.1 74) (a.toInt + 1) = rA (q.2.2.1 74) (b.toInt + 1) := by rw [z]
                      have y6 := hfr z j.toInt
                      rw [← y1] at y6
                      omega)
        refine hs (f := dm_ild 21 3) rfl rfl ?_
        refine hs (f := dm_ald 22 0) rfl rfl ?_
        refine r_geta (c := 71) rfl hM rfl ?_
        refine hs (f := dm_ild 26 1) rfl rfl ?_
        refine hs (f := dm_push 27 (.int 1)) rfl rfl ?_
        have e88 : (a + (1 : Int32)).toInt = a.toInt + 1 := by have w := i_addc (x := a) (y := (1 : Int32)) 1 rfl (by omega) (by omega); omega
        refine hs (f := dm_ii 28 (fun x y => x + y)) (st' := [.int (a + (1 : Int32)), .ref 74, .int i]) rfl rfl ?_
        refine r_iald (L := 1001) (i := (a + (1 : Int32))) ((q.2.2.1 74) (a + (1 : Int32)).toInt.toNat) rfl hM rfl (by omega) rfl ?_
        generalize g90 : (q.2.2.1 74) (a + (1 : Int32)).toInt.toNat = v89
        have x91 : v89.toInt = rA (q.2.2.1 74) (a.toInt + 1) := rA_of (i := (a + (1 : Int32))) g90 e88
        refine g_ic_lt (n := 32) (tt := 45) rfl (fun h92 => ?_) (fun h92 => ?_)
        · skip
          have h92 : i.toInt < v89.toInt := h92
          exact j45  _ hM (by omega)
        · skip
          have h92 : i.toInt ≥ v89.toInt := h92
          refine hs (f := dm_ild 34 4) rfl rfl ?_
          refine hs (f := dm_ald 35 0) rfl rfl ?_
          refine r_geta (c := 71) rfl hM rfl ?_
          refine hs (f := dm_ild 39 2) rfl rfl ?_
          refine hs (f := dm_push 40 (.int 1)) rfl rfl ?_
          have e93 : (b + (1 : Int32)).toInt = b.toInt + 1 := by have w := i_addc (x := b) (y := (1 : Int32)) 1 rfl (by omega) (by omega); omega
          refine hs (f := dm_ii 41 (fun x y => x + y)) (st' := [.int (b + (1 : Int32)), .ref 74, .int j]) rfl rfl ?_
          refine r_iald (L := 1001) (i := (b + (1 : Int32))) ((q.2.2.1 74) (b + (1 : Int32)).toInt.toNat) rfl hM rfl (by omega) rfl ?_
          generalize g95 : (q.2.2.1 74) (b + (1 : Int32)).toInt.toNat = v94
          have x96 : v94.toInt = rA (q.2.2.1 74) (b.toInt + 1) := rA_of (i := (b + (1 : Int32))) g95 e93
          refine g_ic_ge (n := 45) (tt := 246) rfl (fun h97 => ?_) (fun h97 => ?_)
          · skip
            have h97 : j.toInt ≥ v94.toInt := h97
            exact hr (f := dm_vret) rfl rfl (⟨rfl, n, b96, b97, hx, n0.1, (by rcases hlen with zz | zz <;> first | omega | (rcases nab zz with zn | zn <;> omega)), fun z => n1 (by omega), hM⟩)
          · skip
            have h97 : j.toInt < v94.toInt := h97
            exact j45  _ hM (by omega)
      · skip
        intro n i j l f t b96 b97 M hM i0 j0 n0 n1 hx nab hms
        have j154 : (∀ (i2 j2 l9 : Int32) (f9 t9 : Int64) (M : dm_Mem), Rm X (sB (sB (sF q 34 n) 96 b96) 97 b97) M → (rA (q.2.2.1 74) a.toInt ≤ i2.toInt ∧ i2.toInt ≤ rA (q.2.2.1 74) (a.toInt + 1)) → (rA (q.2.2.1 74) b.toInt ≤ j2.toInt ∧ j2.toInt ≤ rA (q.2.2.1 74) (b.toInt + 1)) → (0 ≤ f9.toInt ∧ f9.toInt < t9.toInt ∧ t9.toInt ≤ 1152921504606846976) → (n.toInt + 1 ≤ (i2.toInt - rA (q.2.2.1 74) a.toInt) + (j2.toInt - rA (q.2.2.1 74) b.toInt)) → (((rA (q.2.2.1 74) (a.toInt + 1) - i2.toInt) + (rA (q.2.2.1 74) (b.toInt + 1) - j2.toInt)).toNat < nn) → (a = b → (i2.toInt = j2.toInt + 1 ∧ n.toInt + 1 ≤ i2.toInt - rA (q.2.2.1 74) a.toInt ∧ rB (q.2.2.2 71) j2.toInt ≤ f9.toInt) ∨ (i2.toInt = j2.toInt ∧ n.toInt ≤ i2.toInt - rA (q.2.2.1 74) a.toInt ∧ 0 < n.toInt ∧ f9.toInt ≤ rB b97 (n.toInt - 1))) → hG 0 cd_164 154 [(3, .int i2), (8, .long t9), (6, .long f9), (5, .int l9), (4, .int j2), (0, .ref 68), (1, .int a), (2, .int b)] [] M (fun r M' => r = none ∧ ∃ (n : Int32) (b96 b97 : Nat → Int64), oS b96 b97 n.toInt ∧ 0 ≤ n.toInt ∧ n.toInt ≤ 24000 ∧ (rA (q.2.2.1 74) a.toInt < rA (q.2.2.1 74) (a.toInt + 1) ∨ rA (q.2.2.1 74) b.toInt < rA (q.2.2.1 74) (b.toInt + 1) → 1 ≤ n.toInt) ∧ Rm X (sB (sB (sF q 34 n) 96 b96) 97 b97) M')) ∧ (∀ (i2 j2 l9 : Int32) (f9 t9 : Int64) (M : dm_Mem), Rm X (sB (sB (sF q 34 n) 96 b96) 97 b97) M → (rA (q.2.2.1 74) a.toInt ≤ i2.toInt ∧ i2.toInt ≤ rA (q.2.2.1 74) (a.toInt + 1)) → (rA (q.2.2.1 74) b.toInt ≤ j2.toInt ∧ j2.toInt ≤ rA (q.2.2.1 74) (b.toInt + 1)) → (0 ≤ f9.toInt ∧ f9.toInt < t9.toInt ∧ t9.toInt ≤ 1152921504606846976) → (n.toInt + 1 ≤ (i2.toInt - rA (q.2.2.1 74) a.toInt) + (j2.toInt - rA (q.2.2.1 74) b.toInt)) → (((rA (q.2.2.1 74) (a.toInt + 1) - i2.toInt) + (rA (q.2.2.1 74) (b.toInt + 1) - j2.toInt)).toNat < nn) → (a = b → (i2.toInt = j2.toInt + 1 ∧ n.toInt + 1 ≤ i2.toInt - rA (q.2.2.1 74) a.toInt ∧ rB (q.2.2.2 71) j2.toInt ≤ f9.toInt) ∨ (i2.toInt = j2.toInt ∧ n.toInt ≤ i2.toInt - rA (q.2.2.1 74) a.toInt ∧ 0 < n.toInt ∧ f9.toInt ≤ rB b97 (n.toInt - 1))) → hG 0 cd_164 154 [(4, .int j2), (8, .long t9), (6, .long f9), (5, .int l9), (3, .int i2), (0, .ref 68), (1, .int a), (2, .int b)] [] M (fun r M' => r = none ∧ ∃ (n : Int32) (b96 b97 : Nat → Int64), oS b96 b97 n.toInt ∧ 0 ≤ n.toInt ∧ n.toInt ≤ 24000 ∧ (rA (q.2.2.1 74) a.toInt < rA (q.2.2.1 74) (a.toInt + 1) ∨ rA (q.2.2.1 74) b.toInt < rA (q.2.2.1 74) (b.toInt + 1) → 1 ≤ n.toInt) ∧ Rm X (sB (sB (sF q 34 n) 96 b96) 97 b97) M')) := by
          refine ⟨?_, ?_⟩
          · skip
            intro i2 j2 l9 f9 t9 M hM i3 j3 ft n3 hdec nab2
            have hn24 : n.toInt ≤ 24000 := by rcases hlen with zz | zz <;> first | omega | (rcases nab2 zz with zn | zn <;> omega)
            refine hs (f := dm_ald 155 0) rfl rfl ?_
            refine r_geti n rfl hM rfl rfl ?_
            refine g_if_le (n := 161) (tt := 211) rfl (fun h98 => ?_) (fun h98 => ?_)
            · skip
              have h98 : n.toInt ≤ 0 := h98
              refine hs (f := dm_ald 212 0) rfl rfl ?_
              refine r_geta (c := 93) rfl hM rfl ?_
              refine hs (f := dm_ald 216 0) rfl rfl ?_
              refine r_geti n rfl hM rfl rfl ?_
              refine hs (f := dm_lld 221 6) rfl rfl ?_
              refine r_last (L := 24000) (i := n) (x := f9) b96 rfl hM rfl (by rcases hlen with zz | zz <;> first | omega | (rcases nab2 zz with zn | zn <;> omega)) rfl (fun M99 hM99 => ?_)
              replace hM99 := rm_to (q' := (sB (sB (sF q 34 n) 96 (vp_updL b96 n.toInt.toNat f9)) 97 b97)) hM99 (show sB (sB (sB (sF q 34 n) 96 b96) 97 b97) 96 (vp_updL b96 n.toInt.toNat f9) = (sB (sB (sF q 34 n) 96 (vp_updL b96 n.toInt.toNat f9)) 97 b97) from (show sB (sB (sB (sF q 34 n) 96 b96) 97 b97) 96 (vp_updL b96 n.toInt.toNat f9) = (sB (sB (sF q 34 n) 96 (vp_updL b96 n.toInt.toNat f9)) 97 b97) from Eq.trans (show sB (sB (sB (sF q 34 n) 96 b96) 97 b97) 96 (vp_updL b96 n.toInt.toNat f9) = sB (sB (sB (sF q 34 n) 96 b96) 96 (vp_updL b96 n.toInt.toNat f9)) 97 b97 from sB_cm (by decide)) (congrArg (fun z => sB z 97 b97) (show sB (sB (sF q 34 n) 96 b96) 96 (vp_updL b96 n.toInt.toNat f9) = (sB (sF q 34 n) 96 (vp_updL b96 n.toInt.toNat f9)) from sB_sB))))
              refine hs (f := dm_ald 223 0) rfl rfl ?_
              refine r_geta (c := 94) rfl hM99 rfl ?_
              refine hs (f := dm_ald 227 0) rfl rfl ?_
              refine r_geti n rfl hM99 rfl rfl ?_
              refine hs (f := dm_lld 232 8) rfl rfl ?_
              refine r_last (L := 24000) (i := n) (x := t9) b97 rfl hM99 rfl (by rcases hlen with zz | zz <;> first | omega | (rcases nab2 zz with zn | zn <;> omega)) rfl (fun M100 hM100 => ?_)
              replace hM100 := rm_to (q' := (sB (sB (sF q 34 n) 96 (vp_updL b96 n.toInt.toNat f9)) 97 (vp_updL b97 n.toInt.toNat t9))) hM100 (show sB (sB (sB (sF q 34 n) 96 (vp_updL b96 n.toInt.toNat f9)) 97 b97) 97 (vp_updL b97 n.toInt.toNat t9) = (sB (sB (sF q 34 n) 96 (vp_updL b96 n.toInt.toNat f9)) 97 (vp_updL b97 n.toInt.toNat t9)) from (show sB (sB (sB (sF q 34 n) 96 (vp_updL b96 n.toInt.toNat f9)) 97 b97) 97 (vp_updL b97 n.toInt.toNat t9) = (sB (sB (sF q 34 n) 96 (vp_updL b96 n.toInt.toNat f9)) 97 (vp_updL b97 n.toInt.toNat t9)) from sB_sB))
              refine hs (f := dm_ald 234 0) rfl rfl ?_
              refine hs (f := dm_dup 235) (st' := [.ref 68, .ref 68]) rfl rfl ?_
              refine r_geti n rfl hM100 rfl rfl ?_
              refine hs (f := dm_push 239 (.int 1)) rfl rfl ?_
              have e101 : (n + (1 : Int32)).toInt = n.toInt + 1 := by have w := i_addc (x := n) (y := (1 : Int32)) 1 rfl (by omega) (by omega); omega
              refine hs (f := dm_ii 240 (fun x y => x + y)) (st' := [.int (n + (1 : Int32)), .ref 68]) rfl rfl ?_
              refine r_puti rfl hM100 rfl (fun M102 hM102 => ?_)
              replace hM102 := rm_to (q' := (sB (sB (sF q 34 (n + (1 : Int32))) 96 (vp_updL b96 n.toInt.toNat f9)) 97 (vp_updL b97 n.toInt.toNat t9))) hM102 (show sF (sB (sB (sF q 34 n) 96 (vp_updL b96 n.toInt.toNat f9)) 97 (vp_updL b97 n.toInt.toNat t9)) 34 (n + (1 : Int32)) = (sB (sB (sF q 34 (n + (1 : Int32))) 96 (vp_updL b96 n.toInt.toNat f9)) 97 (vp_updL b97 n.toInt.toNat t9)) from (congrArg (fun z => (sB (sB z 96 (vp_updL b96 n.toInt.toNat f9)) 97 (vp_updL b97 n.toInt.toNat t9))) (show sF (sF q 34 n) 34 (n + (1 : Int32)) = (sF q 34 (n + (1 : Int32))) from sF_sF)))
              refine hs (f := dm_goto 20) rfl rfl ?_
              exact (IH _ hdec).2.1 (n + (1 : Int32)) i2 j2 l9 f9 t9 (vp_updL b96 n.toInt.toNat f9) (vp_updL b97 n.toInt.toNat t9) _ hM102 (by omega) (by omega) (by omega) (fun _ => by omega) (by rw [e101]; exact oS_app hx (Int.toNat_of_nonneg n0.1).symm (fun z => by omega) ft.1 ft.2.1 ft.2.2) (fun z => by rcases nab2 z with ⟨y1, y2, y3⟩ | ⟨y1, y2, y3, y4⟩ <;> first | exact Or.inr ⟨y1, by omega, by omega, by rw [e101, rB_upd (by omega), if_pos (by omega)]; omega⟩ | exact absurd y4 (by omega)) rfl
            · skip
              have h98 : n.toInt > 0 := h98
              refine hs (f := dm_ald 162 0) rfl rfl ?_
              refine r_geta (c := 94) rfl hM rfl ?_
              refine hs (f := dm_ald 166 0) rfl rfl ?_
              refine r_geti n rfl hM rfl rfl ?_
              refine hs (f := dm_push 170 (.int 1)) rfl rfl ?_
              have e103 : (n - (1 : Int32)).toInt = n.toInt - 1 := by have w := i_subc (x := n) (y := (1 : Int32)) 1 rfl (by omega) (by omega); omega
              refine hs (f := dm_ii 171 (fun x y => x - y)) (st' := [.int (n - (1 : Int32)), .ref 97]) rfl rfl ?_
              refine r_lald (L := 24000) (i := (n - (1 : Int32))) (b97 (n - (1 : Int32)).toInt.toNat) rfl hM rfl (by omega) rfl ?_
              generalize g105 : b97 (n - (1 : Int32)).toInt.toNat = v104
              have x106 : v104.toInt = rB b97 (n.toInt - 1) := rB_of (i := (n - (1 : Int32))) g105 e103
              refine hs (f := dm_lld 174 6) rfl rfl ?_
              refine g_lc_lt (x := v104) (y := f9) (m := 175) (n := 178) (tt := 211) rfl rfl (fun h107 => ?_) (fun h107 => ?_)
              · skip
                have h107 : v104.toInt < f9.toInt := h107
                refine hs (f := dm_ald 212 0) rfl rfl ?_
                refine r_geta (c := 93) rfl hM rfl ?_
                refine hs (f := dm_ald 216 0) rfl rfl ?_
                refine r_geti n rfl hM rfl rfl ?_
                refine hs (f := dm_lld 221 6) rfl rfl ?_
                refine r_last (L := 24000) (i := n) (x := f9) b96 rfl hM rfl (by rcases hlen with zz | zz <;> first | omega | (rcases nab2 zz with zn | zn <;> omega)) rfl (fun M108 hM108 => ?_)
                replace hM108 := rm_to (q' := (sB (sB (sF q 34 n) 96 (vp_updL b96 n.toInt.toNat f9)) 97 b97)) hM108 (show sB (sB (sB (sF q 34 n) 96 b96) 97 b97) 96 (vp_updL b96 n.toInt.toNat f9) = (sB (sB (sF q 34 n) 96 (vp_updL b96 n.toInt.toNat f9)) 97 b97) from (show sB (sB (sB (sF q 34 n) 96 b96) 97 b97) 96 (vp_updL b96 n.toInt.toNat f9) = (sB (sB (sF q 34 n) 96 (vp_updL b96 n.toInt.toNat f9)) 97 b97) from Eq.trans (show sB (sB (sB (sF q 34 n) 96 b96) 97 b97) 96 (vp_updL b96 n.toInt.toNat f9) = sB (sB (sB (sF q 34 n) 96 b96) 96 (vp_updL b96 n.toInt.toNat f9)) 97 b97 from sB_cm (by decide)) (congrArg (fun z => sB z 97 b97) (show sB (sB (sF q 34 n) 96 b96) 96 (vp_updL b96 n.toInt.toNat f9) = (sB (sF q 34 n) 96 (vp_updL b96 n.toInt.toNat f9)) from sB_sB))))
                refine hs (f := dm_ald 223 0) rfl rfl ?_
                refine r_geta (c := 94) rfl hM108 rfl ?_
                refine hs (f := dm_ald 227 0) rfl rfl ?_
                refine r_geti n rfl hM108 rfl rfl ?_
                refine hs (f := dm_lld 232 8) rfl rfl ?_
                refine r_last (L := 24000) (i := n) (x := t9) b97 rfl hM108 rfl (by rcases hlen with zz | zz <;> first | omega | (rcases nab2 zz with zn | zn <;> omega)) rfl (fun M109 hM109 => ?_)
                replace hM109 := rm_to (q' := (sB (sB (sF q 34 n) 96 (vp_updL b96 n.toInt.toNat f9)) 97 (vp_updL b97 n.toInt.toNat t9))) hM109 (show sB (sB (sB (sF q 34 n) 96 (vp_updL b96 n.toInt.toNat f9)) 97 b97) 97 (vp_updL b97 n.toInt.toNat t9) = (sB (sB (sF q 34 n) 96 (vp_updL b96 n.toInt.toNat f9)) 97 (vp_updL b97 n.toInt.toNat t9)) from (show sB (sB (sB (sF q 34 n) 96 (vp_updL b96 n.toInt.toNat f9)) 97 b97) 97 (vp_updL b97 n.toInt.toNat t9) = (sB (sB (sF q 34 n) 96 (vp_updL b96 n.toInt.toNat f9)) 97 (vp_updL b97 n.toInt.toNat t9)) from sB_sB))
                refine hs (f := dm_ald 234 0) rfl rfl ?_
                refine hs (f := dm_dup 235) (st' := [.ref 68, .ref 68]) rfl rfl ?_
                refine r_geti n rfl hM109 rfl rfl ?_
                refine hs (f := dm_push 239 (.int 1)) rfl rfl ?_
                have e110 : (n + (1 : Int32)).toInt = n.toInt + 1 := by have w := i_addc (x := n) (y := (1 : Int32)) 1 rfl (by omega) (by omega); omega
                refine hs (f := dm_ii 240 (fun x y => x + y)) (st' := [.int (n + (1 : Int32)), .ref 68]) rfl rfl ?_
                refine r_puti rfl hM109 rfl (fun M111 hM111 => ?_)
                replace hM111 := rm_to (q' := (sB (sB (sF q 34 (n + (1 : Int32))) 96 (vp_updL b96 n.toInt.toNat f9)) 97 (vp_updL b97 n.toInt.toNat t9))) hM111 (show sF (sB (sB (sF q 34 n) 96 (vp_updL b96 n.toInt.toNat f9)) 97 (vp_updL b97 n.toInt.toNat t9)) 34 (n + (1 : Int32)) = (sB (sB (sF q 34 (n + (1 : Int32))) 96 (vp_updL b96 n.toInt.toNat f9)) 97 (vp_updL b97 n.toInt.toNat t9)) from (congrArg (fun z => (sB (sB z 96 (vp_updL b96 n.toInt.toNat f9)) 97 (vp_updL b97 n.toInt.toNat t9))) (show sF (sF q 34 n) 34 (n + (1 : Int32)) = (sF q 34 (n + (1 : Int32))) from sF_sF)))
                refine hs (f := dm_goto 20) rfl rfl ?_
                exact (IH _ hdec).2.1 (n + (1 : Int32)) i2 j2 l9 f9 t9 (vp_updL b96 n.toInt.toNat f9) (vp_updL b97 n.toInt.toNat t9) _ hM111 (by omega) (by omega) (by omega) (fun _ => by omega) (by rw [e110]; exact oS_app hx (Int.toNat_of_nonneg n0.1).symm (fun z => by omega) ft.1 ft.2.1 ft.2.2) (fun z => by rcases nab2 z with ⟨y1, y2, y3⟩ | ⟨y1, y2, y3, y4⟩ <;> first | exact Or.inr ⟨y1, by omega, by omega, by rw [e110, rB_upd (by omega), if_pos (by omega)]; omega⟩ | exact absurd y4 (by omega)) rfl
              · skip
                have h107 : v104.toInt ≥ f9.toInt := h107
                refine hs (f := dm_lld 180 8) rfl rfl ?_
                refine hs (f := dm_ald 181 0) rfl rfl ?_
                refine r_geta (c := 94) rfl hM rfl ?_
                refine hs (f := dm_ald 185 0) rfl rfl ?_
                refine r_geti n rfl hM rfl rfl ?_
                refine hs (f := dm_push 189 (.int 1)) rfl rfl ?_
                have e112 : (n - (1 : Int32)).toInt = n.toInt - 1 := by have w := i_subc (x := n) (y := (1 : Int32)) 1 rfl (by omega) (by omega); omega
                refine hs (f := dm_ii 190 (fun x y => x - y)) (st' := [.int (n - (1 : Int32)), .ref 97, .long t9]) rfl rfl ?_
                refine r_lald (L := 24000) (i := (n - (1 : Int32))) (b97 (n - (1 : Int32)).toInt.toNat) rfl hM rfl (by omega) rfl ?_
                generalize g114 : b97 (n - (1 : Int32)).toInt.toNat = v113
                have x115 : v113.toInt = rB b97 (n.toInt - 1) := rB_of (i := (n - (1 : Int32))) g114 e112
                refine g_lc_le (x := t9) (y := v113) (m := 192) (n := 195) (tt := 243) rfl rfl (fun h116 => ?_) (fun h116 => ?_)
                · skip
                  have h116 : t9.toInt ≤ v113.toInt := h116
                  refine hs (f := dm_goto 20) rfl rfl ?_
                  exact (IH _ hdec).2.1 n i2 j2 l9 f9 t9 b96 b97 _ hM (by omega) (by omega) (by omega) (fun _ => by omega) hx (fun z => by rcases nab2 z with ⟨y1, y2, y3⟩ | ⟨y1, y2, y3, y4⟩ <;> first | exact Or.inr ⟨y1, by omega, by omega, by omega⟩ | exact Or.inl ⟨y1, y2⟩) rfl
                · skip
                  have h116 : t9.toInt > v113.toInt := h116
                  refine hs (f := dm_ald 196 0) rfl rfl ?_
                  refine r_geta (c := 94) rfl hM rfl ?_
                  refine hs (f := dm_ald 200 0) rfl rfl ?_
                  refine r_geti n rfl hM rfl rfl ?_
                  refine hs (f := dm_push 204 (.int 1)) rfl rfl ?_
                  have e117 : (n - (1 : Int32)).toInt = n.toInt - 1 := by have w := i_subc (x := n) (y := (1 : Int32)) 1 rfl (by omega) (by omega); omega
                  refine hs (f := dm_ii 205 (fun x y => x - y)) (st' := [.int (n - (1 : Int32)), .ref 97]) rfl rfl ?_
                  refine hs (f := dm_lld 207 8) rfl rfl ?_
                  refine r_last (L := 24000) (i := (n - (1 : Int32))) (x := t9) b97 rfl hM rfl (by omega) rfl (fun M118 hM118 => ?_)
                  replace hM118 := rm_to (q' := (sB (sB (sF q 34 n) 96 b96) 97 (vp_updL b97 (n - (1 : Int32)).toInt.toNat t9))) hM118 (show sB (sB (sB (sF q 34 n) 96 b96) 97 b97) 97 (vp_updL b97 (n - (1 : Int32)).toInt.toNat t9) = (sB (sB (sF q 34 n) 96 b96) 97 (vp_updL b97 (n - (1 : Int32)).toInt.toNat t9)) from (show sB (sB (sB (sF q 34 n) 96 b96) 97 b97) 97 (vp_updL b97 (n - (1 : Int32)).toInt.toNat t9) = (sB (sB (sF q 34 n) 96 b96) 97 (vp_updL b97 (n - (1 : Int32)).toInt.toNat t9)) from sB_sB))
                  refine hs (f := dm_goto 243) rfl rfl ?_
                  refine hs (f := dm_goto 20) rfl rfl ?_
                  exact (IH _ hdec).2.1 n i2 j2 l9 f9 t9 b96 (vp_updL b97 (n - (1 : Int32)).toInt.toNat t9) _ hM118 (by omega) (by omega) (by omega) (fun _ => by omega) (oS_ext hx (by omega) (show n.toInt - 1 = _ by omega) (by omega) ft.2.2) (fun z => by rcases nab2 z with ⟨y1, y2, y3⟩ | ⟨y1, y2, y3, y4⟩ <;> first | exact Or.inr ⟨y1, by omega, by omega, by rw [rB_upd (by omega), if_pos (by omega)]; omega⟩ | exact Or.inl ⟨y1, y2⟩) rfl
          · skip
            intro i2 j2 l9 f9 t9 M hM i3 j3 ft n3 hdec nab2
            have hn24 : n.toInt ≤ 24000 := by rcases hlen with zz | zz <;> first | omega | (rcases nab2 zz with zn | zn <;> omega)
            refine hs (f := dm_ald 155 0) rfl rfl ?_
            refine r_geti n rfl hM rfl rfl ?_
            refine g_if_le (n := 161) (tt := 211) rfl (fun h119 => ?_) (fun h119 => ?_)
            · skip
              have h119 : n.toInt ≤ 0 := h119
              refine hs (f := dm_ald 212 0) rfl rfl ?_
              refine r_geta (c := 93) rfl hM rfl ?_
              refine hs (f := dm_ald 216 0) rfl rfl ?_
              refine r_geti n rfl hM rfl rfl ?_
              refine hs (f := dm_lld 221 6) rfl rfl ?_
              refine r_last (L := 24000) (i := n) (x := f9) b96 rfl hM rfl (by rcases hlen with zz | zz <;> first | omega | (rcases nab2 zz with zn | zn <;> omega)) rfl (fun M120 hM120 => ?_)
              replace hM120 := rm_to (q' := (sB (sB (sF q 34 n) 96 (vp_updL b96 n.toInt.toNat f9)) 97 b97)) hM120 (show sB (sB (sB (sF q 34 n) 96 b96) 97 b97) 96 (vp_updL b96 n.toInt.toNat f9) = (sB (sB (sF q 34 n) 96 (vp_updL b96 n.toInt.toNat f9)) 97 b97) from (show sB (sB (sB (sF q 34 n) 96 b96) 97 b97) 96 (vp_updL b96 n.toInt.toNat f9) = (sB (sB (sF q 34 n) 96 (vp_updL b96 n.toInt.toNat f9)) 97 b97) from Eq.trans (show sB (sB (sB (sF q 34 n) 96 b96) 97 b97) 96 (vp_updL b96 n.toInt.toNat f9) = sB (sB (sB (sF q 34 n) 96 b96) 96 (vp_updL b96 n.toInt.toNat f9)) 97 b97 from sB_cm (by decide)) (congrArg (fun z => sB z 97 b97) (show sB (sB (sF q 34 n) 96 b96) 96 (vp_updL b96 n.toInt.toNat f9) = (sB (sF q 34 n) 96 (vp_updL b96 n.toInt.toNat f9)) from sB_sB))))
              refine hs (f := dm_ald 223 0) rfl rfl ?_
              refine r_geta (c := 94) rfl hM120 rfl ?_
              refine hs (f := dm_ald 227 0) rfl rfl ?_
              refine r_geti n rfl hM120 rfl rfl ?_
              refine hs (f := dm_lld 232 8) rfl rfl ?_
              refine r_last (L := 24000) (i := n) (x := t9) b97 rfl hM120 rfl (by rcases hlen with zz | zz <;> first | omega | (rcases nab2 zz with zn | zn <;> omega)) rfl (fun M121 hM121 => ?_)
              replace hM121 := rm_to (q' := (sB (sB (sF q 34 n) 96 (vp_updL b96 n.toInt.toNat f9)) 97 (vp_updL b97 n.toInt.toNat t9))) hM121 (show sB (sB (sB (sF q 34 n) 96 (vp_updL b96 n.toInt.toNat f9)) 97 b97) 97 (vp_updL b97 n.toInt.toNat t9) = (sB (sB (sF q 34 n) 96 (vp_updL b96 n.toInt.toNat f9)) 97 (vp_updL b97 n.toInt.toNat t9)) from (show sB (sB (sB (sF q 34 n) 96 (vp_updL b96 n.toInt.toNat f9)) 97 b97) 97 (vp_updL b97 n.toInt.toNat t9) = (sB (sB (sF q 34 n) 96 (vp_updL b96 n.toInt.toNat f9)) 97 (vp_updL b97 n.toInt.toNat t9)) from sB_sB))
              refine hs (f := dm_ald 234 0) rfl rfl ?_
              refine hs (f := dm_dup 235) (st' := [.ref 68, .ref 68]) rfl rfl ?_
              refine r_geti n rfl hM121 rfl rfl ?_
              refine hs (f := dm_push 239 (.int 1)) rfl rfl ?_
              have e122 : (n + (1 : Int32)).toInt = n.toInt + 1 := by have w := i_addc (x := n) (y := (1 : Int32)) 1 rfl (by omega) (by omega); omega
              refine hs (f := dm_ii 240 (fun x y => x + y)) (st' := [.int (n + (1 : Int32)), .ref 68]) rfl rfl ?_
              refine r_puti rfl hM121 rfl (fun M123 hM123 => ?_)
              replace hM123 := rm_to (q' := (sB (sB (sF q 34 (n + (1 : Int32))) 96 (vp_updL b96 n.toInt.toNat f9)) 97 (vp_updL b97 n.toInt.toNat t9))) hM123 (show sF (sB (sB (sF q 34 n) 96 (vp_updL b96 n.toInt.toNat f9)) 97 (vp_updL b97 n.toInt.toNat t9)) 34 (n + (1 : Int32)) = (sB (sB (sF q 34 (n + (1 : Int32))) 96 (vp_updL b96 n.toInt.toNat f9)) 97 (vp_updL b97 n.toInt.toNat t9)) from (congrArg (fun z => (sB (sB z 96 (vp_updL b96 n.toInt.toNat f9)) 97 (vp_updL b97 n.toInt.toNat t9))) (show sF (sF q 34 n) 34 (n + (1 : Int32)) = (sF q 34 (n + (1 : Int32))) from sF_sF)))
              refine hs (f := dm_goto 20) rfl rfl ?_
              exact (IH _ hdec).2.2 (n + (1 : Int32)) i2 j2 l9 f9 t9 (vp_updL b96 n.toInt.toNat f9) (vp_updL b97 n.toInt.toNat t9) _ hM123 (by omega) (by omega) (by omega) (fun _ => by omega) (by rw [e122]; exact oS_app hx (Int.toNat_of_nonneg n0.1).symm (fun z => by omega) ft.1 ft.2.1 ft.2.2) (fun z => by rcases nab2 z with ⟨y1, y2, y3⟩ | ⟨y1, y2, y3, y4⟩ <;> first | exact Or.inr ⟨y1, by omega, by omega, by rw [e122, rB_upd (by omega), if_pos (by omega)]; omega⟩ | exact absurd y4 (by omega)) rfl
            · skip
              have h119 : n.toInt > 0 := h119
              refine hs (f := dm_ald 162 0) rfl rfl ?_
              refine r_geta (c := 94) rfl hM rfl ?_
              refine hs (f := dm_ald 166 0) rfl rfl ?_
              refine r_geti n rfl hM rfl rfl ?_
              refine hs (f := dm_push 170 (.int 1)) rfl rfl ?_
              have e124 : (n - (1 : Int32)).toInt = n.toInt - 1 := by have w := i_subc (x := n) (y := (1 : Int32)) 1 rfl (by omega) (by omega); omega
              refine hs (f := dm_ii 171 (fun x y => x - y)) (st' := [.int (n - (1 : Int32)), .ref 97]) rfl rfl ?_
              refine r_lald (L := 24000) (i := (n - (1 : Int32))) (b97 (n - (1 : Int32)).toInt.toNat) rfl hM rfl (by omega) rfl ?_
              generalize g126 : b97 (n - (1 : Int32)).toInt.toNat = v125
              have x127 : v125.toInt = rB b97 (n.toInt - 1) := rB_of (i := (n - (1 : Int32))) g126 e124
              refine hs (f := dm_lld 174 6) rfl rfl ?_
              refine g_lc_lt (x := v125) (y := f9) (m := 175) (n := 178) (tt := 211) rfl rfl (fun h128 => ?_) (fun h128 => ?_)
              · skip
                have h128 : v125.toInt < f9.toInt := h128
                refine hs (f := dm_ald 212 0) rfl rfl ?_
                refine r_geta (c := 93) rfl hM rfl ?_
                refine hs (f := dm_ald 216 0) rfl rfl ?_
                refine r_geti n rfl hM rfl rfl ?_
                refine hs (f := dm_lld 221 6) rfl rfl ?_
                refine r_last (L := 24000) (i := n) (x := f9) b96 rfl hM rfl (by rcases hlen with zz | zz <;> first | omega | (rcases nab2 zz with zn | zn <;> omega)) rfl (fun M129 hM129 => ?_)
                replace hM129 := rm_to (q' := (sB (sB (sF q 34 n) 96 (vp_updL b96 n.toInt.toNat f9)) 97 b97)) hM129 (show sB (sB (sB (sF q 34 n) 96 b96) 97 b97) 96 (vp_updL b96 n.toInt.toNat f9) = (sB (sB (sF q 34 n) 96 (vp_updL b96 n.toInt.toNat f9)) 97 b97) from (show sB (sB (sB (sF q 34 n) 96 b96) 97 b97) 96 (vp_updL b96 n.toInt.toNat f9) = (sB (sB (sF q 34 n) 96 (vp_updL b96 n.toInt.toNat f9)) 97 b97) from Eq.trans (show sB (sB (sB (sF q 34 n) 96 b96) 97 b97) 96 (vp_updL b96 n.toInt.toNat f9) = sB (sB (sB (sF q 34 n) 96 b96) 96 (vp_updL b96 n.toInt.toNat f9)) 97 b97 from sB_cm (by decide)) (congrArg (fun z => sB z 97 b97) (show sB (sB (sF q 34 n) 96 b96) 96 (vp_updL b96 n.toInt.toNat f9) = (sB (sF q 34 n) 96 (vp_updL b96 n.toInt.toNat f9)) from sB_sB))))
                refine hs (f := dm_ald 223 0) rfl rfl ?_
                refine r_geta (c := 94) rfl hM129 rfl ?_
                refine hs (f := dm_ald 227 0) rfl rfl ?_
                refine r_geti n rfl hM129 rfl rfl ?_
                refine hs (f := dm_lld 232 8) rfl rfl ?_
                refine r_last (L := 24000) (i := n) (x := t9) b97 rfl hM129 rfl (by rcases hlen with zz | zz <;> first | omega | (rcases nab2 zz with zn | zn <;> omega)) rfl (fun M130 hM130 => ?_)
                replace hM130 := rm_to (q' := (sB (sB (sF q 34 n) 96 (vp_updL b96 n.toInt.toNat f9)) 97 (vp_updL b97 n.toInt.toNat t9))) hM130 (show sB (sB (sB (sF q 34 n) 96 (vp_updL b96 n.toInt.toNat f9)) 97 b97) 97 (vp_updL b97 n.toInt.toNat t9) = (sB (sB (sF q 34 n) 96 (vp_updL b96 n.toInt.toNat f9)) 97 (vp_updL b97 n.toInt.toNat t9)) from (show sB (sB (sB (sF q 34 n) 96 (vp_updL b96 n.toInt.toNat f9)) 97 b97) 97 (vp_updL b97 n.toInt.toNat t9) = (sB (sB (sF q 34 n) 96 (vp_updL b96 n.toInt.toNat f9)) 97 (vp_updL b97 n.toInt.toNat t9)) from sB_sB))
                refine hs (f := dm_ald 234 0) rfl rfl ?_
                refine hs (f := dm_dup 235) (st' := [.ref 68, .ref 68]) rfl rfl ?_
                refine r_geti n rfl hM130 rfl rfl ?_
                refine hs (f := dm_push 239 (.int 1)) rfl rfl ?_
                have e131 : (n + (1 : Int32)).toInt = n.toInt + 1 := by have w := i_addc (x := n) (y := (1 : Int32)) 1 rfl (by omega) (by omega); omega
                refine hs (f := dm_ii 240 (fun x y => x + y)) (st' := [.int (n + (1 : Int32)), .ref 68]) rfl rfl ?_
                refine r_puti rfl hM130 rfl (fun M132 hM132 => ?_)
                replace hM132 := rm_to (q' := (sB (sB (sF q 34 (n + (1 : Int32))) 96 (vp_updL b96 n.toInt.toNat f9)) 97 (vp_updL b97 n.toInt.toNat t9))) hM132 (show sF (sB (sB (sF q 34 n) 96 (vp_updL b96 n.toInt.toNat f9)) 97 (vp_updL b97 n.toInt.toNat t9)) 34 (n + (1 : Int32)) = (sB (sB (sF q 34 (n + (1 : Int32))) 96 (vp_updL b96 n.toInt.toNat f9)) 97 (vp_updL b97 n.toInt.toNat t9)) from (congrArg (fun z => (sB (sB z 96 (vp_updL b96 n.toInt.toNat f9)) 97 (vp_updL b97 n.toInt.toNat t9))) (show sF (sF q 34 n) 34 (n + (1 : Int32)) = (sF q 34 (n + (1 : Int32))) from sF_sF)))
                refine hs (f := dm_goto 20) rfl rfl ?_
                exact (IH _ hdec).2.2 (n + (1 : Int32)) i2 j2 l9 f9 t9 (vp_updL b96 n.toInt.toNat f9) (vp_updL b97 n.toInt.toNat t9) _ hM132 (by omega) (by omega) (by omega) (fun _ => by omega) (by rw [e131]; exact oS_app hx (Int.toNat_of_nonneg n0.1).symm (fun z => by omega) ft.1 ft.2.1 ft.2.2) (fun z => by rcases nab2 z with ⟨y1, y2, y3⟩ | ⟨y1, y2, y3, y4⟩ <;> first | exact Or.inr ⟨y1, by omega, by omega, by rw [e131, rB_upd (by omega), if_pos (by omega)]; omega⟩ | exact absurd y4 (by omega)) rfl
              · skip
                have h128 : v125.toInt ≥ f9.toInt := h128
                refine hs (f := dm_lld 180 8) rfl rfl ?_
                refine hs (f := dm_ald 181 0) rfl rfl ?_
                refine r_geta (c := 94) rfl hM rfl ?_
                refine hs (f := dm_ald 185 0) rfl rfl ?_
                refine r_geti n rfl hM rfl rfl ?_
                refine hs (f := dm_push 189 (.int 1)) rfl rfl ?_
                have e133 : (n - (1 : Int32)).toInt = n.toInt - 1 := by have w := i_subc (x := n) (y := (1 : Int32)) 1 rfl (by omega) (by omega); omega
                refine hs (f := dm_ii 190 (fun x y => x - y)) (st' := [.int (n - (1 : Int32)), .ref 97, .long t9]) rfl rfl ?_
                refine r_lald (L := 24000) (i := (n - (1 : Int32))) (b97 (n - (1 : Int32)).toInt.toNat) rfl hM rfl (by omega) rfl ?_
                generalize g135 : b97 (n - (1 : Int32)).toInt.toNat = v134
                have x136 : v134.toInt = rB b97 (n.toInt - 1) := rB_of (i := (n - (1 : Int32))) g135 e133
                refine g_lc_le (x := t9) (y := v134) (m := 192) (n := 195) (tt := 243) rfl rfl (fun h137 => ?_) (fun h137 => ?_)
                · skip
                  have h137 : t9.toInt ≤ v134.toInt := h137
                  refine hs (f := dm_goto 20) rfl rfl ?_
                  exact (IH _ hdec).2.2 n i2 j2 l9 f9 t9 b96 b97 _ hM (by omega) (by omega) (by omega) (fun _ => by omega) hx (fun z => by rcases nab2 z with ⟨y1, y2, y3⟩ | ⟨y1, y2, y3, y4⟩ <;> first | exact Or.inr ⟨y1, by omega, by omega, by omega⟩ | exact Or.inl ⟨y1, y2⟩) rfl
                · skip
                  have h137 : t9.toInt > v134.toInt := h137
                  refine hs (f := dm_ald 196 0) rfl rfl ?_
                  refine r_geta (c := 94) rfl hM rfl ?_
                  refine hs (f := dm_ald 200 0) rfl rfl ?_
                  refine r_geti n rfl hM rfl rfl ?_
                  refine hs (f := dm_push 204 (.int 1)) rfl rfl ?_
                  have e138 : (n - (1 : Int32)).toInt = n.toInt - 1 := by have w := i_subc (x := n) (y := (1 : Int32)) 1 rfl (by omega) (by omega); omega
                  refine hs (f := dm_ii 205 (fun x y => x - y)) (st' := [.int (n - (1 : Int32)), .ref 97]) rfl rfl ?_
                  refine hs (f := dm_lld 207 8) rfl rfl ?_
                  refine r_last (L := 24000) (i := (n - (1 : Int32))) (x := t9) b97 rfl hM rfl (by omega) rfl (fun M139 hM139 => ?_)
                  replace hM139 := rm_to (q' := (sB (sB (sF q 34 n) 96 b96) 97 (vp_updL b97 (n - (1 : Int32)).toInt.toNat t9))) hM139 (show sB (sB (sB (sF q 34 n) 96 b96) 97 b97) 97 (vp_updL b97 (n - (1 : Int32)).toInt.toNat t9) = (sB (sB (sF q 34 n) 96 b96) 97 (vp_updL b97 (n - (1 : Int32)).toInt.toNat t9)) from (show sB (sB (sB (sF q 34 n) 96 b96) 97 b97) 97 (vp_updL b97 (n - (1 : Int32)).toInt.toNat t9) = (sB (sB (sF q 34 n) 96 b96) 97 (vp_updL b97 (n - (1 : Int32)).toInt.toNat t9)) from sB_sB))
                  refine hs (f := dm_goto 243) rfl rfl ?_
                  refine hs (f := dm_goto 20) rfl rfl ?_
                  exact (IH _ hdec).2.2 n i2 j2 l9 f9 t9 b96 (vp_updL b97 (n - (1 : Int32)).toInt.toNat t9) _ hM139 (by omega) (by omega) (by omega) (fun _ => by omega) (oS_ext hx (by omega) (show n.toInt - 1 = _ by omega) (by omega) ft.2.2) (fun z => by rcases nab2 z with ⟨y1, y2, y3⟩ | ⟨y1, y2, y3, y4⟩ <;> first | exact Or.inr ⟨y1, by omega, by omega, by rw [rB_upd (by omega), if_pos (by omega)]; omega⟩ | exact Or.inl ⟨y1, y2⟩) rfl
        have j45 : ∀ (M : dm_Mem), Rm X (sB (sB (sF q 34 n) 96 b96) 97 b97) M → (i.toInt < rA (q.2.2.1 74) (a.toInt + 1) ∨ j.toInt < rA (q.2.2.1 74) (b.toInt + 1)) → hG 0 cd_164 45 [(3, .int i), (8, .long t), (6, .long f), (5, .int l), (4, .int j), (0, .ref 68), (1, .int a), (2, .int b)] [] M (fun r M' => r = none ∧ ∃ (n : Int32) (b96 b97 : Nat → Int64), oS b96 b97 n.toInt ∧ 0 ≤ n.toInt ∧ n.toInt ≤ 24000 ∧ (rA (q.2.2.1 74) a.toInt < rA (q.2.2.1 74) (a.toInt + 1) ∨ rA (q.2.2.1 74) b.toInt < rA (q.2.2.1 74) (b.toInt + 1) → 1 ≤ n.toInt) ∧ Rm X (sB (sB (sF q 34 n) 96 b96) 97 b97) M') := by
          intro M hM hij
          refine hs (f := dm_ild 47 4) rfl rfl ?_
          refine hs (f := dm_ald 48 0) rfl rfl ?_
          refine r_geta (c := 71) rfl hM rfl ?_
          refine hs (f := dm_ild 52 2) rfl rfl ?_
          refine hs (f := dm_push 53 (.int 1)) rfl rfl ?_
          have e140 : (b + (1 : Int32)).toInt = b.toInt + 1 := by have w := i_addc (x := b) (y := (1 : Int32)) 1 rfl (by omega) (by omega); omega
          refine hs (f := dm_ii 54 (fun x y => x + y)) (st' := [.int (b + (1 : Int32)), .ref 74, .int j]) rfl rfl ?_
          refine r_iald (L := 1001) (i := (b + (1 : Int32))) ((q.2.2.1 74) (b + (1 : Int32)).toInt.toNat) rfl hM rfl (by omega) rfl ?_
          generalize g142 : (q.2.2.1 74) (b + (1 : Int32)).toInt.toNat = v141
          have x143 : v141.toInt = rA (q.2.2.1 74) (b.toInt + 1) := rA_of (i := (b + (1 : Int32))) g142 e140
          refine g_ic_eq (n := 58) (tt := 87) rfl (fun h144 => ?_) (fun h144 => ?_)
          · skip
            have h144 : j.toInt = v141.toInt := h144
            refine hs (f := dm_push 88 (.int 1)) rfl rfl ?_
            refine hs (f := dm_goto 92) rfl rfl ?_
            refine hs (f := dm_ist 94 5) (lv' := [(5, .int 1), (3, .int i), (8, .long t), (6, .long f), (4, .int j), (0, .ref 68), (1, .int a), (2, .int b)]) rfl rfl ?_
            refine hs (f := dm_ild 96 5) rfl rfl ?_
            refine hs (f := dm_if_eq 99 108) (pc' := 99) rfl rfl ?_
            refine hs (f := dm_ald 100 0) rfl rfl ?_
            refine r_geta (c := 68) rfl hM rfl ?_
            refine hs (f := dm_ild 104 3) rfl rfl ?_
            refine r_lald (L := 24000) (i := i) ((q.2.2.2 71) i.toInt.toNat) rfl hM rfl (by omega) rfl ?_
            generalize g146 : (q.2.2.2 71) i.toInt.toNat = v145
            have x147 : v145.toInt = rB (q.2.2.2 71) i.toInt := rB_of (i := i) g146 rfl
            refine hs (f := dm_goto 115) rfl rfl ?_
            refine hs (f := dm_lst 117 6) (lv' := [(6, .long v145), (5, .int 1), (3, .int i), (8, .long t), (4, .int j), (0, .ref 68), (1, .int a), (2, .int b)]) rfl rfl ?_
            refine hs (f := dm_ild 119 5) rfl rfl ?_
            refine hs (f := dm_if_eq 122 131) (pc' := 122) rfl rfl ?_
            refine hs (f := dm_ald 123 0) rfl rfl ?_
            refine r_geta (c := 69) rfl hM rfl ?_
            refine hs (f := dm_ild 127 3) rfl rfl ?_
            refine r_lald (L := 24000) (i := i) ((q.2.2.2 72) i.toInt.toNat) rfl hM rfl (by omega) rfl ?_
            generalize g149 : (q.2.2.2 72) i.toInt.toNat = v148
            have x150 : v148.toInt = rB (q.2.2.2 72) i.toInt := rB_of (i := i) g149 rfl
            refine hs (f := dm_goto 138) rfl rfl ?_
            refine hs (f := dm_lst 140 8) (lv' := [(8, .long v148), (6, .long v145), (5, .int 1), (3, .int i), (4, .int j), (0, .ref 68), (1, .int a), (2, .int b)]) rfl rfl ?_
            refine hs (f := dm_ild 142 5) rfl rfl ?_
            refine hs (f := dm_if_eq 145 151) (pc' := 145) rfl rfl ?_
            have e151 : (i + 1).toInt = i.toInt + 1 := by have w := i_addc (x := i) (y := 1) 1 rfl (by omega) (by omega); omega
            refine hs (f := dm_iinc 148 3 1) (lv' := [(3, .int (i + 1)), (8, .long v148), (6, .long v145), (5, .int 1), (4, .int j), (0, .ref 68), (1, .int a), (2, .int b)]) rfl rfl ?_
            refine hs (f := dm_goto 154) rfl rfl ?_
            have hz := hoa.1 (i.toInt - rA (q.2.2.1 74) a.toInt) (by omega) (by omega)
            rw [rB_seg (by omega), rB_seg (by omega), show rA (q.2.2.1 74) a.toInt + (i.toInt - rA (q.2.2.1 74) a.toInt) = i.toInt by omega] at hz
            exact j154.1 (i + 1) j (1 : Int32) v145 v148 _ hM (by omega) (by omega) ⟨by omega, by omega, by omega⟩ (by omega) (by omega) (fun z => by
                rcases nab z with ⟨y1, y2⟩ | ⟨y1, y2, y3, y4⟩
                · exact Or.inl ⟨by omega, by omega, by rw [← y1]; omega⟩
                · have y5 : rA (q.2.2.1 74) (a.toInt + 1) = rA (q.2.2.1 74) (b.toInt + 1) := by rw [z]
                  have y6 := hfr z j.toInt
                  rw [← y1] at y6
                  omega)
          · skip
            have h144 : ¬ j.toInt = v141.toInt := h144
            refine hs (f := dm_ild 59 3) rfl rfl ?_
            refine hs (f := dm_ald 60 0) rfl rfl ?_
            refine r_geta (c := 71) rfl hM rfl ?_
            refine hs (f := dm_ild 64 1) rfl rfl ?_
            refine hs (f := dm_push 65 (.int 1)) rfl rfl ?_
            have e152 : (a + (1 : Int32)).toInt = a.toInt + 1 := by have w := i_addc (x := a) (y := (1 : Int32)) 1 rfl (by omega) (by omega); omega
            refine hs (f := dm_ii 66 (fun x y => x + y)) (st' := [.int (a + (1 : Int32)), .ref 74, .int i]) rfl rfl ?_
            refine r_iald (L := 1001) (i := (a + (1 : Int32))) ((q.2.2.1 74) (a + (1 : Int32)).toInt.toNat) rfl hM rfl (by omega) rfl ?_
            generalize g154 : (q.2.2.1 74) (a + (1 : Int32)).toInt.toNat = v153
            have x155 : v153.toInt = rA (q.2.2.1 74) (a.toInt + 1) := rA_of (i := (a + (1 : Int32))) g154 e152
            refine g_ic_ge (n := 70) (tt := 91) rfl (fun h156 => ?_) (fun h156 => ?_)
            · skip
              have h156 : i.toInt ≥ v153.toInt := h156
              refine hs (f := dm_push 92 (.int 0)) rfl rfl ?_
              refine hs (f := dm_ist 94 5) (lv' := [(5, .int 0), (3, .int i), (8, .long t), (6, .long f), (4, .int j), (0, .ref 68), (1, .int a), (2, .int b)]) rfl rfl ?_
              refine hs (f := dm_ild 96 5) rfl rfl ?_
              refine hs (f := dm_if_eq 99 108) (pc' := 108) rfl rfl ?_
              refine hs (f := dm_ald 109 0) rfl rfl ?_
              refine r_geta (c := 68) rfl hM rfl ?_
              refine hs (f := dm_ild 114 4) rfl rfl ?_
              refine r_lald (L := 24000) (i := j) ((q.2.2.2 71) j.toInt.toNat) rfl hM rfl (by omega) rfl ?_
              generalize g158 : (q.2.2.2 71) j.toInt.toNat = v157
              have x159 : v157.toInt = rB (q.2.2.2 71) j.toInt := rB_of (i := j) g158 rfl
              refine hs (f := dm_lst 117 6) (lv' := [(6, .long v157), (5, .int 0), (3, .int i), (8, .long t), (4, .int j), (0, .ref 68), (1, .int a), (2, .int b)]) rfl rfl ?_
              refine hs (f := dm_ild 119 5) rfl rfl ?_
              refine hs (f := dm_if_eq 122 131) (pc' := 131) rfl rfl ?_
              refine hs (f := dm_ald 132 0) rfl rfl ?_
              refine r_geta (c := 69) rfl hM rfl ?_
              refine hs (f := dm_ild 137 4) rfl rfl ?_
              refine r_lald (L := 24000) (i := j) ((q.2.2.2 72) j.toInt.toNat) rfl hM rfl (by omega) rfl ?_
              generalize g161 : (q.2.2.2 72) j.toInt.toNat = v160
              have x162 : v160.toInt = rB (q.2.2.2 72) j.toInt := rB_of (i := j) g161 rfl
              refine hs (f := dm_lst 140 8) (lv' := [(8, .long v160), (6, .long v157), (5, .int 0), (3, .int i), (4, .int j), (0, .ref 68), (1, .int a), (2, .int b)]) rfl rfl ?_
              refine hs (f := dm_ild 142 5) rfl rfl ?_
              refine hs (f := dm_if_eq 145 151) (pc' := 151) rfl rfl ?_
              have e163 : (j + 1).toInt = j.toInt + 1 := by have w := i_addc (x := j) (y := 1) 1 rfl (by omega) (by omega); omega
              refine hs (f := dm_iinc 154 4 1) (lv' := [(4, .int (j + 1)), (8, .long v160), (6, .long v157), (5, .int 0), (3, .int i), (0, .ref 68), (1, .int a), (2, .int b)]) rfl rfl ?_
              have hz := hob.1 (j.toInt - rA (q.2.2.1 74) b.toInt) (by omega) (by omega)
              rw [rB_seg (by omega), rB_seg (by omega), show rA (q.2.2.1 74) b.toInt + (j.toInt - rA (q.2.2.1 74) b.toInt) = j.toInt by omega] at hz
              exact j154.2 i (j + 1) (0 : Int32) v157 v160 _ hM (by omega) (by omega) ⟨by omega, by omega, by omega⟩ (by omega) (by omega) (fun z => by
                  rcases nab z with ⟨y1, y2⟩ | ⟨y1, y2, y3, y4⟩
                  · have y5 : rA (q.2.2.1 74) (a.toInt + 1) = rA (q.2.2.1 74) (b.toInt + 1) := by rw [z]
                    have y7 : rB (q.2.2.2 71) i.toInt = rB (q.2.2.2 71) j.toInt := by rw [y1]
                    omega
                  · exact Or.inr ⟨by omega, by omega, by omega, by omega⟩)
            · skip
              have h156 : i.toInt < v153.toInt := h156
              refine hs (f := dm_ald 71 0) rfl rfl ?_
              refine r_geta (c := 68) rfl hM rfl ?_
              refine hs (f := dm_ild 75 3) rfl rfl ?_
              refine r_lald (L := 24000) (i := i) ((q.2.2.2 71) i.toInt.toNat) rfl hM rfl (by omega) rfl ?_
              generalize g165 : (q.2.2.2 71) i.toInt.toNat = v164
              have x166 : v164.toInt = rB (q.2.2.2 71) i.toInt := rB_of (i := i) g165 rfl
              refine hs (f := dm_ald 77 0) rfl rfl ?_
              refine r_geta (c := 68) rfl hM rfl ?_
              refine hs (f := dm_ild 82 4) rfl rfl ?_
              refine r_lald (L := 24000) (i := j) ((q.2.2.2 71) j.toInt.toNat) rfl hM rfl (by omega) rfl ?_
              generalize g168 : (q.2.2.2 71) j.toInt.toNat = v167
              have x169 : v167.toInt = rB (q.2.2.2 71) j.toInt := rB_of (i := j) g168 rfl
              refine g_lc_gt (x := v164) (y := v167) (m := 84) (n := 87) (tt := 91) rfl rfl (fun h170 => ?_) (fun h170 => ?_)
              · skip
                have h170 : v164.toInt > v167.toInt := h170
                refine hs (f := dm_push 92 (.int 0)) rfl rfl ?_
                refine hs (f := dm_ist 94 5) (lv' := [(5, .int 0), (3, .int i), (8, .long t), (6, .long f), (4, .int j), (0, .ref 68), (1, .int a), (2, .int b)]) rfl rfl ?_
                refine hs (f := dm_ild 96 5) rfl rfl ?_
                refine hs (f := dm_if_eq 99 108) (pc' := 108) rfl rfl ?_
                refine hs (f := dm_ald 109 0) rfl rfl ?_
                refine r_geta (c := 68) rfl hM rfl ?_
                refine hs (f := dm_ild 114 4) rfl rfl ?_
                refine r_lald (L := 24000) (i := j) ((q.2.2.2 71) j.toInt.toNat) rfl hM rfl (by omega) rfl ?_
                generalize g172 : (q.2.2.2 71) j.toInt.toNat = v171
                have x173 : v171.toInt = rB (q.2.2.2 71) j.toInt := rB_of (i := j) g172 rfl
                refine hs (f := dm_lst 117 6) (lv' := [(6, .long v171), (5, .int 0), (3, .int i), (8, .long t), (4, .int j), (0, .ref 68), (1, .int a), (2, .int b)]) rfl rfl ?_
                refine hs (f := dm_ild 119 5) rfl rfl ?_
                refine hs (f := dm_if_eq 122 131) (pc' := 131) rfl rfl ?_
                refine hs (f := dm_ald 132 0) rfl rfl ?_
                refine r_geta (c := 69) rfl hM rfl ?_
                refine hs (f := dm_ild 137 4) rfl rfl ?_
                refine r_lald (L := 24000) (i := j) ((q.2.2.2 72) j.toInt.toNat) rfl hM rfl (by omega) rfl ?_
                generalize g175 : (q.2.2.2 72) j.toInt.toNat = v174
                have x176 : v174.toInt = rB (q.2.2.2 72) j.toInt := rB_of (i := j) g175 rfl
                refine hs (f := dm_lst 140 8) (lv' := [(8, .long v174), (6, .long v171), (5, .int 0), (3, .int i), (4, .int j), (0, .ref 68), (1, .int a), (2, .int b)]) rfl rfl ?_
                refine hs (f := dm_ild 142 5) rfl rfl ?_
                refine hs (f := dm_if_eq 145 151) (pc' := 151) rfl rfl ?_
                have e177 : (j + 1).toInt = j.toInt + 1 := by have w := i_addc (x := j) (y := 1) 1 rfl (by omega) (by omega); omega
                refine hs (f := dm_iinc 154 4 1) (lv' := [(4, .int (j + 1)), (8, .long v174), (6, .long v171), (5, .int 0), (3, .int i), (0, .ref 68), (1, .int a), (2, .int b)]) rfl rfl ?_
                have hz := hob.1 (j.toInt - rA (q.2.2.1 74) b.toInt) (by omega) (by omega)
                rw [rB_seg (by omega), rB_seg (by omega), show rA (q.2.2.1 74) b.toInt + (j.toInt - rA (q.2.2.1 74) b.toInt) = j.toInt by omega] at hz
                exact j154.2 i (j + 1) (0 : Int32) v171 v174 _ hM (by omega) (by omega) ⟨by omega, by omega, by omega⟩ (by omega) (by omega) (fun z => by
                    rcases nab z with ⟨y1, y2⟩ | ⟨y1, y2, y3, y4⟩
                    · have y5 : rA (q.2.2.1 74) (a.toInt + 1) = rA (q.2.2.1 74) (b.toInt + 1) := by rw [z]
                      have y7 : rB (q.2.2.2 71) i.toInt = rB (q.2.2.2 71) j.toInt := by rw [y1]
                      omega
                    · exact Or.inr ⟨by omega, by omega, by omega, by omega⟩)
              · skip
                have h170 : v164.toInt ≤ v167.toInt := h170
                refine hs (f := dm_push 88 (.int 1)) rfl rfl ?_
                refine hs (f := dm_goto 92) rfl rfl ?_
                refine hs (f := dm_ist 94 5) (lv' := [(5, .int 1), (3, .int i), (8, .long t), (6, .long f), (4, .int j), (0, .ref 68), (1, .int a), (2, .int b)]) rfl rfl ?_
                refine hs (f := dm_ild 96 5) rfl rfl ?_
                refine hs (f := dm_if_eq 99 108) (pc' := 99) rfl rfl ?_
                refine hs (f := dm_ald 100 0) rfl rfl ?_
                refine r_geta (c := 68) rfl hM rfl ?_
                refine hs (f := dm_ild 104 3) rfl rfl ?_
                refine r_lald (L := 24000) (i := i) ((q.2.2.2 71) i.toInt.toNat) rfl hM rfl (by omega) rfl ?_
                generalize g179 : (q.2.2.2 71) i.toInt.toNat = v178
                have x180 : v178.toInt = rB (q.2.2.2 71) i.toInt := rB_of (i := i) g179 rfl
                refine hs (f := dm_goto 115) rfl rfl ?_
                refine hs (f := dm_lst 117 6) (lv' := [(6, .long v178), (5, .int 1), (3, .int i), (8, .long t), (4, .int j), (0, .ref 68), (1, .int a), (2, .int b)]) rfl rfl ?_
                refine hs (f := dm_ild 119 5) rfl rfl ?_
                refine hs (f := dm_if_eq 122 131) (pc' := 122) rfl rfl ?_
                refine hs (f := dm_ald 123 0) rfl rfl ?_
                refine r_geta (c := 69) rfl hM rfl ?_
                refine hs (f := dm_ild 127 3) rfl rfl ?_
                refine r_lald (L := 24000) (i := i) ((q.2.2.2 72) i.toInt.toNat) rfl hM rfl (by omega) rfl ?_
                generalize g182 : (q.2.2.2 72) i.toInt.toNat = v181
                have x183 : v181.toInt = rB (q.2.2.2 72) i.toInt := rB_of (i := i) g182 rfl
                refine hs (f := dm_goto 138) rfl rfl ?_
                refine hs (f := dm_lst 140 8) (lv' := [(8, .long v181), (6, .long v178), (5, .int 1), (3, .int i), (4, .int j), (0, .ref 68), (1, .int a), (2, .int b)]) rfl rfl ?_
                refine hs (f := dm_ild 142 5) rfl rfl ?_
                refine hs (f := dm_if_eq 145 151) (pc' := 145) rfl rfl ?_
                have e184 : (i + 1).toInt = i.toInt + 1 := by have w := i_addc (x := i) (y := 1) 1 rfl (by omega) (by omega); omega
                refine hs (f := dm_iinc 148 3 1) (lv' := [(3, .int (i + 1)), (8, .long v181), (6, .long v178), (5, .int 1), (4, .int j), (0, .ref 68), (1, .int a), (2, .int b)]) rfl rfl ?_
                refine hs (f := dm_goto 154) rfl rfl ?_
                have hz := hoa.1 (i.toInt - rA (q.2.2.1 74) a.toInt) (by omega) (by omega)
                rw [rB_seg (by omega), rB_seg (by omega), show rA (q.2.2.1 74) a.toInt + (i.toInt - rA (q.2.2.1 74) a.toInt) = i.toInt by omega] at hz
                exact j154.1 (i + 1) j (1 : Int32) v178 v181 _ hM (by omega) (by omega) ⟨by omega, by omega, by omega⟩ (by omega) (by omega) (fun z => by
                    rcases nab z with ⟨y1, y2⟩ | ⟨y1, y2, y3, y4⟩
                    · exact Or.inl ⟨by omega, by omega, by rw [← y1]; omega⟩
                    · have y5 : rA (q.2.2.1 74) (a.toInt + 1) = rA (q.2.2.1 74) (b.toInt + 1) := by rw [z]
                      have y6 := hfr z j.toInt
                      rw [← y1] at y6
                      omega)
        refine hs (f := dm_ild 21 3) rfl rfl ?_
        refine hs (f := dm_ald 22 0) rfl rfl ?_
        refine r_geta (c := 71) rfl hM rfl ?_
        refine hs (f := dm_ild 26 1) rfl rfl ?_
        refine hs (f := dm_push 27 (.int 1)) rfl rfl ?_
        have e185 : (a + (1 : Int32)).toInt = a.toInt + 1 := by have w := i_addc (x := a) (y := (1 : Int32)) 1 rfl (by omega) (by omega); omega
        refine hs (f := dm_ii 28 (fun x y => x + y)) (st' := [.int (a + (1 : Int32)), .ref 74, .int i]) rfl rfl ?_
        refine r_iald (L := 1001) (i := (a + (1 : Int32))) ((q.2.2.1 74) (a + (1 : Int32)).toInt.toNat) rfl hM rfl (by omega) rfl ?_
        generalize g187 : (q.2.2.1 74) (a + (1 : Int32)).toInt.toNat = v186
        have x188 : v186.toInt = rA (q.2.2.1 74) (a.toInt + 1) := rA_of (i := (a + (1 : Int32))) g187 e185
        refine g_ic_lt (n := 32) (tt := 45) rfl (fun h189 => ?_) (fun h189 => ?_)
        · skip
          have h189 : i.toInt < v186.toInt := h189
          exact j45  _ hM (by omega)
        · skip
          have h189 : i.toInt ≥ v186.toInt := h189
          refine hs (f := dm_ild 34 4) rfl rfl ?_
          refine hs (f := dm_ald 35 0) rfl rfl ?_
          refine r_geta (c := 71) rfl hM rfl ?_
          refine hs (f := dm_ild 39 2) rfl rfl ?_
          refine hs (f := dm_push 40 (.int 1)) rfl rfl ?_
          have e190 : (b + (1 : Int32)).toInt = b.toInt + 1 := by have w := i_addc (x := b) (y := (1 : Int32)) 1 rfl (by omega) (by omega); omega
          refine hs (f := dm_ii 41 (fun x y => x + y)) (st' := [.int (b + (1 : Int32)), .ref 74, .int j]) rfl rfl ?_
          refine r_iald (L := 1001) (i := (b + (1 : Int32))) ((q.2.2.1 74) (b + (1 : Int32)).toInt.toNat) rfl hM rfl (by omega) rfl ?_
          generalize g192 : (q.2.2.1 74) (b + (1 : Int32)).toInt.toNat = v191
          have x193 : v191.toInt = rA (q.2.2.1 74) (b.toInt + 1) := rA_of (i := (b + (1 : Int32))) g192 e190
          refine g_ic_ge (n := 45) (tt := 246) rfl (fun h194 => ?_) (fun h194 => ?_)
          · skip
            have h194 : j.toInt ≥ v191.toInt := h194
            exact hr (f := dm_vret) rfl rfl (⟨rfl, n, b96, b97, hx, n0.1, (by rcases hlen with zz | zz <;> first | omega | (rcases nab zz with zn | zn <;> omega)), fun z => n1 (by omega), hM⟩)
          · skip
            have h194 : j.toInt < v191.toInt := h194
            exact j45  _ hM (by omega)
      · skip
        intro n i j l f t b96 b97 M hM i0 j0 n0 n1 hx nab hms
        have j154 : (∀ (i2 j2 l9 : Int32) (f9 t9 : Int64) (M : dm_Mem), Rm X (sB (sB (sF q 34 n) 96 b96) 97 b97) M → (rA (q.2.2.1 74) a.toInt ≤ i2.toInt ∧ i2.toInt ≤ rA (q.2.2.1 74) (a.toInt + 1)) → (rA (q.2.2.1 74) b.toInt ≤ j2.toInt ∧ j2.toInt ≤ rA (q.2.2.1 74) (b.toInt + 1)) → (0 ≤ f9.toInt ∧ f9.toInt < t9.toInt ∧ t9.toInt ≤ 1152921504606846976) → (n.toInt + 1 ≤ (i2.toInt - rA (q.2.2.1 74) a.toInt) + (j2.toInt - rA (q.2.2.1 74) b.toInt)) → (((rA (q.2.2.1 74) (a.toInt + 1) - i2.toInt) + (rA (q.2.2.1 74) (b.toInt + 1) - j2.toInt)).toNat < nn) → (a = b → (i2.toInt = j2.toInt + 1 ∧ n.toInt + 1 ≤ i2.toInt - rA (q.2.2.1 74) a.toInt ∧ rB (q.2.2.2 71) j2.toInt ≤ f9.toInt) ∨ (i2.toInt = j2.toInt ∧ n.toInt ≤ i2.toInt - rA (q.2.2.1 74) a.toInt ∧ 0 < n.toInt ∧ f9.toInt ≤ rB b97 (n.toInt - 1))) → hG 0 cd_164 154 [(3, .int i2), (8, .long t9), (6, .long f9), (5, .int l9), (4, .int j2), (0, .ref 68), (1, .int a), (2, .int b)] [] M (fun r M' => r = none ∧ ∃ (n : Int32) (b96 b97 : Nat → Int64), oS b96 b97 n.toInt ∧ 0 ≤ n.toInt ∧ n.toInt ≤ 24000 ∧ (rA (q.2.2.1 74) a.toInt < rA (q.2.2.1 74) (a.toInt + 1) ∨ rA (q.2.2.1 74) b.toInt < rA (q.2.2.1 74) (b.toInt + 1) → 1 ≤ n.toInt) ∧ Rm X (sB (sB (sF q 34 n) 96 b96) 97 b97) M')) ∧ (∀ (i2 j2 l9 : Int32) (f9 t9 : Int64) (M : dm_Mem), Rm X (sB (sB (sF q 34 n) 96 b96) 97 b97) M → (rA (q.2.2.1 74) a.toInt ≤ i2.toInt ∧ i2.toInt ≤ rA (q.2.2.1 74) (a.toInt + 1)) → (rA (q.2.2.1 74) b.toInt ≤ j2.toInt ∧ j2.toInt ≤ rA (q.2.2.1 74) (b.toInt + 1)) → (0 ≤ f9.toInt ∧ f9.toInt < t9.toInt ∧ t9.toInt ≤ 1152921504606846976) → (n.toInt + 1 ≤ (i2.toInt - rA (q.2.2.1 74) a.toInt) + (j2.toInt - rA (q.2.2.1 74) b.toInt)) → (((rA (q.2.2.1 74) (a.toInt + 1) - i2.toInt) + (rA (q.2.2.1 74) (b.toInt + 1) - j2.toInt)).toNat < nn) → (a = b → (i2.toInt = j2.toInt + 1 ∧ n.toInt + 1 ≤ i2.toInt - rA (q.2.2.1 74) a.toInt ∧ rB (q.2.2.2 71) j2.toInt ≤ f9.toInt) ∨ (i2.toInt = j2.toInt ∧ n.toInt ≤ i2.toInt - rA (q.2.2.1 74) a.toInt ∧ 0 < n.toInt ∧ f9.toInt ≤ rB b97 (n.toInt - 1))) → hG 0 cd_164 154 [(4, .int j2), (8, .long t9), (6, .long f9), (5, .int l9), (3, .int i2), (0, .ref 68), (1, .int a), (2, .int b)] [] M (fun r M' => r = none ∧ ∃ (n : Int32) (b96 b97 : Nat → Int64), oS b96 b97 n.toInt ∧ 0 ≤ n.toInt ∧ n.toInt ≤ 24000 ∧ (rA (q.2.2.1 74) a.toInt < rA (q.2.2.1 74) (a.toInt + 1) ∨ rA (q.2.2.1 74) b.toInt < rA (q.2.2.1 74) (b.toInt + 1) → 1 ≤ n.toInt) ∧ Rm X (sB (sB (sF q 34 n) 96 b96) 97 b97) M')) := by
          refine ⟨?_, ?_⟩
          · skip
            intro i2 j2 l9 f9 t9 M hM i3 j3 ft n3 hdec nab2
            have hn24 : n.toInt ≤ 24000 := by rcases hlen with zz | zz <;> first | omega | (rcases nab2 zz with zn | zn <;> omega)
            refine hs (f := dm_ald 155 0) rfl rfl ?_
            refine r_geti n rfl hM rfl rfl ?_
            refine g_if_le (n := 161) (tt := 211) rfl (fun h195 => ?_) (fun h195 => ?_)
            · skip
              have h195 : n.toInt ≤ 0 := h195
              refine hs (f := dm_ald 212 0) rfl rfl ?_
              refine r_geta (c := 93) rfl hM rfl ?_
              refine hs (f := dm_ald 216 0) rfl rfl ?_
              refine r_geti n rfl hM rfl rfl ?_
              refine hs (f := dm_lld 221 6) rfl rfl ?_
              refine r_last (L := 24000) (i := n) (x := f9) b96 rfl hM rfl (by rcases hlen with zz | zz <;> first | omega | (rcases nab2 zz with zn | zn <;> omega)) rfl (fun M196 hM196 => ?_)
              replace hM196 := rm_to (q' := (sB (sB (sF q 34 n) 96 (vp_updL b96 n.toInt.toNat f9)) 97 b97)) hM196 (show sB (sB (sB (sF q 34 n) 96 b96) 97 b97) 96 (vp_updL b96 n.toInt.toNat f9) = (sB (sB (sF q 34 n) 96 (vp_updL b96 n.toInt.toNat f9)) 97 b97) from (show sB (sB (sB (sF q 34 n) 96 b96) 97 b97) 96 (vp_updL b96 n.toInt.toNat f9) = (sB (sB (sF q 34 n) 96 (vp_updL b96 n.toInt.toNat f9)) 97 b97) from Eq.trans (show sB (sB (sB (sF q 34 n) 96 b96) 97 b97) 96 (vp_updL b96 n.toInt.toNat f9) = sB (sB (sB (sF q 34 n) 96 b96) 96 (vp_updL b96 n.toInt.toNat f9)) 97 b97 from sB_cm (by decide)) (congrArg (fun z => sB z 97 b97) (show sB (sB (sF q 34 n) 96 b96) 96 (vp_updL b96 n.toInt.toNat f9) = (sB (sF q 34 n) 96 (vp_updL b96 n.toInt.toNat f9)) from sB_sB))))
              refine hs (f := dm_ald 223 0) rfl rfl ?_
              refine r_geta (c := 94) rfl hM196 rfl ?_
              refine hs (f := dm_ald 227 0) rfl rfl ?_
              refine r_geti n rfl hM196 rfl rfl ?_
              refine hs (f := dm_lld 232 8) rfl rfl ?_
              refine r_last (L := 24000) (i := n) (x := t9) b97 rfl hM196 rfl (by rcases hlen with zz | zz <;> first | omega | (rcases nab2 zz with zn | zn <;> omega)) rfl (fun M197 hM197 => ?_)
              replace hM197 := rm_to (q' := (sB (sB (sF q 34 n) 96 (vp_updL b96 n.toInt.toNat f9)) 97 (vp_updL b97 n.toInt.toNat t9))) hM197 (show sB (sB (sB (sF q 34 n) 96 (vp_updL b96 n.toInt.toNat f9)) 97 b97) 97 (vp_updL b97 n.toInt.toNat t9) = (sB (sB (sF q 34 n) 96 (vp_updL b96 n.toInt.toNat f9)) 97 (vp_updL b97 n.toInt.toNat t9)) from (show sB (sB (sB (sF q 34 n) 96 (vp_updL b96 n.toInt.toNat f9)) 97 b97) 97 (vp_updL b97 n.toInt.toNat t9) = (sB (sB (sF q 34 n) 96 (vp_updL b96 n.toInt.toNat f9)) 97 (vp_updL b97 n.toInt.toNat t9)) from sB_sB))
              refine hs (f := dm_ald 234 0) rfl rfl ?_
              refine hs (f := dm_dup 235) (st' := [.ref 68, .ref 68]) rfl rfl ?_
              refine r_geti n rfl hM197 rfl rfl ?_
              refine hs (f := dm_push 239 (.int 1)) rfl rfl ?_
              have e198 : (n + (1 : Int32)).toInt = n.toInt + 1 := by have w := i_addc (x := n) (y := (1 : Int32)) 1 rfl (by omega) (by omega); omega
              refine hs (f := dm_ii 240 (fun x y => x + y)) (st' := [.int (n + (1 : Int32)), .ref 68]) rfl rfl ?_
              refine r_puti rfl hM197 rfl (fun M199 hM199 => ?_)
              replace hM199 := rm_to (q' := (sB (sB (sF q 34 (n + (1 : Int32))) 96 (vp_updL b96 n.toInt.toNat f9)) 97 (vp_updL b97 n.toInt.toNat t9))) hM199 (show sF (sB (sB (sF q 34 n) 96 (vp_updL b96 n.toInt.toNat f9)) 97 (vp_updL b97 n.toInt.toNat t9)) 34 (n + (1 : Int32)) = (sB (sB (sF q 34 (n + (1 : Int32))) 96 (vp_updL b96 n.toInt.toNat f9)) 97 (vp_updL b97 n.toInt.toNat t9)) from (congrArg (fun z => (sB (sB z 96 (vp_updL b96 n.toInt.toNat f9)) 97 (vp_updL b97 n.toInt.toNat t9))) (show sF (sF q 34 n) 34 (n + (1 : Int32)) = (sF q 34 (n + (1 : Int32))) from sF_sF)))
              refine hs (f := dm_goto 20) rfl rfl ?_
              exact (IH _ hdec).2.1 (n + (1 : Int32)) i2 j2 l9 f9 t9 (vp_updL b96 n.toInt.toNat f9) (vp_updL b97 n.toInt.toNat t9) _ hM199 (by omega) (by omega) (by omega) (fun _ => by omega) (by rw [e198]; exact oS_app hx (Int.toNat_of_nonneg n0.1).symm (fun z => by omega) ft.1 ft.2.1 ft.2.2) (fun z => by rcases nab2 z with ⟨y1, y2, y3⟩ | ⟨y1, y2, y3, y4⟩ <;> first | exact Or.inr ⟨y1, by omega, by omega, by rw [e198, rB_upd (by omega), if_pos (by omega)]; omega⟩ | exact absurd y4 (by omega)) rfl
            · skip
              have h195 : n.toInt > 0 := h195
              refine hs (f := dm_ald 162 0) rfl rfl ?_
              refine r_geta (c := 94) rfl hM rfl ?_
              refine hs (f := dm_ald 166 0) rfl rfl ?_
              refine r_geti n rfl hM rfl rfl ?_
              refine hs (f := dm_push 170 (.int 1)) rfl rfl ?_
              have e200 : (n - (1 : Int32)).toInt = n.toInt - 1 := by have w := i_subc (x := n) (y := (1 : Int32)) 1 rfl (by omega) (by omega); omega
              refine hs (f := dm_ii 171 (fun x y => x - y)) (st' := [.int (n - (1 : Int32)), .ref 97]) rfl rfl ?_
              refine r_lald (L := 24000) (i := (n - (1 : Int32))) (b97 (n - (1 : Int32)).toInt.toNat) rfl hM rfl (by omega) rfl ?_
              generalize g202 : b97 (n - (1 : Int32)).toInt.toNat = v201
              have x203 : v201.toInt = rB b97 (n.toInt - 1) := rB_of (i := (n - (1 : Int32))) g202 e200
              refine hs (f := dm_lld 174 6) rfl rfl ?_
              refine g_lc_lt (x := v201) (y := f9) (m := 175) (n := 178) (tt := 211) rfl rfl (fun h204 => ?_) (fun h204 => ?_)
              · skip
                have h204 : v201.toInt < f9.toInt := h204
                refine hs (f := dm_ald 212 0) rfl rfl ?_
                refine r_geta (c := 93) rfl hM rfl ?_
                refine hs (f := dm_ald 216 0) rfl rfl ?_
                refine r_geti n rfl hM rfl rfl ?_
                refine hs (f := dm_lld 221 6) rfl rfl ?_
                refine r_last (L := 24000) (i := n) (x := f9) b96 rfl hM rfl (by rcases hlen with zz | zz <;> first | omega | (rcases nab2 zz with zn | zn <;> omega)) rfl (fun M205 hM205 => ?_)
                replace hM205 := rm_to (q' := (sB (sB (sF q 34 n) 96 (vp_updL b96 n.toInt.toNat f9)) 97 b97)) hM205 (show sB (sB (sB (sF q 34 n) 96 b96) 97 b97) 96 (vp_updL b96 n.toInt.toNat f9) = (sB (sB (sF q 34 n) 96 (vp_updL b96 n.toInt.toNat f9)) 97 b97) from (show sB (sB (sB (sF q 34 n) 96 b96) 97 b97) 96 (vp_updL b96 n.toInt.toNat f9) = (sB (sB (sF q 34 n) 96 (vp_updL b96 n.toInt.toNat f9)) 97 b97) from Eq.trans (show sB (sB (sB (sF q 34 n) 96 b96) 97 b97) 96 (vp_updL b96 n.toInt.toNat f9) = sB (sB (sB (sF q 34 n) 96 b96) 96 (vp_updL b96 n.toInt.toNat f9)) 97 b97 from sB_cm (by decide)) (congrArg (fun z => sB z 97 b97) (show sB (sB (sF q 34 n) 96 b96) 96 (vp_updL b96 n.toInt.toNat f9) = (sB (sF q 34 n) 96 (vp_updL b96 n.toInt.toNat f9)) from sB_sB))))
                refine hs (f := dm_ald 223 0) rfl rfl ?_
                refine r_geta (c := 94) rfl hM205 rfl ?_
                refine hs (f := dm_ald 227 0) rfl rfl ?_
                refine r_geti n rfl hM205 rfl rfl ?_
                refine hs (f := dm_lld 232 8) rfl rfl ?_
                refine r_last (L := 24000) (i := n) (x := t9) b97 rfl hM205 rfl (by rcases hlen with zz | zz <;> first | omega | (rcases nab2 zz with zn | zn <;> omega)) rfl (fun M206 hM206 => ?_)
                replace hM206 := rm_to (q' := (sB (sB (sF q 34 n) 96 (vp_updL b96 n.toInt.toNat f9)) 97 (vp_updL b97 n.toInt.toNat t9))) hM206 (show sB (sB (sB (sF q 34 n) 96 (vp_updL b96 n.toInt.toNat f9)) 97 b97) 97 (vp_updL b97 n.toInt.toNat t9) = (sB (sB (sF q 34 n) 96 (vp_updL b96 n.toInt.toNat f9)) 97 (vp_updL b97 n.toInt.toNat t9)) from (show sB (sB (sB (sF q 34 n) 96 (vp_updL b96 n.toInt.toNat f9)) 97 b97) 97 (vp_updL b97 n.toInt.toNat t9) = (sB (sB (sF q 34 n) 96 (vp_updL b96 n.toInt.toNat f9)) 97 (vp_updL b97 n.toInt.toNat t9)) from sB_sB))
                refine hs (f := dm_ald 234 0) rfl rfl ?_
                refine hs (f := dm_dup 235) (st' := [.ref 68, .ref 68]) rfl rfl ?_
                refine r_geti n rfl hM206 rfl rfl ?_
                refine hs (f := dm_push 239 (.int 1)) rfl rfl ?_
                have e207 : (n + (1 : Int32)).toInt = n.toInt + 1 := by have w := i_addc (x := n) (y := (1 : Int32)) 1 rfl (by omega) (by omega); omega
                refine hs (f := dm_ii 240 (fun x y => x + y)) (st' := [.int (n + (1 : Int32)), .ref 68]) rfl rfl ?_
                refine r_puti rfl hM206 rfl (fun M208 hM208 => ?_)
                replace hM208 := rm_to (q' := (sB (sB (sF q 34 (n + (1 : Int32))) 96 (vp_updL b96 n.toInt.toNat f9)) 97 (vp_updL b97 n.toInt.toNat t9))) hM208 (show sF (sB (sB (sF q 34 n) 96 (vp_updL b96 n.toInt.toNat f9)) 97 (vp_updL b97 n.toInt.toNat t9)) 34 (n + (1 : Int32)) = (sB (sB (sF q 34 (n + (1 : Int32))) 96 (vp_updL b96 n.toInt.toNat f9)) 97 (vp_updL b97 n.toInt.toNat t9)) from (congrArg (fun z => (sB (sB z 96 (vp_updL b96 n.toInt.toNat f9)) 97 (vp_updL b97 n.toInt.toNat t9))) (show sF (sF q 34 n) 34 (n + (1 : Int32)) = (sF q 34 (n + (1 : Int32))) from sF_sF)))
                refine hs (f := dm_goto 20) rfl rfl ?_
                exact (IH _ hdec).2.1 (n + (1 : Int32)) i2 j2 l9 f9 t9 (vp_updL b96 n.toInt.toNat f9) (vp_updL b97 n.toInt.toNat t9) _ hM208 (by omega) (by omega) (by omega) (fun _ => by omega) (by rw [e207]; exact oS_app hx (Int.toNat_of_nonneg n0.1).symm (fun z => by omega) ft.1 ft.2.1 ft.2.2) (fun z => by rcases nab2 z with ⟨y1, y2, y3⟩ | ⟨y1, y2, y3, y4⟩ <;> first | exact Or.inr ⟨y1, by omega, by omega, by rw [e207, rB_upd (by omega), if_pos (by omega)]; omega⟩ | exact absurd y4 (by omega)) rfl
              · skip
                have h204 : v201.toInt ≥ f9.toInt := h204
                refine hs (f := dm_lld 180 8) rfl rfl ?_
                refine hs (f := dm_ald 181 0) rfl rfl ?_
                refine r_geta (c := 94) rfl hM rfl ?_
                refine hs (f := dm_ald 185 0) rfl rfl ?_
                refine r_geti n rfl hM rfl rfl ?_
                refine hs (f := dm_push 189 (.int 1)) rfl rfl ?_
                have e209 : (n - (1 : Int32)).toInt = n.toInt - 1 := by have w := i_subc (x := n) (y := (1 : Int32)) 1 rfl (by omega) (by omega); omega
                refine hs (f := dm_ii 190 (fun x y => x - y)) (st' := [.int (n - (1 : Int32)), .ref 97, .long t9]) rfl rfl ?_
                refine r_lald (L := 24000) (i := (n - (1 : Int32))) (b97 (n - (1 : Int32)).toInt.toNat) rfl hM rfl (by omega) rfl ?_
                generalize g211 : b97 (n - (1 : Int32)).toInt.toNat = v210
                have x212 : v210.toInt = rB b97 (n.toInt - 1) := rB_of (i := (n - (1 : Int32))) g211 e209
                refine g_lc_le (x := t9) (y := v210) (m := 192) (n := 195) (tt := 243) rfl rfl (fun h213 => ?_) (fun h213 => ?_)
                · skip
                  have h213 : t9.toInt ≤ v210.toInt := h213
                  refine hs (f := dm_goto 20) rfl rfl ?_
                  exact (IH _ hdec).2.1 n i2 j2 l9 f9 t9 b96 b97 _ hM (by omega) (by omega) (by omega) (fun _ => by omega) hx (fun z => by rcases nab2 z with ⟨y1, y2, y3⟩ | ⟨y1, y2, y3, y4⟩ <;> first | exact Or.inr ⟨y1, by omega, by omega, by omega⟩ | exact Or.inl ⟨y1, y2⟩) rfl
                · skip
                  have h213 : t9.toInt > v210.toInt := h213
                  refine hs (f := dm_ald 196 0) rfl rfl ?_
                  refine r_geta (c := 94) rfl hM rfl ?_
                  refine hs (f := dm_ald 200 0) rfl rfl ?_
                  refine r_geti n rfl hM rfl rfl ?_
                  refine hs (f := dm_push 204 (.int 1)) rfl rfl ?_
                  have e214 : (n - (1 : Int32)).toInt = n.toInt - 1 := by have w := i_subc (x := n) (y := (1 : Int32)) 1 rfl (by omega) (by omega); omega
                  refine hs (f := dm_ii 205 (fun x y => x - y)) (st' := [.int (n - (1 : Int32)), .ref 97]) rfl rfl ?_
                  refine hs (f := dm_lld 207 8) rfl rfl ?_
                  refine r_last (L := 24000) (i := (n - (1 : Int32))) (x := t9) b97 rfl hM rfl (by omega) rfl (fun M215 hM215 => ?_)
                  replace hM215 := rm_to (q' := (sB (sB (sF q 34 n) 96 b96) 97 (vp_updL b97 (n - (1 : Int32)).toInt.toNat t9))) hM215 (show sB (sB (sB (sF q 34 n) 96 b96) 97 b97) 97 (vp_updL b97 (n - (1 : Int32)).toInt.toNat t9) = (sB (sB (sF q 34 n) 96 b96) 97 (vp_updL b97 (n - (1 : Int32)).toInt.toNat t9)) from (show sB (sB (sB (sF q 34 n) 96 b96) 97 b97) 97 (vp_updL b97 (n - (1 : Int32)).toInt.toNat t9) = (sB (sB (sF q 34 n) 96 b96) 97 (vp_updL b97 (n - (1 : Int32)).toInt.toNat t9)) from sB_sB))
                  refine hs (f := dm_goto 243) rfl rfl ?_
                  refine hs (f := dm_goto 20) rfl rfl ?_
                  exact (IH _ hdec).2.1 n i2 j2 l9 f9 t9 b96 (vp_updL b97 (n - (1 : Int32)).toInt.toNat t9) _ hM215 (by omega) (by omega) (by omega) (fun _ => by omega) (oS_ext hx (by omega) (show n.toInt - 1 = _ by omega) (by omega) ft.2.2) (fun z => by rcases nab2 z with ⟨y1, y2, y3⟩ | ⟨y1, y2, y3, y4⟩ <;> first | exact Or.inr ⟨y1, by omega, by omega, by rw [rB_upd (by omega), if_pos (by omega)]; omega⟩ | exact Or.inl ⟨y1, y2⟩) rfl
          · skip
            intro i2 j2 l9 f9 t9 M hM i3 j3 ft n3 hdec nab2
            have hn24 : n.toInt ≤ 24000 := by rcases hlen with zz | zz <;> first | omega | (rcases nab2 zz with zn | zn <;> omega)
            refine hs (f := dm_ald 155 0) rfl rfl ?_
            refine r_geti n rfl hM rfl rfl ?_
            refine g_if_le (n := 161) (tt := 211) rfl (fun h216 => ?_) (fun h216 => ?_)
            · skip
              have h216 : n.toInt ≤ 0 := h216
              refine hs (f := dm_ald 212 0) rfl rfl ?_
              refine r_geta (c := 93) rfl hM rfl ?_
              refine hs (f := dm_ald 216 0) rfl rfl ?_
              refine r_geti n rfl hM rfl rfl ?_
              refine hs (f := dm_lld 221 6) rfl rfl ?_
              refine r_last (L := 24000) (i := n) (x := f9) b96 rfl hM rfl (by rcases hlen with zz | zz <;> first | omega | (rcases nab2 zz with zn | zn <;> omega)) rfl (fun M217 hM217 => ?_)
              replace hM217 := rm_to (q' := (sB (sB (sF q 34 n) 96 (vp_updL b96 n.toInt.toNat f9)) 97 b97)) hM217 (show sB (sB (sB (sF q 34 n) 96 b96) 97 b97) 96 (vp_updL b96 n.toInt.toNat f9) = (sB (sB (sF q 34 n) 96 (vp_updL b96 n.toInt.toNat f9)) 97 b97) from (show sB (sB (sB (sF q 34 n) 96 b96) 97 b97) 96 (vp_updL b96 n.toInt.toNat f9) = (sB (sB (sF q 34 n) 96 (vp_updL b96 n.toInt.toNat f9)) 97 b97) from Eq.trans (show sB (sB (sB (sF q 34 n) 96 b96) 97 b97) 96 (vp_updL b96 n.toInt.toNat f9) = sB (sB (sB (sF q 34 n) 96 b96) 96 (vp_updL b96 n.toInt.toNat f9)) 97 b97 from sB_cm (by decide)) (congrArg (fun z => sB z 97 b97) (show sB (sB (sF q 34 n) 96 b96) 96 (vp_updL b96 n.toInt.toNat f9) = (sB (sF q 34 n) 96 (vp_updL b96 n.toInt.toNat f9)) from sB_sB))))
              refine hs (f := dm_ald 223 0) rfl rfl ?_
              refine r_geta (c := 94) rfl hM217 rfl ?_
              refine hs (f := dm_ald 227 0) rfl rfl ?_
              refine r_geti n rfl hM217 rfl rfl ?_
              refine hs (f := dm_lld 232 8) rfl rfl ?_
              refine r_last (L := 24000) (i := n) (x := t9) b97 rfl hM217 rfl (by rcases hlen with zz | zz <;> first | omega | (rcases nab2 zz with zn | zn <;> omega)) rfl (fun M218 hM218 => ?_)
              replace hM218 := rm_to (q' := (sB (sB (sF q 34 n) 96 (vp_updL b96 n.toInt.toNat f9)) 97 (vp_updL b97 n.toInt.toNat t9))) hM218 (show sB (sB (sB (sF q 34 n) 96 (vp_updL b96 n.toInt.toNat f9)) 97 b97) 97 (vp_updL b97 n.toInt.toNat t9) = (sB (sB (sF q 34 n) 96 (vp_updL b96 n.toInt.toNat f9)) 97 (vp_updL b97 n.toInt.toNat t9)) from (show sB (sB (sB (sF q 34 n) 96 (vp_updL b96 n.toInt.toNat f9)) 97 b97) 97 (vp_updL b97 n.toInt.toNat t9) = (sB (sB (sF q 34 n) 96 (vp_updL b96 n.toInt.toNat f9)) 97 (vp_updL b97 n.toInt.toNat t9)) from sB_sB))
              refine hs (f := dm_ald 234 0) rfl rfl ?_
              refine hs (f := dm_dup 235) (st' := [.ref 68, .ref 68]) rfl rfl ?_
              refine r_geti n rfl hM218 rfl rfl ?_
              refine hs (f := dm_push 239 (.int 1)) rfl rfl ?_
              have e219 : (n + (1 : Int32)).toInt = n.toInt + 1 := by have w := i_addc (x := n) (y := (1 : Int32)) 1 rfl (by omega) (by omega); omega
              refine hs (f := dm_ii 240 (fun x y => x + y)) (st' := [.int (n + (1 : Int32)), .ref 68]) rfl rfl ?_
              refine r_puti rfl hM218 rfl (fun M220 hM220 => ?_)
              replace hM220 := rm_to (q' := (sB (sB (sF q 34 (n + (1 : Int32))) 96 (vp_updL b96 n.toInt.toNat f9)) 97 (vp_updL b97 n.toInt.toNat t9))) hM220 (show sF (sB (sB (sF q 34 n) 96 (vp_updL b96 n.toInt.toNat f9)) 97 (vp_updL b97 n.toInt.toNat t9)) 34 (n + (1 : Int32)) = (sB (sB (sF q 34 (n + (1 : Int32))) 96 (vp_updL b96 n.toInt.toNat f9)) 97 (vp_updL b97 n.toInt.toNat t9)) from (congrArg (fun z => (sB (sB z 96 (vp_updL b96 n.toInt.toNat f9)) 97 (vp_updL b97 n.toInt.toNat t9))) (show sF (sF q 34 n) 34 (n + (1 : Int32)) = (sF q 34 (n + (1 : Int32))) from sF_sF)))
              refine hs (f := dm_goto 20) rfl rfl ?_
              exact (IH _ hdec).2.2 (n + (1 : Int32)) i2 j2 l9 f9 t9 (vp_updL b96 n.toInt.toNat f9) (vp_updL b97 n.toInt.toNat t9) _ hM220 (by omega) (by omega) (by omega) (fun _ => by omega) (by rw [e219]; exact oS_app hx (Int.toNat_of_nonneg n0.1).symm (fun z => by omega) ft.1 ft.2.1 ft.2.2) (fun z => by rcases nab2 z with ⟨y1, y2, y3⟩ | ⟨y1, y2, y3, y4⟩ <;> first | exact Or.inr ⟨y1, by omega, by omega, by rw [e219, rB_upd (by omega), if_pos (by omega)]; omega⟩ | exact absurd y4 (by omega)) rfl
            · skip
              have h216 : n.toInt > 0 := h216
              refine hs (f := dm_ald 162 0) rfl rfl ?_
              refine r_geta (c := 94) rfl hM rfl ?_
              refine hs (f := dm_ald 166 0) rfl rfl ?_
              refine r_geti n rfl hM rfl rfl ?_
              refine hs (f := dm_push 170 (.int 1)) rfl rfl ?_
              have e221 : (n - (1 : Int32)).toInt = n.toInt - 1 := by have w := i_subc (x := n) (y := (1 : Int32)) 1 rfl (by omega) (by omega); omega
              refine hs (f := dm_ii 171 (fun x y => x - y)) (st' := [.int (n - (1 : Int32)), .ref 97]) rfl rfl ?_
              refine r_lald (L := 24000) (i := (n - (1 : Int32))) (b97 (n - (1 : Int32)).toInt.toNat) rfl hM rfl (by omega) rfl ?_
              generalize g223 : b97 (n - (1 : Int32)).toInt.toNat = v222
              have x224 : v222.toInt = rB b97 (n.toInt - 1) := rB_of (i := (n - (1 : Int32))) g223 e221
              refine hs (f := dm_lld 174 6) rfl rfl ?_
              refine g_lc_lt (x := v222) (y := f9) (m := 175) (n := 178) (tt := 211) rfl rfl (fun h225 => ?_) (fun h225 => ?_)
              · skip
                have h225 : v222.toInt < f9.toInt := h225
                refine hs (f := dm_ald 212 0) rfl rfl ?_
                refine r_geta (c := 93) rfl hM rfl ?_
                refine hs (f := dm_ald 216 0) rfl rfl ?_
                refine r_geti n rfl hM rfl rfl ?_
                refine hs (f := dm_lld 221 6) rfl rfl ?_
                refine r_last (L := 24000) (i := n) (x := f9) b96 rfl hM rfl (by rcases hlen with zz | zz <;> first | omega | (rcases nab2 zz with zn | zn <;> omega)) rfl (fun M226 hM226 => ?_)
                replace hM226 := rm_to (q' := (sB (sB (sF q 34 n) 96 (vp_updL b96 n.toInt.toNat f9)) 97 b97)) hM226 (show sB (sB (sB (sF q 34 n) 96 b96) 97 b97) 96 (vp_updL b96 n.toInt.toNat f9) = (sB (sB (sF q 34 n) 96 (vp_updL b96 n.toInt.toNat f9)) 97 b97) from (show sB (sB (sB (sF q 34 n) 96 b96) 97 b97) 96 (vp_updL b96 n.toInt.toNat f9) = (sB (sB (sF q 34 n) 96 (vp_updL b96 n.toInt.toNat f9)) 97 b97) from Eq.trans (show sB (sB (sB (sF q 34 n) 96 b96) 97 b97) 96 (vp_updL b96 n.toInt.toNat f9) = sB (sB (sB (sF q 34 n) 96 b96) 96 (vp_updL b96 n.toInt.toNat f9)) 97 b97 from sB_cm (by decide)) (congrArg (fun z => sB z 97 b97) (show sB (sB (sF q 34 n) 96 b96) 96 (vp_updL b96 n.toInt.toNat f9) = (sB (sF q 34 n) 96 (vp_updL b96 n.toInt.toNat f9)) from sB_sB))))
                refine hs (f := dm_ald 223 0) rfl rfl ?_
                refine r_geta (c := 94) rfl hM226 rfl ?_
                refine hs (f := dm_ald 227 0) rfl rfl ?_
                refine r_geti n rfl hM226 rfl rfl ?_
                refine hs (f := dm_lld 232 8) rfl rfl ?_
                refine r_last (L := 24000) (i := n) (x := t9) b97 rfl hM226 rfl (by rcases hlen with zz | zz <;> first | omega | (rcases nab2 zz with zn | zn <;> omega)) rfl (fun M227 hM227 => ?_)
                replace hM227 := rm_to (q' := (sB (sB (sF q 34 n) 96 (vp_updL b96 n.toInt.toNat f9)) 97 (vp_updL b97 n.toInt.toNat t9))) hM227 (show sB (sB (sB (sF q 34 n) 96 (vp_updL b96 n.toInt.toNat f9)) 97 b97) 97 (vp_updL b97 n.toInt.toNat t9) = (sB (sB (sF q 34 n) 96 (vp_updL b96 n.toInt.toNat f9)) 97 (vp_updL b97 n.toInt.toNat t9)) from (show sB (sB (sB (sF q 34 n) 96 (vp_updL b96 n.toInt.toNat f9)) 97 b97) 97 (vp_updL b97 n.toInt.toNat t9) = (sB (sB (sF q 34 n) 96 (vp_updL b96 n.toInt.toNat f9)) 97 (vp_updL b97 n.toInt.toNat t9)) from sB_sB))
                refine hs (f := dm_ald 234 0) rfl rfl ?_
                refine hs (f := dm_dup 235) (st' := [.ref 68, .ref 68]) rfl rfl ?_
                refine r_geti n rfl hM227 rfl rfl ?_
                refine hs (f := dm_push 239 (.int 1)) rfl rfl ?_
                have e228 : (n + (1 : Int32)).toInt = n.toInt + 1 := by have w := i_addc (x := n) (y := (1 : Int32)) 1 rfl (by omega) (by omega); omega
                refine hs (f := dm_ii 240 (fun x y => x + y)) (st' := [.int (n + (1 : Int32)), .ref 68]) rfl rfl ?_
                refine r_puti rfl hM227 rfl (fun M229 hM229 => ?_)
                replace hM229 := rm_to (q' := (sB (sB (sF q 34 (n + (1 : Int32))) 96 (vp_updL b96 n.toInt.toNat f9)) 97 (vp_updL b97 n.toInt.toNat t9))) hM229 (show sF (sB (sB (sF q 34 n) 96 (vp_updL b96 n.toInt.toNat f9)) 97 (vp_updL b97 n.toInt.toNat t9)) 34 (n + (1 : Int32)) = (sB (sB (sF q 34 (n + (1 : Int32))) 96 (vp_updL b96 n.toInt.toNat f9)) 97 (vp_updL b97 n.toInt.toNat t9)) from (congrArg (fun z => (sB (sB z 96 (vp_updL b96 n.toInt.toNat f9)) 97 (vp_updL b97 n.toInt.toNat t9))) (show sF (sF q 34 n) 34 (n + (1 : Int32)) = (sF q 34 (n + (1 : Int32))) from sF_sF)))
                refine hs (f := dm_goto 20) rfl rfl ?_
                exact (IH _ hdec).2.2 (n + (1 : Int32)) i2 j2 l9 f9 t9 (vp_updL b96 n.toInt.toNat f9) (vp_updL b97 n.toInt.toNat t9) _ hM229 (by omega) (by omega) (by omega) (fun _ => by omega) (by rw [e228]; exact oS_app hx (Int.toNat_of_nonneg n0.1).symm (fun z => by omega) ft.1 ft.2.1 ft.2.2) (fun z => by rcases nab2 z with ⟨y1, y2, y3⟩ | ⟨y1, y2, y3, y4⟩ <;> first | exact Or.inr ⟨y1, by omega, by omega, by rw [e228, rB_upd (by omega), if_pos (by omega)]; omega⟩ | exact absurd y4 (by omega)) rfl
              · skip
                have h225 : v222.toInt ≥ f9.toInt := h225
                refine hs (f := dm_lld 180 8) rfl rfl ?_
                refine hs (f := dm_ald 181 0) rfl rfl ?_
                refine r_geta (c := 94) rfl hM rfl ?_
                refine hs (f := dm_ald 185 0) rfl rfl ?_
                refine r_geti n rfl hM rfl rfl ?_
                refine hs (f := dm_push 189 (.int 1)) rfl rfl ?_
                have e230 : (n - (1 : Int32)).toInt = n.toInt - 1 := by have w := i_subc (x := n) (y := (1 : Int32)) 1 rfl (by omega) (by omega); omega
                refine hs (f := dm_ii 190 (fun x y => x - y)) (st' := [.int (n - (1 : Int32)), .ref 97, .long t9]) rfl rfl ?_
                refine r_lald (L := 24000) (i := (n - (1 : Int32))) (b97 (n - (1 : Int32)).toInt.toNat) rfl hM rfl (by omega) rfl ?_
                generalize g232 : b97 (n - (1 : Int32)).toInt.toNat = v231
                have x233 : v231.toInt = rB b97 (n.toInt - 1) := rB_of (i := (n - (1 : Int32))) g232 e230
                refine g_lc_le (x := t9) (y := v231) (m := 192) (n := 195) (tt := 243) rfl rfl (fun h234 => ?_) (fun h234 => ?_)
                · skip
                  have h234 : t9.toInt ≤ v231.toInt := h234
                  refine hs (f := dm_goto 20) rfl rfl ?_
                  exact (IH _ hdec).2.2 n i2 j2 l9 f9 t9 b96 b97 _ hM (by omega) (by omega) (by omega) (fun _ => by omega) hx (fun z => by rcases nab2 z with ⟨y1, y2, y3⟩ | ⟨y1, y2, y3, y4⟩ <;> first | exact Or.inr ⟨y1, by omega, by omega, by omega⟩ | exact Or.inl ⟨y1, y2⟩) rfl
                · skip
                  have h234 : t9.toInt > v231.toInt := h234
                  refine hs (f := dm_ald 196 0) rfl rfl ?_
                  refine r_geta (c := 94) rfl hM rfl ?_
                  refine hs (f := dm_ald 200 0) rfl rfl ?_
                  refine r_geti n rfl hM rfl rfl ?_
                  refine hs (f := dm_push 204 (.int 1)) rfl rfl ?_
                  have e235 : (n - (1 : Int32)).toInt = n.toInt - 1 := by have w := i_subc (x := n) (y := (1 : Int32)) 1 rfl (by omega) (by omega); omega
                  refine hs (f := dm_ii 205 (fun x y => x - y)) (st' := [.int (n - (1 : Int32)), .ref 97]) rfl rfl ?_
                  refine hs (f := dm_lld 207 8) rfl rfl ?_
                  refine r_last (L := 24000) (i := (n - (1 : Int32))) (x := t9) b97 rfl hM rfl (by omega) rfl (fun M236 hM236 => ?_)
                  replace hM236 := rm_to (q' := (sB (sB (sF q 34 n) 96 b96) 97 (vp_updL b97 (n - (1 : Int32)).toInt.toNat t9))) hM236 (show sB (sB (sB (sF q 34 n) 96 b96) 97 b97) 97 (vp_updL b97 (n - (1 : Int32)).toInt.toNat t9) = (sB (sB (sF q 34 n) 96 b96) 97 (vp_updL b97 (n - (1 : Int32)).toInt.toNat t9)) from (show sB (sB (sB (sF q 34 n) 96 b96) 97 b97) 97 (vp_updL b97 (n - (1 : Int32)).toInt.toNat t9) = (sB (sB (sF q 34 n) 96 b96) 97 (vp_updL b97 (n - (1 : Int32)).toInt.toNat t9)) from sB_sB))
                  refine hs (f := dm_goto 243) rfl rfl ?_
                  refine hs (f := dm_goto 20) rfl rfl ?_
                  exact (IH _ hdec).2.2 n i2 j2 l9 f9 t9 b96 (vp_updL b97 (n - (1 : Int32)).toInt.toNat t9) _ hM236 (by omega) (by omega) (by omega) (fun _ => by omega) (oS_ext hx (by omega) (show n.toInt - 1 = _ by omega) (by omega) ft.2.2) (fun z => by rcases nab2 z with ⟨y1, y2, y3⟩ | ⟨y1, y2, y3, y4⟩ <;> first | exact Or.inr ⟨y1, by omega, by omega, by rw [rB_upd (by omega), if_pos (by omega)]; omega⟩ | exact Or.inl ⟨y1, y2⟩) rfl
        have j45 : ∀ (M : dm_Mem), Rm X (sB (sB (sF q 34 n) 96 b96) 97 b97) M → (i.toInt < rA (q.2.2.1 74) (a.toInt + 1) ∨ j.toInt < rA (q.2.2.1 74) (b.toInt + 1)) → hG 0 cd_164 45 [(4, .int j), (8, .long t), (6, .long f), (5, .int l), (3, .int i), (0, .ref 68), (1, .int a), (2, .int b)] [] M (fun r M' => r = none ∧ ∃ (n : Int32) (b96 b97 : Nat → Int64), oS b96 b97 n.toInt ∧ 0 ≤ n.toInt ∧ n.toInt ≤ 24000 ∧ (rA (q.2.2.1 74) a.toInt < rA (q.2.2.1 74) (a.toInt + 1) ∨ rA (q.2.2.1 74) b.toInt < rA (q.2.2.1 74) (b.toInt + 1) → 1 ≤ n.toInt) ∧ Rm X (sB (sB (sF q 34 n) 96 b96) 97 b97) M') := by
          intro M hM hij
          refine hs (f := dm_ild 47 4) rfl rfl ?_
          refine hs (f := dm_ald 48 0) rfl rfl ?_
          refine r_geta (c := 71) rfl hM rfl ?_
          refine hs (f := dm_ild 52 2) rfl rfl ?_
          refine hs (f := dm_push 53 (.int 1)) rfl rfl ?_
          have e237 : (b + (1 : Int32)).toInt = b.toInt + 1 := by have w := i_addc (x := b) (y := (1 : Int32)) 1 rfl (by omega) (by omega); omega
          refine hs (f := dm_ii 54 (fun x y => x + y)) (st' := [.int (b + (1 : Int32)), .ref 74, .int j]) rfl rfl ?_
          refine r_iald (L := 1001) (i := (b + (1 : Int32))) ((q.2.2.1 74) (b + (1 : Int32)).toInt.toNat) rfl hM rfl (by omega) rfl ?_
          generalize g239 : (q.2.2.1 74) (b + (1 : Int32)).toInt.toNat = v238
          have x240 : v238.toInt = rA (q.2.2.1 74) (b.toInt + 1) := rA_of (i := (b + (1 : Int32))) g239 e237
          refine g_ic_eq (n := 58) (tt := 87) rfl (fun h241 => ?_) (fun h241 => ?_)
          · skip
            have h241 : j.toInt = v238.toInt := h241
            refine hs (f := dm_push 88 (.int 1)) rfl rfl ?_
            refine hs (f := dm_goto 92) rfl rfl ?_
            refine hs (f := dm_ist 94 5) (lv' := [(5, .int 1), (4, .int j), (8, .long t), (6, .long f), (3, .int i), (0, .ref 68), (1, .int a), (2, .int b)]) rfl rfl ?_
            refine hs (f := dm_ild 96 5) rfl rfl ?_
            refine hs (f := dm_if_eq 99 108) (pc' := 99) rfl rfl ?_
            refine hs (f := dm_ald 100 0) rfl rfl ?_
            refine r_geta (c := 68) rfl hM rfl ?_
            refine hs (f := dm_ild 104 3) rfl rfl ?_
            refine r_lald (L := 24000) (i := i) ((q.2.2.2 71) i.toInt.toNat) rfl hM rfl (by omega) rfl ?_
            generalize g243 : (q.2.2.2 71) i.toInt.toNat = v242
            have x244 : v242.toInt = rB (q.2.2.2 71) i.toInt := rB_of (i := i) g243 rfl
            refine hs (f := dm_goto 115) rfl rfl ?_
            refine hs (f := dm_lst 117 6) (lv' := [(6, .long v242), (5, .int 1), (4, .int j), (8, .long t), (3, .int i), (0, .ref 68), (1, .int a), (2, .int b)]) rfl rfl ?_
            refine hs (f := dm_ild 119 5) rfl rfl ?_
            refine hs (f := dm_if_eq 122 131) (pc' := 122) rfl rfl ?_
            refine hs (f := dm_ald 123 0) rfl rfl ?_
            refine r_geta (c := 69) rfl hM rfl ?_
            refine hs (f := dm_ild 127 3) rfl rfl ?_
            refine r_lald (L := 24000) (i := i) ((q.2.2.2 72) i.toInt.toNat) rfl hM rfl (by omega) rfl ?_
            generalize g246 : (q.2.2.2 72) i.toInt.toNat = v245
            have x247 : v245.toInt = rB (q.2.2.2 72) i.toInt := rB_of (i := i) g246 rfl
            refine hs (f := dm_goto 138) rfl rfl ?_
            refine hs (f := dm_lst 140 8) (lv' := [(8, .long v245), (6, .long v242), (5, .int 1), (4, .int j), (3, .int i), (0, .ref 68), (1, .int a), (2, .int b)]) rfl rfl ?_
            refine hs (f := dm_ild 142 5) rfl rfl ?_
            refine hs (f := dm_if_eq 145 151) (pc' := 145) rfl rfl ?_
            have e248 : (i + 1).toInt = i.toInt + 1 := by have w := i_addc (x := i) (y := 1) 1 rfl (by omega) (by omega); omega
            refine hs (f := dm_iinc 148 3 1) (lv' := [(3, .int (i + 1)), (8, .long v245), (6, .long v242), (5, .int 1), (4, .int j), (0, .ref 68), (1, .int a), (2, .int b)]) rfl rfl ?_
            refine hs (f := dm_goto 154) rfl rfl ?_
            have hz := hoa.1 (i.toInt - rA (q.2.2.1 74) a.toInt) (by omega) (by omega)
            rw [rB_seg (by omega), rB_seg (by omega), show rA (q.2.2.1 74) a.toInt + (i.toInt - rA (q.2.2.1 74) a.toInt) = i.toInt by omega] at hz
            exact j154.1 (i + 1) j (1 : Int32) v242 v245 _ hM (by omega) (by omega) ⟨by omega, by omega, by omega⟩ (by omega) (by omega) (fun z => by
                rcases nab z with ⟨y1, y2⟩ | ⟨y1, y2, y3, y4⟩
                · exact Or.inl ⟨by omega, by omega, by rw [← y1]; omega⟩
                · have y5 : rA (q.2.2.1 74) (a.toInt + 1) = rA (q.2.2.1 74) (b.toInt + 1) := by rw [z]
                  have y6 := hfr z j.toInt
                  rw [← y1] at y6
                  omega)
          · skip
            have h241 : ¬ j.toInt = v238.toInt := h241
            refine hs (f := dm_ild 59 3) rfl rfl ?_
            refine hs (f := dm_ald 60 0) rfl rfl ?_
            refine r_geta (c := 71) rfl hM rfl ?_
            refine hs (f := dm_ild 64 1) rfl rfl ?_
            refine hs (f := dm_push 65 (.int 1)) rfl rfl ?_
            have e249 : (a + (1 : Int32)).toInt = a.toInt + 1 := by have w := i_addc (x := a) (y := (1 : Int32)) 1 rfl (by omega) (by omega); omega
            refine hs (f := dm_ii 66 (fun x y => x + y)) (st' := [.int (a + (1 : Int32)), .ref 74, .int i]) rfl rfl ?_
            refine r_iald (L := 1001) (i := (a + (1 : Int32))) ((q.2.2.1 74) (a + (1 : Int32)).toInt.toNat) rfl hM rfl (by omega) rfl ?_
            generalize g251 : (q.2.2.1 74) (a + (1 : Int32)).toInt.toNat = v250
            have x252 : v250.toInt = rA (q.2.2.1 74) (a.toInt + 1) := rA_of (i := (a + (1 : Int32))) g251 e249
            refine g_ic_ge (n := 70) (tt := 91) rfl (fun h253 => ?_) (fun h253 => ?_)
            · skip
              have h253 : i.toInt ≥ v250.toInt := h253
              refine hs (f := dm_push 92 (.int 0)) rfl rfl ?_
              refine hs (f := dm_ist 94 5) (lv' := [(5, .int 0), (4, .int j), (8, .long t), (6, .long f), (3, .int i), (0, .ref 68), (1, .int a), (2, .int b)]) rfl rfl ?_
              refine hs (f := dm_ild 96 5) rfl rfl ?_
              refine hs (f := dm_if_eq 99 108) (pc' := 108) rfl rfl ?_
              refine hs (f := dm_ald 109 0) rfl rfl ?_
              refine r_geta (c := 68) rfl hM rfl ?_
              refine hs (f := dm_ild 114 4) rfl rfl ?_
              refine r_lald (L := 24000) (i := j) ((q.2.2.2 71) j.toInt.toNat) rfl hM rfl (by omega) rfl ?_
              generalize g255 : (q.2.2.2 71) j.toInt.toNat = v254
              have x256 : v254.toInt = rB (q.2.2.2 71) j.toInt := rB_of (i := j) g255 rfl
              refine hs (f := dm_lst 117 6) (lv' := [(6, .long v254), (5, .int 0), (4, .int j), (8, .long t), (3, .int i), (0, .ref 68), (1, .int a), (2, .int b)]) rfl rfl ?_
              refine hs (f := dm_ild 119 5) rfl rfl ?_
              refine hs (f := dm_if_eq 122 131) (pc' := 131) rfl rfl ?_
              refine hs (f := dm_ald 132 0) rfl rfl ?_
              refine r_geta (c := 69) rfl hM rfl ?_
              refine hs (f := dm_ild 137 4) rfl rfl ?_
              refine r_lald (L := 24000) (i := j) ((q.2.2.2 72) j.toInt.toNat) rfl hM rfl (by omega) rfl ?_
              generalize g258 : (q.2.2.2 72) j.toInt.toNat = v257
              have x259 : v257.toInt = rB (q.2.2.2 72) j.toInt := rB_of (i := j) g258 rfl
              refine hs (f := dm_lst 140 8) (lv' := [(8, .long v257), (6, .long v254), (5, .int 0), (4, .int j), (3, .int i), (0, .ref 68), (1, .int a), (2, .int b)]) rfl rfl ?_
              refine hs (f := dm_ild 142 5) rfl rfl ?_
              refine hs (f := dm_if_eq 145 151) (pc' := 151) rfl rfl ?_
              have e260 : (j + 1).toInt = j.toInt + 1 := by have w := i_addc (x := j) (y := 1) 1 rfl (by omega) (by omega); omega
              refine hs (f := dm_iinc 154 4 1) (lv' := [(4, .int (j + 1)), (8, .long v257), (6, .long v254), (5, .int 0), (3, .int i), (0, .ref 68), (1, .int a), (2, .int b)]) rfl rfl ?_
              have hz := hob.1 (j.toInt - rA (q.2.2.1 74) b.toInt) (by omega) (by omega)
              rw [rB_seg (by omega), rB_seg (by omega), show rA (q.2.2.1 74) b.toInt + (j.toInt - rA (q.2.2.1 74) b.toInt) = j.toInt by omega] at hz
              exact j154.2 i (j + 1) (0 : Int32) v254 v257 _ hM (by omega) (by omega) ⟨by omega, by omega, by omega⟩ (by omega) (by omega) (fun z => by
                  rcases nab z with ⟨y1, y2⟩ | ⟨y1, y2, y3, y4⟩
                  · have y5 : rA (q.2.2.1 74) (a.toInt + 1) = rA (q.2.2.1 74) (b.toInt + 1) := by rw [z]
                    have y7 : rB (q.2.2.2 71) i.toInt = rB (q.2.2.2 71) j.toInt := by rw [y1]
                    omega
                  · exact Or.inr ⟨by omega, by omega, by omega, by omega⟩)
            · skip
              have h253 : i.toInt < v250.toInt := h253
              refine hs (f := dm_ald 71 0) rfl rfl ?_
              refine r_geta (c := 68) rfl hM rfl ?_
              refine hs (f := dm_ild 75 3) rfl rfl ?_
              refine r_lald (L := 24000) (i := i) ((q.2.2.2 71) i.toInt.toNat) rfl hM rfl (by omega) rfl ?_
              generalize g262 : (q.2.2.2 71) i.toInt.toNat = v261
              have x263 : v261.toInt = rB (q.2.2.2 71) i.toInt := rB_of (i := i) g262 rfl
              refine hs (f := dm_ald 77 0) rfl rfl ?_
              refine r_geta (c := 68) rfl hM rfl ?_
              refine hs (f := dm_ild 82 4) rfl rfl ?_
              refine r_lald (L := 24000) (i := j) ((q.2.2.2 71) j.toInt.toNat) rfl hM rfl (by omega) rfl ?_
              generalize g265 : (q.2.2.2 71) j.toInt.toNat = v264
              have x266 : v264.toInt = rB (q.2.2.2 71) j.toInt := rB_of (i := j) g265 rfl
              refine g_lc_gt (x := v261) (y := v264) (m := 84) (n := 87) (tt := 91) rfl rfl (fun h267 => ?_) (fun h267 => ?_)
              · skip
                have h267 : v261.toInt > v264.toInt := h267
                refine hs (f := dm_push 92 (.int 0)) rfl rfl ?_
                refine hs (f := dm_ist 94 5) (lv' := [(5, .int 0), (4, .int j), (8, .long t), (6, .long f), (3, .int i), (0, .ref 68), (1, .int a), (2, .int b)]) rfl rfl ?_
                refine hs (f := dm_ild 96 5) rfl rfl ?_
                refine hs (f := dm_if_eq 99 108) (pc' := 108) rfl rfl ?_
                refine hs (f := dm_ald 109 0) rfl rfl ?_
                refine r_geta (c := 68) rfl hM rfl ?_
                refine hs (f := dm_ild 114 4) rfl rfl ?_
                refine r_lald (L := 24000) (i := j) ((q.2.2.2 71) j.toInt.toNat) rfl hM rfl (by omega) rfl ?_
                generalize g269 : (q.2.2.2 71) j.toInt.toNat = v268
                have x270 : v268.toInt = rB (q.2.2.2 71) j.toInt := rB_of (i := j) g269 rfl
                refine hs (f := dm_lst 117 6) (lv' := [(6, .long v268), (5, .int 0), (4, .int j), (8, .long t), (3, .int i), (0, .ref 68), (1, .int a), (2, .int b)]) rfl rfl ?_
                refine hs (f := dm_ild 119 5) rfl rfl ?_
                refine hs (f := dm_if_eq 122 131) (pc' := 131) rfl rfl ?_
                refine hs (f := dm_ald 132 0) rfl rfl ?_
                refine r_geta (c := 69) rfl hM rfl ?_
                refine hs (f := dm_ild 137 4) rfl rfl ?_
                refine r_lald (L := 24000) (i := j) ((q.2.2.2 72) j.toInt.toNat) rfl hM rfl (by omega) rfl ?_
                generalize g272 : (q.2.2.2 72) j.toInt.toNat = v271
                have x273 : v271.toInt = rB (q.2.2.2 72) j.toInt := rB_of (i := j) g272 rfl
                refine hs (f := dm_lst 140 8) (lv' := [(8, .long v271), (6, .long v268), (5, .int 0), (4, .int j), (3, .int i), (0, .ref 68), (1, .int a), (2, .int b)]) rfl rfl ?_
                refine hs (f := dm_ild 142 5) rfl rfl ?_
                refine hs (f := dm_if_eq 145 151) (pc' := 151) rfl rfl ?_
                have e274 : (j + 1).toInt = j.toInt + 1 := by have w := i_addc (x := j) (y := 1) 1 rfl (by omega) (by omega); omega
                refine hs (f := dm_iinc 154 4 1) (lv' := [(4, .int (j + 1)), (8, .long v271), (6, .long v268), (5, .int 0), (3, .int i), (0, .ref 68), (1, .int a), (2, .int b)]) rfl rfl ?_
                have hz := hob.1 (j.toInt - rA (q.2.2.1 74) b.toInt) (by omega) (by omega)
                rw [rB_seg (by omega), rB_seg (by omega), show rA (q.2.2.1 74) b.toInt + (j.toInt - rA (q.2.2.1 74) b.toInt) = j.toInt by omega] at hz
                exact j154.2 i (j + 1) (0 : Int32) v268 v271 _ hM (by omega) (by omega) ⟨by omega, by omega, by omega⟩ (by omega) (by omega) (fun z => by
                    rcases nab z with ⟨y1, y2⟩ | ⟨y1, y2, y3, y4⟩
                    · have y5 : rA (q.2.2.1 74) (a.toInt + 1) = rA (q.2.2.1 74) (b.toInt + 1) := by rw [z]
                      have y7 : rB (q.2.2.2 71) i.toInt = rB (q.2.2.2 71) j.toInt := by rw [y1]
                      omega
                    · exact Or.inr ⟨by omega, by omega, by omega, by omega⟩)
              · skip
                have h267 : v261.toInt ≤ v264.toInt := h267
                refine hs (f := dm_push 88 (.int 1)) rfl rfl ?_
                refine hs (f := dm_goto 92) rfl rfl ?_
                refine hs (f := dm_ist 94 5) (lv' := [(5, .int 1), (4, .int j), (8, .long t), (6, .long f), (3, .int i), (0, .ref 68), (1, .int a), (2, .int b)]) rfl rfl ?_
                refine hs (f := dm_ild 96 5) rfl rfl ?_
                refine hs (f := dm_if_eq 99 108) (pc' := 99) rfl rfl ?_
                refine hs (f := dm_ald 100 0) rfl rfl ?_
                refine r_geta (c := 68) rfl hM rfl ?_
                refine hs (f := dm_ild 104 3) rfl rfl ?_
                refine r_lald (L := 24000) (i := i) ((q.2.2.2 71) i.toInt.toNat) rfl hM rfl (by omega) rfl ?_
                generalize g276 : (q.2.2.2 71) i.toInt.toNat = v275
                have x277 : v275.toInt = rB (q.2.2.2 71) i.toInt := rB_of (i := i) g276 rfl
                refine hs (f := dm_goto 115) rfl rfl ?_
                refine hs (f := dm_lst 117 6) (lv' := [(6, .long v275), (5, .int 1), (4, .int j), (8, .long t), (3, .int i), (0, .ref 68), (1, .int a), (2, .int b)]) rfl rfl ?_
                refine hs (f := dm_ild 119 5) rfl rfl ?_
                refine hs (f := dm_if_eq 122 131) (pc' := 122) rfl rfl ?_
                refine hs (f := dm_ald 123 0) rfl rfl ?_
                refine r_geta (c := 69) rfl hM rfl ?_
                refine hs (f := dm_ild 127 3) rfl rfl ?_
                refine r_lald (L := 24000) (i := i) ((q.2.2.2 72) i.toInt.toNat) rfl hM rfl (by omega) rfl ?_
                generalize g279 : (q.2.2.2 72) i.toInt.toNat = v278
                have x280 : v278.toInt = rB (q.2.2.2 72) i.toInt := rB_of (i := i) g279 rfl
                refine hs (f := dm_goto 138) rfl rfl ?_
                refine hs (f := dm_lst 140 8) (lv' := [(8, .long v278), (6, .long v275), (5, .int 1), (4, .int j), (3, .int i), (0, .ref 68), (1, .int a), (2, .int b)]) rfl rfl ?_
                refine hs (f := dm_ild 142 5) rfl rfl ?_
                refine hs (f := dm_if_eq 145 151) (pc' := 145) rfl rfl ?_
                have e281 : (i + 1).toInt = i.toInt + 1 := by have w := i_addc (x := i) (y := 1) 1 rfl (by omega) (by omega); omega
                refine hs (f := dm_iinc 148 3 1) (lv' := [(3, .int (i + 1)), (8, .long v278), (6, .long v275), (5, .int 1), (4, .int j), (0, .ref 68), (1, .int a), (2, .int b)]) rfl rfl ?_
                refine hs (f := dm_goto 154) rfl rfl ?_
                have hz := hoa.1 (i.toInt - rA (q.2.2.1 74) a.toInt) (by omega) (by omega)
                rw [rB_seg (by omega), rB_seg (by omega), show rA (q.2.2.1 74) a.toInt + (i.toInt - rA (q.2.2.1 74) a.toInt) = i.toInt by omega] at hz
                exact j154.1 (i + 1) j (1 : Int32) v275 v278 _ hM (by omega) (by omega) ⟨by omega, by omega, by omega⟩ (by omega) (by omega) (fun z => by
                    rcases nab z with ⟨y1, y2⟩ | ⟨y1, y2, y3, y4⟩
                    · exact Or.inl ⟨by omega, by omega, by rw [← y1]; omega⟩
                    · have y5 : rA (q.2.2.1 74) (a.toInt + 1) = rA (q.2.2.1 74) (b.toInt + 1) := by rw [z]
                      have y6 := hfr z j.toInt
                      rw [← y1] at y6
                      omega)
        refine hs (f := dm_ild 21 3) rfl rfl ?_
        refine hs (f := dm_ald 22 0) rfl rfl ?_
        refine r_geta (c := 71) rfl hM rfl ?_
        refine hs (f := dm_ild 26 1) rfl rfl ?_
        refine hs (f := dm_push 27 (.int 1)) rfl rfl ?_
        have e282 : (a + (1 : Int32)).toInt = a.toInt + 1 := by have w := i_addc (x := a) (y := (1 : Int32)) 1 rfl (by omega) (by omega); omega
        refine hs (f := dm_ii 28 (fun x y => x + y)) (st' := [.int (a + (1 : Int32)), .ref 74, .int i]) rfl rfl ?_
        refine r_iald (L := 1001) (i := (a + (1 : Int32))) ((q.2.2.1 74) (a + (1 : Int32)).toInt.toNat) rfl hM rfl (by omega) rfl ?_
        generalize g284 : (q.2.2.1 74) (a + (1 : Int32)).toInt.toNat = v283
        have x285 : v283.toInt = rA (q.2.2.1 74) (a.toInt + 1) := rA_of (i := (a + (1 : Int32))) g284 e282
        refine g_ic_lt (n := 32) (tt := 45) rfl (fun h286 => ?_) (fun h286 => ?_)
        · skip
          have h286 : i.toInt < v283.toInt := h286
          exact j45  _ hM (by omega)
        · skip
          have h286 : i.toInt ≥ v283.toInt := h286
          refine hs (f := dm_ild 34 4) rfl rfl ?_
          refine hs (f := dm_ald 35 0) rfl rfl ?_
          refine r_geta (c := 71) rfl hM rfl ?_
          refine hs (f := dm_ild 39 2) rfl rfl ?_
          refine hs (f := dm_push 40 (.int 1)) rfl rfl ?_
          have e287 : (b + (1 : Int32)).toInt = b.toInt + 1 := by have w := i_addc (x := b) (y := (1 : Int32)) 1 rfl (by omega) (by omega); omega
          refine hs (f := dm_ii 41 (fun x y => x + y)) (st' := [.int (b + (1 : Int32)), .ref 74, .int j]) rfl rfl ?_
          refine r_iald (L := 1001) (i := (b + (1 : Int32))) ((q.2.2.1 74) (b + (1 : Int32)).toInt.toNat) rfl hM rfl (by omega) rfl ?_
          generalize g289 : (q.2.2.1 74) (b + (1 : Int32)).toInt.toNat = v288
          have x290 : v288.toInt = rA (q.2.2.1 74) (b.toInt + 1) := rA_of (i := (b + (1 : Int32))) g289 e287
          refine g_ic_ge (n := 45) (tt := 246) rfl (fun h291 => ?_) (fun h291 => ?_)
          · skip
            have h291 : j.toInt ≥ v288.toInt := h291
            exact hr (f := dm_vret) rfl rfl (⟨rfl, n, b96, b97, hx, n0.1, (by rcases hlen with zz | zz <;> first | omega | (rcases nab zz with zn | zn <;> omega)), fun z => n1 (by omega), hM⟩)
          · skip
            have h291 : j.toInt < v288.toInt := h291
            exact j45  _ hM (by omega)
  refine hx (t := cd_164) rfl (Nat.le_of_ble_eq_true rfl) (lv := [(0, .ref 68), (1, .int a), (2, .int b)]) rfl ?_
  refine hs (f := dm_ald 1 0) rfl rfl ?_
  refine hs (f := dm_push 2 (.int 0)) rfl rfl ?_
  refine r_puti rfl hM rfl (fun M292 hM292 => ?_)
  replace hM292 := rm_to (q' := (sF q 34 (0 : Int32))) hM292 (show sF q 34 (0 : Int32) = (sF q 34 (0 : Int32)) from (show sF q 34 (0 : Int32) = (sF q 34 (0 : Int32)) from rfl))
  refine hs (f := dm_ald 6 0) rfl rfl ?_
  refine r_geta (c := 71) rfl hM292 rfl ?_
  refine hs (f := dm_ild 10 1) rfl rfl ?_
  refine r_iald (L := 1001) (i := a) ((q.2.2.1 74) a.toInt.toNat) rfl hM292 rfl (by omega) rfl ?_
  generalize g294 : (q.2.2.1 74) a.toInt.toNat = v293
  have x295 : v293.toInt = rA (q.2.2.1 74) a.toInt := rA_of (i := a) g294 rfl
  refine hs (f := dm_ist 12 3) (lv' := [(3, .int v293), (0, .ref 68), (1, .int a), (2, .int b)]) rfl rfl ?_
  refine hs (f := dm_ald 13 0) rfl rfl ?_
  refine r_geta (c := 71) rfl hM292 rfl ?_
  refine hs (f := dm_ild 17 2) rfl rfl ?_
  refine r_iald (L := 1001) (i := b) ((q.2.2.1 74) b.toInt.toNat) rfl hM292 rfl (by omega) rfl ?_
  generalize g297 : (q.2.2.1 74) b.toInt.toNat = v296
  have x298 : v296.toInt = rA (q.2.2.1 74) b.toInt := rA_of (i := b) g297 rfl
  refine hs (f := dm_ist 20 4) (lv' := [(4, .int v296), (3, .int v293), (0, .ref 68), (1, .int a), (2, .int b)]) rfl rfl ?_
  replace hM292 := rm_to (q' := (sB (sF q 34 (0 : Int32)) 96 (q.2.2.2 96))) hM292 (Eq.trans (sB_id (q := (sF q 34 (0 : Int32))) (k := 96) (v := (q.2.2.2 96)) rfl) (show sB (sF q 34 (0 : Int32)) 96 (q.2.2.2 96) = (sB (sF q 34 (0 : Int32)) 96 (q.2.2.2 96)) from (show sB (sF q 34 (0 : Int32)) 96 (q.2.2.2 96) = (sB (sF q 34 (0 : Int32)) 96 (q.2.2.2 96)) from rfl)))
  replace hM292 := rm_to (q' := (sB (sB (sF q 34 (0 : Int32)) 96 (q.2.2.2 96)) 97 (q.2.2.2 97))) hM292 (Eq.trans (sB_id (q := (sB (sF q 34 (0 : Int32)) 96 (q.2.2.2 96))) (k := 97) (v := (q.2.2.2 97)) rfl) (show sB (sB (sF q 34 (0 : Int32)) 96 (q.2.2.2 96)) 97 (q.2.2.2 97) = (sB (sB (sF q 34 (0 : Int32)) 96 (q.2.2.2 96)) 97 (q.2.2.2 97)) from (show sB (sB (sF q 34 (0 : Int32)) 96 (q.2.2.2 96)) 97 (q.2.2.2 97) = (sB (sB (sF q 34 (0 : Int32)) 96 (q.2.2.2 96)) 97 (q.2.2.2 97)) from rfl)))
  exact (j20 _).1 (0 : Int32) v293 v296 0 0 0 (q.2.2.2 96) (q.2.2.2 97) _ hM292 (by omega) (by omega) (by show (0 : Int) ≤ 0 ∧ (0 : Int) ≤ _; omega) (by intro z; omega) ⟨fun i i0 i1 => absurd i1 (by show ¬ i < (0 : Int); omega), fun i i0 i1 => absurd i1 (by show ¬ i + 1 < (0 : Int); omega)⟩ (fun z => Or.inl ⟨by rw [x295, x298, z], by show (0 : Int) ≤ _; omega⟩) rfl
