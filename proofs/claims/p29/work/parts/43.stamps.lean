/-! what stands fast of the reference's stamps -/
def nS (on kn : Nat → Int32) : Nat → Int
  | 0 => 0
  | m + 1 => nS on kn m + rA on m + rA kn m
def SB (st fr to : Nat → Int64) (sf pf on kn : Nat → Int32) (many nodes : Int) : Prop :=
  0 ≤ many ∧ many ≤ 1000 ∧ rA sf 0 = 0 ∧ rA pf 0 = 0 ∧
  (∀ s : Int, 0 ≤ s → s < many → rA sf s < rA sf (s + 1) ∧ rA pf s ≤ rA pf (s + 1) ∧ wS (seg st (rA sf s)) (rA sf (s + 1) - rA sf s) ∧ oS (seg fr (rA pf s)) (seg to (rA pf s)) (rA pf (s + 1) - rA pf s) ∧ rA kn s = HN (seg st (rA sf s)) (rA sf (s + 1) - rA sf s) 60 0 ∧ rA on s = SN (seg fr (rA pf s)) (seg to (rA pf s)) (rA pf (s + 1) - rA pf s) 60 0) ∧
  nodes = nS on kn many.toNat ∧ nodes ≤ 41000
theorem nS_congr {on kn on' kn' : Nat → Int32} : ∀ (m : Nat), (∀ i : Int, 0 ≤ i → i < m → rA on i = rA on' i ∧ rA kn i = rA kn' i) → nS on kn m = nS on' kn' m := by
  intro m
  induction m with
  | zero => intro _; rfl
  | succ m ih =>
    intro h
    rw [nS, nS, ih (fun i i0 i1 => h i i0 (by omega)), (h m (by omega) (by omega)).1, (h m (by omega) (by omega)).2]
theorem SB_low {st fr to : Nat → Int64} {sf pf on kn : Nat → Int32} {many nodes : Int} (h : SB st fr to sf pf on kn many nodes) : ∀ (m : Nat), (m : Int) ≤ many → 0 ≤ nS on kn m ∧ 0 ≤ rA sf m ∧ 2 * rA sf m ≤ nS on kn m + m ∧ 0 ≤ rA pf m ∧ 2 * rA pf m ≤ nS on kn m + m := by
  intro m
  induction m with
  | zero =>
    intro _
    have h1 := h.2.2.1
    have h2 := h.2.2.2.1
    show 0 ≤ (0 : Int) ∧ 0 ≤ rA sf 0 ∧ 2 * rA sf 0 ≤ (0 : Int) + 0 ∧ 0 ≤ rA pf 0 ∧ 2 * rA pf 0 ≤ (0 : Int) + 0
    omega
  | succ m ih =>
    intro hm
    have h1 := ih (by omega)
    obtain ⟨g1, g2, g3, g4, g5, g6⟩ := h.2.2.2.2.1 m (by omega) (by omega)
    have h2 := HN_len g3
    have h3 := SN_len g4 (by omega)
    rw [nS]
    rw [show ((m + 1 : Nat) : Int) = (m : Int) + 1 by omega]
    have h4 := HN_pos (seg st (rA sf m)) (rA sf (m + 1) - rA sf m) 60 0
    have h5 := SN_pos (seg fr (rA pf m)) (seg to (rA pf m)) (rA pf (m + 1) - rA pf m) 60 0
    omega
theorem SB_mono {st fr to : Nat → Int64} {sf pf on kn : Nat → Int32} {many nodes : Int} (h : SB st fr to sf pf on kn many nodes) : ∀ (d m : Nat), ((m + d : Nat) : Int) ≤ many → nS on kn m + d + d ≤ nS on kn (m + d) ∧ rA sf m ≤ rA sf ((m + d : Nat) : Int) ∧ rA pf m ≤ rA pf ((m + d : Nat) : Int) := by
  intro d
  induction d with
  | zero => intro m _; exact ⟨by simp, Int.le_refl _, Int.le_refl _⟩
  | succ d ih =>
    intro m hm
    have h1 := ih m (by omega)
    obtain ⟨g1, g2, g3, g4, g5, g6⟩ := h.2.2.2.2.1 ((m + d : Nat) : Int) (by omega) (by omega)
    have h4 := HN_pos (seg st (rA sf ((m + d : Nat) : Int))) (rA sf (((m + d : Nat) : Int) + 1) - rA sf ((m + d : Nat) : Int)) 60 0
    have h5 := SN_pos (seg fr (rA pf ((m + d : Nat) : Int))) (seg to (rA pf ((m + d : Nat) : Int))) (rA pf (((m + d : Nat) : Int) + 1) - rA pf ((m + d : Nat) : Int)) 60 0
    rw [show m + (d + 1) = (m + d) + 1 by omega, nS, show (((m + d) + 1 : Nat) : Int) = ((m + d : Nat) : Int) + 1 by omega]
    omega
/-- all that is known of one stamp -/
theorem SB_at {st fr to : Nat → Int64} {sf pf on kn : Nat → Int32} {many nodes : Int} (h : SB st fr to sf pf on kn many nodes) {s : Int} (s0 : 0 ≤ s) (s1 : s < many) :
    s < 1000 ∧ 0 ≤ rA sf s ∧ rA sf s < rA sf (s + 1) ∧ rA sf (s + 1) ≤ 21000 ∧ 0 ≤ rA pf s ∧ rA pf s ≤ rA pf (s + 1) ∧ rA pf (s + 1) ≤ 21000 ∧ 1 ≤ rA kn s ∧ 1 ≤ rA on s ∧ rA kn s + rA on s ≤ nodes ∧ 2 * (rA sf (s + 1) - rA sf s) - 1 ≤ rA kn s ∧ 2 * (rA pf (s + 1) - rA pf s) - 1 ≤ rA on s ∧ rA sf (s + 1) ≤ rA sf many ∧ rA pf (s + 1) ≤ rA pf many := by
  obtain ⟨g1, g2, g3, g4, g5, g6⟩ := h.2.2.2.2.1 s s0 s1
  have h1 := SB_low h s.toNat (by omega)
  have h2 := SB_low h (s.toNat + 1) (by omega)
  have h3 := SB_mono h (many.toNat - (s.toNat + 1)) (s.toNat + 1) (by have := h.2.1; omega)
  have h4 := h.2.2.2.2.2.1
  have h5 := h.2.2.2.2.2.2
  have h6 := HN_len g3
  have h7 := SN_len g4 (by omega)
  have h8 := h.2.1
  have h9 := HN_pos (seg st (rA sf s)) (rA sf (s + 1) - rA sf s) 60 0
  have h10 := SN_pos (seg fr (rA pf s)) (seg to (rA pf s)) (rA pf (s + 1) - rA pf s) 60 0
  rw [show s.toNat + 1 + (many.toNat - (s.toNat + 1)) = many.toNat by omega] at h3
  rw [show ((s.toNat + 1 : Nat) : Int) = s + 1 by omega] at h2 h3
  rw [show ((s.toNat : Nat) : Int) = s by omega] at h1
  rw [show ((many.toNat : Nat) : Int) = many by omega] at h3
  rw [nS, show ((s.toNat : Nat) : Int) = s by omega] at h2 h3
  omega
theorem SB_top {st fr to : Nat → Int64} {sf pf on kn : Nat → Int32} {many nodes : Int} (h : SB st fr to sf pf on kn many nodes) : 0 ≤ nodes ∧ 0 ≤ rA sf many ∧ 2 * rA sf many ≤ nodes + many ∧ 0 ≤ rA pf many ∧ 2 * rA pf many ≤ nodes + many := by
  have h1 := SB_low h many.toNat (by have := h.1; omega)
  have h2 := h.2.2.2.2.2.1
  have h3 := h.1
  rw [show ((many.toNat : Nat) : Int) = many by omega] at h1
  omega
theorem SB_nil {st fr to : Nat → Int64} {sf pf on kn : Nat → Int32} (h1 : rA sf 0 = 0) (h2 : rA pf 0 = 0) : SB st fr to sf pf on kn 0 0 := ⟨by omega, by omega, h1, h2, fun s s0 s1 => by omega, rfl, by omega⟩
theorem SB_pop {st fr to : Nat → Int64} {sf pf on kn : Nat → Int32} {many nodes : Int} (h : SB st fr to sf pf on kn many nodes) (hm : 0 < many) : SB st fr to sf pf on kn (many - 1) (nodes - (rA on (many - 1) + rA kn (many - 1))) := by
  obtain ⟨h1, h2, h3, h4, h5, h6, h7⟩ := h
  have h8 := SB_at ⟨h1, h2, h3, h4, h5, h6, h7⟩ (s := many - 1) (by omega) (by omega)
  refine ⟨by omega, by omega, h3, h4, fun s s0 s1 => h5 s s0 (by omega), ?_, by omega⟩
  obtain ⟨m, hm2⟩ : ∃ m : Nat, many = m + 1 := ⟨(many - 1).toNat, by omega⟩
  rw [h6, hm2, show ((m : Int) + 1).toNat = m + 1 by omega, nS, show ((m : Int) + 1 - 1) = m by omega, Int.toNat_natCast]
  omega
theorem SB_congr {st fr to st' fr' to' : Nat → Int64} {sf pf on kn sf' pf' on' kn' : Nat → Int32} {many nodes : Int} (h : SB st fr to sf pf on kn many nodes)
    (e1 : ∀ i : Int, 0 ≤ i → i < rA sf many → st i.toNat = st' i.toNat) (e2 : ∀ i : Int, 0 ≤ i → i < rA pf many → fr i.toNat = fr' i.toNat ∧ to i.toNat = to' i.toNat) (e3 : ∀ i : Int, 0 ≤ i → i ≤ many → rA sf i = rA sf' i ∧ rA pf i = rA pf' i) (e4 : ∀ i : Int, 0 ≤ i → i < many → rA on i = rA on' i ∧ rA kn i = rA kn' i) : SB st' fr' to' sf' pf' on' kn' many nodes := by
  have h0 := h
  obtain ⟨h1, h2, h3, h4, h5, h6, h7⟩ := h
  refine ⟨h1, h2, by rw [← (e3 0 (by omega) h1).1]; exact h3, by rw [← (e3 0 (by omega) h1).2]; exact h4, fun s s0 s1 => ?_, ?_, h7⟩
  · obtain ⟨g1, g2, g3, g4, g5, g6⟩ := h5 s s0 s1
    have hb := SB_at h0 s0 s1
    rw [← (e3 s s0 (by omega)).1, ← (e3 s s0 (by omega)).2, ← (e3 (s + 1) (by omega) (by omega)).1, ← (e3 (s + 1) (by omega) (by omega)).2, ← (e4 s s0 s1).1, ← (e4 s s0 s1).2]
    have c1 : ∀ i : Int, 0 ≤ i → i < rA sf (s + 1) - rA sf s → rB (seg st (rA sf s)) i = rB (seg st' (rA sf s)) i := fun i i0 i1 => by
      rw [rB_seg i0, rB_seg i0]
      unfold rB
      rw [e1 _ (by omega) (by omega)]
    have c2 : ∀ i : Int, 0 ≤ i → i < rA pf (s + 1) - rA pf s → rB (seg fr (rA pf s)) i = rB (seg fr' (rA pf s)) i ∧ rB (seg to (rA pf s)) i = rB (seg to' (rA pf s)) i := fun i i0 i1 => by
      rw [rB_seg i0, rB_seg i0, rB_seg i0, rB_seg i0]
      unfold rB
      rw [(e2 _ (by omega) (by omega)).1, (e2 _ (by omega) (by omega)).2]
      exact ⟨rfl, rfl⟩
    refine ⟨g1, g2, wS_congr c1 g3, oS_congr c2 g4, ?_, ?_⟩
    · rw [g5, HN_congr c1]
    · rw [g6, SN_congr c2]
  · rw [h6]
    exact nS_congr _ (fun i i0 i1 => e4 i i0 (by omega))
theorem SB_make {st fr to : Nat → Int64} {sf pf on kn : Nat → Int32} {many nodes : Int} (h : SB st fr to sf pf on kn many nodes) {b69 b71 b72 w a b : Nat → Int64} {c73 c74 c81 c82 : Nat → Int32} {N O : Int}
    (k1 : cpy b69 w st (rA sf many) N) (k2 : cpy b71 a fr (rA pf many) O) (k3 : cpy b72 b to (rA pf many) O) (hw : wS w N) (ho : oS a b O) (hO : 0 ≤ O)
    (p1 : rA c73 (many + 1) = rA sf many + N ∧ ∀ m : Int, 0 ≤ m → m ≠ many + 1 → rA c73 m = rA sf m) (p2 : rA c74 (many + 1) = rA pf many + O ∧ ∀ m : Int, 0 ≤ m → m ≠ many + 1 → rA c74 m = rA pf m)
    (p3 : rA c81 many = SN a b O 60 0 ∧ ∀ m : Int, 0 ≤ m → m ≠ many → rA c81 m = rA on m) (p4 : rA c82 many = HN w N 60 0 ∧ ∀ m : Int, 0 ≤ m → m ≠ many → rA c82 m = rA kn m)
    (hm : many < 1000) (hn : nodes + SN a b O 60 0 + HN w N 60 0 ≤ 41000) : SB b69 b71 b72 c73 c74 c81 c82 (many + 1) (nodes + SN a b O 60 0 + HN w N 60 0) := by
  have h0 := h
  have ht := SB_top h
  obtain ⟨h1, h2, h3, h4, h5, h6, h7⟩ := h
  refine ⟨by omega, by omega, by rw [p1.2 0 (by omega) (by omega)]; exact h3, by rw [p2.2 0 (by omega) (by omega)]; exact h4, fun s s0 s1 => ?_, ?_, hn⟩
  · by_cases e : s = many
    · subst e
      rw [p1.1, p2.1, p3.1, p4.1, p1.2 s s0 (by omega), p2.2 s s0 (by omega)]
      have c1 : ∀ i : Int, 0 ≤ i → i < N → rB w i = rB (seg b69 (rA sf s)) i := fun i i0 i1 => by
        rw [rB_seg i0]
        unfold rB
        rw [k1.1 i i0 i1]
      have c2 : ∀ i : Int, 0 ≤ i → i < O → rB a i = rB (seg b71 (rA pf s)) i ∧ rB b i = rB (seg b72 (rA pf s)) i := fun i i0 i1 => by
        rw [rB_seg i0, rB_seg i0]
        unfold rB
        rw [k2.1 i i0 i1, k3.1 i i0 i1]
        exact ⟨rfl, rfl⟩
      rw [show rA sf s + N - rA sf s = N by omega, show rA pf s + O - rA pf s = O by omega]
      have := hw.1
      exact ⟨by omega, by omega, wS_congr c1 hw, oS_congr c2 ho, by rw [HN_congr c1], by rw [SN_congr c2]⟩
    · obtain ⟨g1, g2, g3, g4, g5, g6⟩ := h5 s s0 (by omega)
      have hb := SB_at h0 s0 (show s < many by omega)
      rw [p1.2 s s0 (by omega), p2.2 s s0 (by omega), p1.2 (s + 1) (by omega) (by omega), p2.2 (s + 1) (by omega) (by omega), p3.2 s s0 e, p4.2 s s0 e]
      have c1 : ∀ i : Int, 0 ≤ i → i < rA sf (s + 1) - rA sf s → rB (seg st (rA sf s)) i = rB (seg b69 (rA sf s)) i := fun i i0 i1 => by
        rw [rB_seg i0, rB_seg i0]
        unfold rB
        rw [k1.2 _ (by omega) (by omega)]
      have c2 : ∀ i : Int, 0 ≤ i → i < rA pf (s + 1) - rA pf s → rB (seg fr (rA pf s)) i = rB (seg b71 (rA pf s)) i ∧ rB (seg to (rA pf s)) i = rB (seg b72 (rA pf s)) i := fun i i0 i1 => by
        rw [rB_seg i0, rB_seg i0, rB_seg i0, rB_seg i0]
        unfold rB
        rw [k2.2 _ (by omega) (by omega), k3.2 _ (by omega) (by omega)]
        exact ⟨rfl, rfl⟩
      exact ⟨g1, g2, wS_congr c1 g3, oS_congr c2 g4, by rw [g5, HN_congr c1], by rw [g6, SN_congr c2]⟩
  · rw [show (many + 1).toNat = many.toNat + 1 by omega, nS, show ((many.toNat : Nat) : Int) = many by omega, p3.1, p4.1, h6]
    rw [nS_congr (on := on) (kn := kn) (on' := c81) (kn' := c82) many.toNat (fun i i0 i1 => ⟨(p3.2 i i0 (by omega)).symm, (p4.2 i i0 (by omega)).symm⟩)]
