/-! stamps written to bits -/
def nb : Nat → Int32 → Int32 → Nat
  | 0, _, b => 1 + b.toInt.toNat
  | d + 1, v, b => if ((1 : Int32) <<< (b &&& 31)).toInt ≤ v.toInt then 1 + nb d (v - ((1 : Int32) <<< (b &&& 31))) (b + 1) else 1 + b.toInt.toNat
def nbN (v : Int32) : Nat := nb 31 v 2
theorem nb_go {d : Nat} {v b : Int32} (h : ((1 : Int32) <<< (b &&& 31)).toInt ≤ v.toInt) : nb (d + 1) v b = 1 + nb d (v - ((1 : Int32) <<< (b &&& 31))) (b + 1) := by rw [nb, if_pos h]
theorem nb_end {d : Nat} {v b : Int32} (h : v.toInt < ((1 : Int32) <<< (b &&& 31)).toInt) : nb d v b = 1 + b.toInt.toNat := by
  cases d with
  | zero => rfl
  | succ d => rw [nb, if_neg (by omega)]
theorem nb_le : ∀ (d : Nat) (v b : Int32), 0 ≤ b.toInt → b.toInt + d ≤ 1000 → nb d v b ≤ d + 1 + b.toInt.toNat + d := by
  intro d
  induction d with
  | zero => intro v b h0 h1; rw [nb]; omega
  | succ d ih =>
    intro v b h0 h1
    rw [nb]
    split
    · have e : (b + 1).toInt = b.toInt + 1 := i_addc 1 rfl (by omega) (by omega)
      have := ih (v - ((1 : Int32) <<< (b &&& 31))) (b + 1) (by omega) (by omega)
      omega
    · omega
theorem nbN_le (v : Int32) : nbN v ≤ 65 := by
  have := nb_le 31 v 2 (by decide) (by decide)
  unfold nbN
  have e : (2 : Int32).toInt.toNat = 2 := rfl
  omega
theorem sh_tab : ∀ n : Nat, n < 31 → ((1 : Int32) <<< (Int32.ofNat n &&& 31)).toInt = 2 ^ n := by decide +kernel
theorem sh_pow {b : Int32} (h0 : 0 ≤ b.toInt) (h1 : b.toInt ≤ 30) : ((1 : Int32) <<< (b &&& 31)).toInt = 2 ^ b.toInt.toNat := by
  have e : b = Int32.ofNat b.toInt.toNat := i_of_toInt (by omega) (by omega)
  have h2 := sh_tab b.toInt.toNat (by omega)
  rw [← e] at h2
  exact h2
theorem sh_31 {b : Int32} (h : b.toInt = 31) : ((1 : Int32) <<< (b &&& 31)).toInt = -2147483648 := by
  have e : b = 31 := Int32.toInt_inj.mp h
  subst e
  decide +kernel
theorem sh_32 {b : Int32} (h : b.toInt = 32) : ((1 : Int32) <<< (b &&& 31)).toInt = 1 := by
  have e : b = 32 := Int32.toInt_inj.mp h
  subst e
  decide +kernel
def nv (b v : Int32) : Prop := 2 ≤ b.toInt ∧ b.toInt ≤ 32 ∧ (b.toInt = 2 ∨ b.toInt = 32 ∨ 0 ≤ v.toInt) ∧ (b.toInt ≤ 31 → v.toInt + 2 ^ b.toInt.toNat ≤ 2147483651) ∧ (b.toInt = 32 → v.toInt ≤ 0)
theorem nv_0 (v : Int32) : nv 2 v := by
  have := i_rng v
  refine ⟨by decide, by decide, Or.inl rfl, fun _ => ?_, fun z => absurd z (by decide)⟩
  show v.toInt + 2 ^ 2 ≤ 2147483651
  omega
theorem i_wrap {x : Int32} (h0 : 0 ≤ x.toInt) (h1 : x.toInt ≤ 3) : (x - (-2147483648 : Int32)).toInt ≤ 0 := by
  have hx : x.toInt = 0 ∨ x.toInt = 1 ∨ x.toInt = 2 ∨ x.toInt = 3 := by omega
  rcases hx with z | z | z | z
  · have e : x = 0 := Int32.toInt_inj.mp z
    subst e; decide
  · have e : x = 1 := Int32.toInt_inj.mp z
    subst e; decide
  · have e : x = 2 := Int32.toInt_inj.mp z
    subst e; decide
  · have e : x = 3 := Int32.toInt_inj.mp z
    subst e; decide
theorem nv_step {b v : Int32} (h : nv b v) (hc : ((1 : Int32) <<< (b &&& 31)).toInt ≤ v.toInt) : b.toInt ≤ 31 ∧ nv (b + 1) (v - ((1 : Int32) <<< (b &&& 31))) ∧ (b + 1).toInt = b.toInt + 1 := by
  obtain ⟨h0, h1, h2, h3, h4⟩ := h
  have hv := i_rng v
  have e : (b + 1).toInt = b.toInt + 1 := i_addc 1 rfl (by omega) (by omega)
  by_cases c1 : b.toInt = 32
  · have := sh_32 c1
    have := h4 c1
    omega
  by_cases c2 : b.toInt = 31
  · have s1 := sh_31 c2
    have e2 : (1 : Int32) <<< (b &&& 31) = -2147483648 := Int32.toInt_inj.mp s1
    have h5 := h3 (by omega)
    rw [c2] at h5
    have h6 : v.toInt ≤ 3 := by
      have : (2 : Int) ^ (31 : Int).toNat = 2147483648 := by decide
      omega
    have h7 := i_wrap (x := v) (by omega) h6
    exact ⟨by omega, ⟨by omega, by omega, Or.inr (Or.inl (by omega)), fun z => by omega, fun _ => by rw [e2]; exact h7⟩, e⟩
  · have s1 := sh_pow (b := b) (by omega) (by omega)
    have h5 := h3 (by omega)
    have p1 := p2_pos b.toInt.toNat
    have e3 : (v - ((1 : Int32) <<< (b &&& 31))).toInt = v.toInt - 2 ^ b.toInt.toNat := by
      have w := i_sub (x := v) (y := (1 : Int32) <<< (b &&& 31)) (by omega) (by omega)
      omega
    refine ⟨by omega, ⟨by omega, by omega, Or.inr (Or.inr (by omega)), fun _ => ?_, fun z => by omega⟩, e⟩
    rw [e, show (b.toInt + 1).toNat = b.toInt.toNat + 1 by omega, p2_succ]
    omega
def wsN (a b : Nat → Int64) (n : Int) : Nat → Int → Nat
  | 0, _ => 3
  | d + 1, f => if Part a b n f (2 ^ (d + 1)) < 2 then 3 else 2 + (if 0 < Part a b n f (2 ^ d) then wsN a b n d f else 0) + (if 0 < Part a b n (f + 2 ^ d) (2 ^ d) then wsN a b n d (f + 2 ^ d) else 0)
def ws1 (a b : Nat → Int64) (n : Int) (d : Nat) (f : Int) : Nat := if 0 < Part a b n f (2 ^ d) then wsN a b n d f else 0
theorem ws1_y {a b : Nat → Int64} {n : Int} {d : Nat} {f : Int} (h : 0 < Part a b n f (2 ^ d)) : ws1 a b n d f = wsN a b n d f := if_pos h
theorem ws1_n {a b : Nat → Int64} {n : Int} {d : Nat} {f : Int} (h : ¬ 0 < Part a b n f (2 ^ d)) : ws1 a b n d f = 0 := if_neg h
theorem wsN_lt {a b : Nat → Int64} {n : Int} {d : Nat} {f : Int} (h : Part a b n f (2 ^ d) < 2) : wsN a b n d f = 3 := by
  cases d with
  | zero => rfl
  | succ d => rw [wsN, if_pos h]
theorem wsN_not {a b : Nat → Int64} {n : Int} {d : Nat} {f : Int} (h : ¬ Part a b n f (2 ^ (d + 1)) < 2) : wsN a b n (d + 1) f = 2 + ws1 a b n d f + ws1 a b n d (f + 2 ^ d) := by
  rw [wsN, if_neg h]
  rfl
theorem wsN_le (a b : Nat → Int64) (n : Int) : ∀ (d : Nat) (f : Int), wsN a b n d f ≤ 3 * SN a b n d f := by
  intro d
  induction d with
  | zero => intro f; have := SN_pos a b n 0 f; rw [wsN]; omega
  | succ d ih =>
    intro f
    by_cases h : Part a b n f (2 ^ (d + 1)) < 2
    · have := SN_pos a b n (d + 1) f
      rw [wsN_lt h]; omega
    · rw [wsN_not h, SN_not h]
      have h1 := ih f
      have h2 := ih (f + 2 ^ d)
      have h3 : ws1 a b n d f ≤ wsN a b n d f := by unfold ws1; split <;> omega
      have h4 : ws1 a b n d (f + 2 ^ d) ≤ wsN a b n d (f + 2 ^ d) := by unfold ws1; split <;> omega
      omega
def nl (w : Nat → Int64) (g : Nat → Int32) (n : Int) (d : Nat) (f : Int) (c : Int32) : Prop := flat w n f (2 ^ d) ∧ rA g (aF w n f) = c.toInt
def pnN (m : Int32) : Nat := if 0 < m.toInt then nbN m else 0
theorem pn_y {m : Int32} (h : 0 < m.toInt) : pnN m = nbN m := if_pos h
theorem pn_n {m : Int32} (h : ¬ 0 < m.toInt) : pnN m = 0 := if_neg h
theorem pn_le (m : Int32) : pnN m ≤ 65 := by
  have := nbN_le m
  unfold pnN
  split <;> omega
noncomputable def whN (w : Nat → Int64) (g : Nat → Int32) (n : Int) : Nat → Int → Int32 → Nat
  | 0, f, b => 1 + nbN (leastF w g n f (2 ^ 0) - b)
  | d + 1, f, b => @ite Nat (flat w n f (2 ^ (d + 1))) (Classical.propDecidable _) (1 + nbN (leastF w g n f (2 ^ (d + 1)) - b)) (4 + pnN (leastF w g n f (2 ^ (d + 1)) - b) + (@ite Nat (nl w g n d f (b + (leastF w g n f (2 ^ (d + 1)) - b))) (Classical.propDecidable _) 0 (whN w g n d f (b + (leastF w g n f (2 ^ (d + 1)) - b)))) + (@ite Nat (nl w g n d (f + 2 ^ d) (b + (leastF w g n f (2 ^ (d + 1)) - b))) (Classical.propDecidable _) 0 (whN w g n d (f + 2 ^ d) (b + (leastF w g n f (2 ^ (d + 1)) - b)))))
noncomputable def wh1 (w : Nat → Int64) (g : Nat → Int32) (n : Int) (d : Nat) (f : Int) (c : Int32) : Nat := @ite Nat (nl w g n d f c) (Classical.propDecidable _) 0 (whN w g n d f c)
theorem wh1_y {w : Nat → Int64} {g : Nat → Int32} {n : Int} {d : Nat} {f : Int} {c : Int32} (h : nl w g n d f c) : wh1 w g n d f c = 0 := by
  unfold wh1
  rw [if_pos h]
theorem wh1_n {w : Nat → Int64} {g : Nat → Int32} {n : Int} {d : Nat} {f : Int} {c : Int32} (h : ¬ nl w g n d f c) : wh1 w g n d f c = whN w g n d f c := by
  unfold wh1
  rw [if_neg h]
theorem whN_flat {w : Nat → Int64} {g : Nat → Int32} {n : Int} {d : Nat} {f : Int} {b : Int32} (h : flat w n f (2 ^ d)) : whN w g n d f b = 1 + nbN (leastF w g n f (2 ^ d) - b) := by
  cases d with
  | zero => rw [whN]
  | succ d => rw [whN, if_pos h]
theorem whN_not {w : Nat → Int64} {g : Nat → Int32} {n : Int} {d : Nat} {f : Int} {b m : Int32} (h : ¬ flat w n f (2 ^ (d + 1))) (hm : leastF w g n f (2 ^ (d + 1)) - b = m) : whN w g n (d + 1) f b = 4 + pnN m + wh1 w g n d f (b + m) + wh1 w g n d (f + 2 ^ d) (b + m) := by
  rw [whN, if_neg h, hm]
  rfl
theorem whN_le (w : Nat → Int64) (g : Nat → Int32) (n : Int) : ∀ (d : Nat) (f : Int) (b : Int32), whN w g n d f b ≤ 70 * HN w n d f := by
  intro d
  induction d with
  | zero => intro f b; have := HN_pos w n 0 f; have := nbN_le (leastF w g n f (2 ^ 0) - b); rw [whN]; omega
  | succ d ih =>
    intro f b
    by_cases h : flat w n f (2 ^ (d + 1))
    · have := nbN_le (leastF w g n f (2 ^ (d + 1)) - b)
      rw [whN_flat h, HN_flat h]; omega
    · rw [whN_not h rfl, HN_not h]
      have p := pn_le (leastF w g n f (2 ^ (d + 1)) - b)
      generalize b + (leastF w g n f (2 ^ (d + 1)) - b) = c
      have h1 := ih f c
      have h2 := ih (f + 2 ^ d) c
      have h3 : wh1 w g n d f c ≤ whN w g n d f c := by unfold wh1; split <;> omega
      have h4 : wh1 w g n d (f + 2 ^ d) c ≤ whN w g n d (f + 2 ^ d) c := by unfold wh1; split <;> omega
      omega
theorem r_188 {X : dm_Mem} {q : rS} {M : dm_Mem} {t : Int32} {a : Nat → Int32} (hM : Rm X (sA (sF q 65 t) 98 a) M) (x : Int32) (hb : 0 ≤ t.toInt ∧ t.toInt ≤ 1000000000) (hw : (q.1 64).toInt = 0 ∨ t.toInt < 600) : hT 1 188 [.ref 68, .int x] M (fun r M' => r = none ∧ ∃ (t2 : Int32) (a2 : Nat → Int32), t2.toInt = t.toInt + 1 ∧ Rm X (sA (sF q 65 t2) 98 a2) M') := by
  refine hx (t := cd_188) rfl (Nat.le_of_ble_eq_true rfl) (lv := [(0, .ref 68), (1, .int x)]) rfl ?_
  refine hs (f := dm_ald 1 0) rfl rfl ?_
  refine r_getb (q.1 64) rfl hM rfl rfl ?_
  refine g_if_eq (n := 7) (tt := 17) rfl (fun h1 => ?_) (fun h1 => ?_)
  · skip
    have h1 : (q.1 64).toInt = 0 := h1
    refine hs (f := dm_ald 18 0) rfl rfl ?_
    refine hs (f := dm_dup 19) (st' := [.ref 68, .ref 68]) rfl rfl ?_
    refine r_geti t rfl hM rfl rfl ?_
    refine hs (f := dm_push 23 (.int 1)) rfl rfl ?_
    have e2 : (t + (1 : Int32)).toInt = t.toInt + 1 := by have w := i_addc (x := t) (y := (1 : Int32)) 1 rfl (by omega) (by omega); omega
    refine hs (f := dm_ii 24 (fun x y => x + y)) (st' := [.int (t + (1 : Int32)), .ref 68]) rfl rfl ?_
    refine r_puti rfl hM rfl (fun M3 hM3 => ?_)
    replace hM3 := rm_to (q' := (sA (sF q 65 (t + (1 : Int32))) 98 a)) hM3 (show sF (sA (sF q 65 t) 98 a) 65 (t + (1 : Int32)) = (sA (sF q 65 (t + (1 : Int32))) 98 a) from (congrArg (fun z => (sA z 98 a)) (show sF (sF q 65 t) 65 (t + (1 : Int32)) = (sF q 65 (t + (1 : Int32))) from sF_sF)))
    exact hr (f := dm_vret) rfl rfl (⟨rfl, _, _, e2, hM3⟩)
  · skip
    have h1 : ¬ (q.1 64).toInt = 0 := h1
    refine hs (f := dm_ald 8 0) rfl rfl ?_
    refine r_geta (c := 95) rfl hM rfl ?_
    refine hs (f := dm_ald 12 0) rfl rfl ?_
    refine r_geti t rfl hM rfl rfl ?_
    refine hs (f := dm_ild 16 1) rfl rfl ?_
    refine r_zast (L := 600) (i := t) (x := x) a rfl hM rfl (by omega) rfl (fun M4 hM4 => ?_)
    replace hM4 := rm_to (q' := (sA (sF q 65 t) 98 (upd a t.toInt.toNat (vp_nar .boolean x)))) hM4 (show sA (sA (sF q 65 t) 98 a) 98 (upd a t.toInt.toNat (vp_nar .boolean x)) = (sA (sF q 65 t) 98 (upd a t.toInt.toNat (vp_nar .boolean x))) from (show sA (sA (sF q 65 t) 98 a) 98 (upd a t.toInt.toNat (vp_nar .boolean x)) = (sA (sF q 65 t) 98 (upd a t.toInt.toNat (vp_nar .boolean x))) from sA_sA))
    refine hs (f := dm_ald 18 0) rfl rfl ?_
    refine hs (f := dm_dup 19) (st' := [.ref 68, .ref 68]) rfl rfl ?_
    refine r_geti t rfl hM4 rfl rfl ?_
    refine hs (f := dm_push 23 (.int 1)) rfl rfl ?_
    have e5 : (t + (1 : Int32)).toInt = t.toInt + 1 := by have w := i_addc (x := t) (y := (1 : Int32)) 1 rfl (by omega) (by omega); omega
    refine hs (f := dm_ii 24 (fun x y => x + y)) (st' := [.int (t + (1 : Int32)), .ref 68]) rfl rfl ?_
    refine r_puti rfl hM4 rfl (fun M6 hM6 => ?_)
    replace hM6 := rm_to (q' := (sA (sF q 65 (t + (1 : Int32))) 98 (upd a t.toInt.toNat (vp_nar .boolean x)))) hM6 (show sF (sA (sF q 65 t) 98 (upd a t.toInt.toNat (vp_nar .boolean x))) 65 (t + (1 : Int32)) = (sA (sF q 65 (t + (1 : Int32))) 98 (upd a t.toInt.toNat (vp_nar .boolean x))) from (congrArg (fun z => (sA z 98 (upd a t.toInt.toNat (vp_nar .boolean x)))) (show sF (sF q 65 t) 65 (t + (1 : Int32)) = (sF q 65 (t + (1 : Int32))) from sF_sF)))
    exact hr (f := dm_vret) rfl rfl (⟨rfl, _, _, e5, hM6⟩)
set_option maxHeartbeats 4000000 in
theorem r_189 {X : dm_Mem} {q : rS} {M : dm_Mem} {t : Int32} {a : Nat → Int32} (hM : Rm X (sA (sF q 65 t) 98 a) M) (v0 : Int32) (t0 : 0 ≤ t.toInt) (hb : t.toInt + (nbN v0 : Nat) ≤ 1000000000) (hw : (q.1 64).toInt = 0 ∨ t.toInt + (nbN v0 : Nat) ≤ 600) : hT 2 189 [.ref 68, .int v0] M (fun r M' => r = none ∧ ∃ (t2 : Int32) (a2 : Nat → Int32), t2.toInt = t.toInt + (nbN v0 : Nat) ∧ Rm X (sA (sF q 65 t2) 98 a2) M') := by
  have j4 : ∀ (nn : Nat), (∀ (v b t1 : Int32) (a1 : Nat → Int32) (M : dm_Mem), Rm X (sA (sF q 65 t1) 98 a1) M → (nv b v) → (t1.toInt + (nb (33 - b.toInt).toNat v b : Nat) = t.toInt + (nbN v0 : Nat)) → (0 ≤ t1.toInt) → (33 - b.toInt).toNat = nn → hG 1 cd_189 4 [(3, .int v), (2, .int b), (0, .ref 68), (1, .int v0)] [] M (fun r M' => r = none ∧ ∃ (t2 : Int32) (a2 : Nat → Int32), t2.toInt = t.toInt + (nbN v0 : Nat) ∧ Rm X (sA (sF q 65 t2) 98 a2) M')) ∧ (∀ (v b t1 : Int32) (a1 : Nat → Int32) (M : dm_Mem), Rm X (sA (sF q 65 t1) 98 a1) M → (nv b v) → (t1.toInt + (nb (33 - b.toInt).toNat v b : Nat) = t.toInt + (nbN v0 : Nat)) → (0 ≤ t1.toInt) → (33 - b.toInt).toNat = nn → hG 1 cd_189 4 [(2, .int b), (3, .int v), (0, .ref 68), (1, .int v0)] [] M (fun r M' => r = none ∧ ∃ (t2 : Int32) (a2 : Nat → Int32), t2.toInt = t.toInt + (nbN v0 : Nat) ∧ Rm X (sA (sF q 65 t2) 98 a2) M')) := by
    intro nn
    induction nn using Nat.strongRecOn with
    | ind nn IH =>
      refine ⟨?_, ?_⟩
      · skip
        intro v b t1 a1 M hM hv ht t10 hms
        refine hs (f := dm_ild 5 3) rfl rfl ?_
        refine hs (f := dm_push 6 (.int 1)) rfl rfl ?_
        refine hs (f := dm_ild 7 2) rfl rfl ?_
        refine hs (f := dm_ii 8 (fun x y => x <<< (y &&& 31))) (st' := [.int ((1 : Int32) <<< (b &&& 31)), .int v]) rfl rfl ?_
        refine g_ic_lt (n := 11) (tt := 28) rfl (fun h1 => ?_) (fun h1 => ?_)
        · skip
          have h1 : v.toInt < ((1 : Int32) <<< (b &&& 31)).toInt := h1
          rw [nb_end (by omega)] at ht
          have hv2 := hv.1
          have hv3 := hv.2.1
          have j38 : ∀ (nn : Nat), ∀ (k t3 : Int32) (a3 : Nat → Int32) (M : dm_Mem), Rm X (sA (sF q 65 t3) 98 a3) M → (-1 ≤ k.toInt ∧ k.toInt ≤ 31) → (t3.toInt + k.toInt + 1 = t.toInt + (nbN v0 : Nat)) → (0 ≤ t3.toInt) → (k.toInt + 1).toNat = nn → hG 1 cd_189 38 [(4, .int k), (3, .int v), (2, .int b), (0, .ref 68), (1, .int v0)] [] M (fun r M' => r = none ∧ ∃ (t2 : Int32) (a2 : Nat → Int32), t2.toInt = t.toInt + (nbN v0 : Nat) ∧ Rm X (sA (sF q 65 t2) 98 a2) M') := by
            intro nn
            induction nn using Nat.strongRecOn with
            | ind nn IH =>
              intro k t3 a3 M hM k0 h3 t30 hms
              refine hs (f := dm_ild 40 4) rfl rfl ?_
              refine g_if_lt (n := 43) (tt := 68) rfl (fun h2 => ?_) (fun h2 => ?_)
              · skip
                have h2 : k.toInt < 0 := h2
                exact hr (f := dm_vret) rfl rfl (⟨rfl, t3, a3, by omega, hM⟩)
              · skip
                have h2 : k.toInt ≥ 0 := h2
                refine hs (f := dm_ald 44 0) rfl rfl ?_
                refine hs (f := dm_ild 45 3) rfl rfl ?_
                refine hs (f := dm_ild 47 4) rfl rfl ?_
                refine hs (f := dm_ii 48 (fun x y => x >>> (y &&& 31))) (st' := [.int (v >>> (k &&& 31)), .ref 68]) rfl rfl ?_
                refine hs (f := dm_push 49 (.int 1)) rfl rfl ?_
                refine hs (f := dm_ii 50 (fun x y => x &&& y)) (st' := [.int ((v >>> (k &&& 31)) &&& (1 : Int32)), .ref 68]) rfl rfl ?_
                refine hs (f := dm_push 51 (.int 1)) rfl rfl ?_
                refine g_ic_ne (n := 54) (tt := 58) rfl (fun h3 => ?_) (fun h3 => ?_)
                · skip
                  clear h3
                  refine hs (f := dm_push 59 (.int 0)) rfl rfl ?_
                  refine r_inv rfl hM rfl (as := [.ref 68, .int 0]) rfl (Nat.le_of_ble_eq_true rfl) (hT_mono (by first | decide | omega) (r_188 (t := t3) (a := a3) hM (0 : Int32) (by omega) (by omega)) (fun r1 M4 w => ?_))
                  obtain ⟨rfl, tu5, au5, eu5, hM4⟩ := w
                  have e6 : (k + (-1)).toInt = k.toInt + (-1) := by have w := i_addc (x := k) (y := (-1)) (-1) rfl (by omega) (by omega); omega
                  refine hs (f := dm_iinc 65 4 (-1)) (lv' := [(4, .int (k + (-1))), (3, .int v), (2, .int b), (0, .ref 68), (1, .int v0)]) rfl rfl ?_
                  generalize g8 : k + (-1) = y7 at e6 ⊢
                  refine hs (f := dm_goto 38) rfl rfl ?_
                  exact (IH _ (by omega)) y7 tu5 au5 _ hM4 (by omega) (by omega) (by omega) rfl
                · skip
                  clear h3
                  refine hs (f := dm_push 55 (.int 1)) rfl rfl ?_
                  refine hs (f := dm_goto 59) rfl rfl ?_
                  refine r_inv rfl hM rfl (as := [.ref 68, .int 1]) rfl (Nat.le_of_ble_eq_true rfl) (hT_mono (by first | decide | omega) (r_188 (t := t3) (a := a3) hM (1 : Int32) (by omega) (by omega)) (fun r1 M9 w => ?_))
                  obtain ⟨rfl, tu10, au10, eu10, hM9⟩ := w
                  have e11 : (k + (-1)).toInt = k.toInt + (-1) := by have w := i_addc (x := k) (y := (-1)) (-1) rfl (by omega) (by omega); omega
                  refine hs (f := dm_iinc 65 4 (-1)) (lv' := [(4, .int (k + (-1))), (3, .int v), (2, .int b), (0, .ref 68), (1, .int v0)]) rfl rfl ?_
                  generalize g13 : k + (-1) = y12 at e11 ⊢
                  refine hs (f := dm_goto 38) rfl rfl ?_
                  exact (IH _ (by omega)) y12 tu10 au10 _ hM9 (by omega) (by omega) (by omega) rfl
          refine hs (f := dm_ald 29 0) rfl rfl ?_
          refine hs (f := dm_push 30 (.int 0)) rfl rfl ?_
          refine r_inv rfl hM rfl (as := [.ref 68, .int 0]) rfl (Nat.le_of_ble_eq_true rfl) (hT_mono (by first | decide | omega) (r_188 (t := t1) (a := a1) hM (0 : Int32) (by omega) (by omega)) (fun r1 M14 w => ?_))
          obtain ⟨rfl, tu15, au15, eu15, hM14⟩ := w
          refine hs (f := dm_ild 34 2) rfl rfl ?_
          refine hs (f := dm_push 35 (.int 1)) rfl rfl ?_
          have e16 : (b - (1 : Int32)).toInt = b.toInt - 1 := by have w := i_subc (x := b) (y := (1 : Int32)) 1 rfl (by omega) (by omega); omega
          refine hs (f := dm_ii 36 (fun x y => x - y)) (st' := [.int (b - (1 : Int32))]) rfl rfl ?_
          refine hs (f := dm_ist 38 4) (lv' := [(4, .int (b - (1 : Int32))), (3, .int v), (2, .int b), (0, .ref 68), (1, .int v0)]) rfl rfl ?_
          exact (j38 _) (b - (1 : Int32)) tu15 au15 _ hM14 (by omega) (by omega) (by omega) rfl
        · skip
          have h1 : v.toInt ≥ ((1 : Int32) <<< (b &&& 31)).toInt := h1
          have ns := nv_step hv (by omega)
          have hv2 := hv.1
          obtain ⟨dd, hdd⟩ : ∃ dd, (33 - b.toInt).toNat = dd + 1 := ⟨(33 - b.toInt).toNat - 1, by omega⟩
          rw [hdd, nb_go (by omega)] at ht
          refine hs (f := dm_ald 12 0) rfl rfl ?_
          refine hs (f := dm_push 13 (.int 1)) rfl rfl ?_
          refine r_inv rfl hM rfl (as := [.ref 68, .int 1]) rfl (Nat.le_of_ble_eq_true rfl) (hT_mono (by first | decide | omega) (r_188 (t := t1) (a := a1) hM (1 : Int32) (by omega) (by omega)) (fun r1 M17 w => ?_))
          obtain ⟨rfl, tu18, au18, eu18, hM17⟩ := w
          refine hs (f := dm_ild 17 3) rfl rfl ?_
          refine hs (f := dm_push 18 (.int 1)) rfl rfl ?_
          refine hs (f := dm_ild 19 2) rfl rfl ?_
          refine hs (f := dm_ii 20 (fun x y => x <<< (y &&& 31))) (st' := [.int ((1 : Int32) <<< (b &&& 31)), .int v]) rfl rfl ?_
          refine hs (f := dm_ii 21 (fun x y => x - y)) (st' := [.int (v - ((1 : Int32) <<< (b &&& 31)))]) rfl rfl ?_
          refine hs (f := dm_ist 22 3) (lv' := [(3, .int (v - ((1 : Int32) <<< (b &&& 31)))), (2, .int b), (0, .ref 68), (1, .int v0)]) rfl rfl ?_
          refine hs (f := dm_iinc 25 2 1) (lv' := [(2, .int (b + 1)), (3, .int (v - ((1 : Int32) <<< (b &&& 31)))), (0, .ref 68), (1, .int v0)]) rfl rfl ?_
          refine hs (f := dm_goto 4) rfl rfl ?_
          exact (IH _ (by omega)).2 (v - ((1 : Int32) <<< (b &&& 31))) (b + 1) tu18 au18 _ hM17 ns.2.1 (by rw [ns.2.2, show (33 - (b.toInt + 1)).toNat = dd by omega]; omega) (by omega) rfl
      · skip
        intro v b t1 a1 M hM hv ht t10 hms
        refine hs (f := dm_ild 5 3) rfl rfl ?_
        refine hs (f := dm_push 6 (.int 1)) rfl rfl ?_
        refine hs (f := dm_ild 7 2) rfl rfl ?_
        refine hs (f := dm_ii 8 (fun x y => x <<< (y &&& 31))) (st' := [.int ((1 : Int32) <<< (b &&& 31)), .int v]) rfl rfl ?_
        refine g_ic_lt (n := 11) (tt := 28) rfl (fun h19 => ?_) (fun h19 => ?_)
        · skip
          have h19 : v.toInt < ((1 : Int32) <<< (b &&& 31)).toInt := h19
          rw [nb_end (by omega)] at ht
          have hv2 := hv.1
          have hv3 := hv.2.1
          have j38 : ∀ (nn : Nat), ∀ (k t3 : Int32) (a3 : Nat → Int32) (M : dm_Mem), Rm X (sA (sF q 65 t3) 98 a3) M → (-1 ≤ k.toInt ∧ k.toInt ≤ 31) → (t3.toInt + k.toInt + 1 = t.toInt + (nbN v0 : Nat)) → (0 ≤ t3.toInt) → (k.toInt + 1).toNat = nn → hG 1 cd_189 38 [(4, .int k), (2, .int b), (3, .int v), (0, .ref 68), (1, .int v0)] [] M (fun r M' => r = none ∧ ∃ (t2 : Int32) (a2 : Nat → Int32), t2.toInt = t.toInt + (nbN v0 : Nat) ∧ Rm X (sA (sF q 65 t2) 98 a2) M') := by
            intro nn
            induction nn using Nat.strongRecOn with
            | ind nn IH =>
              intro k t3 a3 M hM k0 h3 t30 hms
              refine hs (f := dm_ild 40 4) rfl rfl ?_
              refine g_if_lt (n := 43) (tt := 68) rfl (fun h20 => ?_) (fun h20 => ?_)
              · skip
                have h20 : k.toInt < 0 := h20
                exact hr (f := dm_vret) rfl rfl (⟨rfl, t3, a3, by omega, hM⟩)
              · skip
                have h20 : k.toInt ≥ 0 := h20
                refine hs (f := dm_ald 44 0) rfl rfl ?_
                refine hs (f := dm_ild 45 3) rfl rfl ?_
                refine hs (f := dm_ild 47 4) rfl rfl ?_
                refine hs (f := dm_ii 48 (fun x y => x >>> (y &&& 31))) (st' := [.int (v >>> (k &&& 31)), .ref 68]) rfl rfl ?_
                refine hs (f := dm_push 49 (.int 1)) rfl rfl ?_
                refine hs (f := dm_ii 50 (fun x y => x &&& y)) (st' := [.int ((v >>> (k &&& 31)) &&& (1 : Int32)), .ref 68]) rfl rfl ?_
                refine hs (f := dm_push 51 (.int 1)) rfl rfl ?_
                refine g_ic_ne (n := 54) (tt := 58) rfl (fun h21 => ?_) (fun h21 => ?_)
                · skip
                  clear h21
                  refine hs (f := dm_push 59 (.int 0)) rfl rfl ?_
                  refine r_inv rfl hM rfl (as := [.ref 68, .int 0]) rfl (Nat.le_of_ble_eq_true rfl) (hT_mono (by first | decide | omega) (r_188 (t := t3) (a := a3) hM (0 : Int32) (by omega) (by omega)) (fun r1 M22 w => ?_))
                  obtain ⟨rfl, tu23, au23, eu23, hM22⟩ := w
                  have e24 : (k + (-1)).toInt = k.toInt + (-1) := by have w := i_addc (x := k) (y := (-1)) (-1) rfl (by omega) (by omega); omega
                  refine hs (f := dm_iinc 65 4 (-1)) (lv' := [(4, .int (k + (-1))), (2, .int b), (3, .int v), (0, .ref 68), (1, .int v0)]) rfl rfl ?_
                  generalize g26 : k + (-1) = y25 at e24 ⊢
                  refine hs (f := dm_goto 38) rfl rfl ?_
                  exact (IH _ (by omega)) y25 tu23 au23 _ hM22 (by omega) (by omega) (by omega) rfl
                · skip
                  clear h21
                  refine hs (f := dm_push 55 (.int 1)) rfl rfl ?_
                  refine hs (f := dm_goto 59) rfl rfl ?_
                  refine r_inv rfl hM rfl (as := [.ref 68, .int 1]) rfl (Nat.le_of_ble_eq_true rfl) (hT_mono (by first | decide | omega) (r_188 (t := t3) (a := a3) hM (1 : Int32) (by omega) (by omega)) (fun r1 M27 w => ?_))
                  obtain ⟨rfl, tu28, au28, eu28, hM27⟩ := w
                  have e29 : (k + (-1)).toInt = k.toInt + (-1) := by have w := i_addc (x := k) (y := (-1)) (-1) rfl (by omega) (by omega); omega
                  refine hs (f := dm_iinc 65 4 (-1)) (lv' := [(4, .int (k + (-1))), (2, .int b), (3, .int v), (0, .ref 68), (1, .int v0)]) rfl rfl ?_
                  generalize g31 : k + (-1) = y30 at e29 ⊢
                  refine hs (f := dm_goto 38) rfl rfl ?_
                  exact (IH _ (by omega)) y30 tu28 au28 _ hM27 (by omega) (by omega) (by omega) rfl
          refine hs (f := dm_ald 29 0) rfl rfl ?_
          refine hs (f := dm_push 30 (.int 0)) rfl rfl ?_
          refine r_inv rfl hM rfl (as := [.ref 68, .int 0]) rfl (Nat.le_of_ble_eq_true rfl) (hT_mono (by first | decide | omega) (r_188 (t := t1) (a := a1) hM (0 : Int32) (by omega) (by omega)) (fun r1 M32 w => ?_))
          obtain ⟨rfl, tu33, au33, eu33, hM32⟩ := w
          refine hs (f := dm_ild 34 2) rfl rfl ?_
          refine hs (f := dm_push 35 (.int 1)) rfl rfl ?_
          have e34 : (b - (1 : Int32)).toInt = b.toInt - 1 := by have w := i_subc (x := b) (y := (1 : Int32)) 1 rfl (by omega) (by omega); omega
          refine hs (f := dm_ii 36 (fun x y => x - y)) (st' := [.int (b - (1 : Int32))]) rfl rfl ?_
          refine hs (f := dm_ist 38 4) (lv' := [(4, .int (b - (1 : Int32))), (2, .int b), (3, .int v), (0, .ref 68), (1, .int v0)]) rfl rfl ?_
          exact (j38 _) (b - (1 : Int32)) tu33 au33 _ hM32 (by omega) (by omega) (by omega) rfl
        · skip
          have h19 : v.toInt ≥ ((1 : Int32) <<< (b &&& 31)).toInt := h19
          have ns := nv_step hv (by omega)
          have hv2 := hv.1
          obtain ⟨dd, hdd⟩ : ∃ dd, (33 - b.toInt).toNat = dd + 1 := ⟨(33 - b.toInt).toNat - 1, by omega⟩
          rw [hdd, nb_go (by omega)] at ht
          refine hs (f := dm_ald 12 0) rfl rfl ?_
          refine hs (f := dm_push 13 (.int 1)) rfl rfl ?_
          refine r_inv rfl hM rfl (as := [.ref 68, .int 1]) rfl (Nat.le_of_ble_eq_true rfl) (hT_mono (by first | decide | omega) (r_188 (t := t1) (a := a1) hM (1 : Int32) (by omega) (by omega)) (fun r1 M35 w => ?_))
          obtain ⟨rfl, tu36, au36, eu36, hM35⟩ := w
          refine hs (f := dm_ild 17 3) rfl rfl ?_
          refine hs (f := dm_push 18 (.int 1)) rfl rfl ?_
          refine hs (f := dm_ild 19 2) rfl rfl ?_
          refine hs (f := dm_ii 20 (fun x y => x <<< (y &&& 31))) (st' := [.int ((1 : Int32) <<< (b &&& 31)), .int v]) rfl rfl ?_
          refine hs (f := dm_ii 21 (fun x y => x - y)) (st' := [.int (v - ((1 : Int32) <<< (b &&& 31)))]) rfl rfl ?_
          refine hs (f := dm_ist 22 3) (lv' := [(3, .int (v - ((1 : Int32) <<< (b &&& 31)))), (2, .int b), (0, .ref 68), (1, .int v0)]) rfl rfl ?_
          refine hs (f := dm_iinc 25 2 1) (lv' := [(2, .int (b + 1)), (3, .int (v - ((1 : Int32) <<< (b &&& 31)))), (0, .ref 68), (1, .int v0)]) rfl rfl ?_
          refine hs (f := dm_goto 4) rfl rfl ?_
          exact (IH _ (by omega)).2 (v - ((1 : Int32) <<< (b &&& 31))) (b + 1) tu36 au36 _ hM35 ns.2.1 (by rw [ns.2.2, show (33 - (b.toInt + 1)).toNat = dd by omega]; omega) (by omega) rfl
  refine hx (t := cd_189) rfl (Nat.le_of_ble_eq_true rfl) (lv := [(0, .ref 68), (1, .int v0)]) rfl ?_
  refine hs (f := dm_push 1 (.int 2)) rfl rfl ?_
  refine hs (f := dm_ist 2 2) (lv' := [(2, .int 2), (0, .ref 68), (1, .int v0)]) rfl rfl ?_
  refine hs (f := dm_ild 3 1) rfl rfl ?_
  refine hs (f := dm_ist 4 3) (lv' := [(3, .int v0), (2, .int 2), (0, .ref 68), (1, .int v0)]) rfl rfl ?_
  exact (j4 _).1 v0 (2 : Int32) t a _ hM (nv_0 v0) (by rfl) t0 rfl
set_option maxHeartbeats 8000000 in
theorem r_190 {X : dm_Mem} {q : rS} (ho : 0 ≤ (q.1 34).toInt ∧ (q.1 34).toInt ≤ 24000) (j : Nat) : ∀ (f s : Int64) (t : Int32) (a : Nat → Int32) (M : dm_Mem), Rm X (sA (sF q 65 t) 98 a) M → s.toInt = 2 ^ j → 0 ≤ f.toInt → f.toInt + s.toInt ≤ 1152921504606846976 → 0 ≤ t.toInt → t.toInt + (wsN (q.2.2.2 96) (q.2.2.2 97) (q.1 34).toInt j f.toInt : Nat) ≤ 1000000000 → ((q.1 64).toInt = 0 ∨ t.toInt + (wsN (q.2.2.2 96) (q.2.2.2 97) (q.1 34).toInt j f.toInt : Nat) ≤ 600) → hT (1 + 1 + j) 190 [.ref 68, .long f, .long s] M (fun r M' => r = none ∧ ∃ (t2 : Int32) (a2 : Nat → Int32), t2.toInt = t.toInt + (wsN (q.2.2.2 96) (q.2.2.2 97) (q.1 34).toInt j f.toInt : Nat) ∧ Rm X (sA (sF q 65 t2) 98 a2) M') := by
  induction j using Nat.strongRecOn with
  | ind j IH =>
    intro f s t a M hM hs0 hf hfs t0 hb hw
    rw [show 1 + 1 + j = (1 + j) + 1 by omega]
    have hp := p2_pos j
    refine hx (t := cd_190) rfl (Nat.le_of_ble_eq_true rfl) (lv := [(0, .ref 68), (1, .long f), (3, .long s)]) rfl ?_
    refine hs (f := dm_ald 1 0) rfl rfl ?_
    refine hs (f := dm_lld 2 1) rfl rfl ?_
    refine hs (f := dm_lld 3 3) rfl rfl ?_
    refine r_inv rfl hM rfl (as := [.ref 68, .long f, .long s]) rfl (Nat.le_of_ble_eq_true rfl) (hT_mono (by omega) (show hT 1 152 [.ref 68, .long f, .long s] _ (fun r M' => r = some (.int (Int32.ofNat (Part (q.2.2.2 96) (q.2.2.2 97) (q.1 34).toInt f.toInt s.toInt))) ∧ M' = _) from r_152 hM f s ho (by omega) (by omega) (by omega)) (fun r1 M1 w => ?_))
    obtain ⟨rfl, rfl⟩ := w
    have lP2 : Part (q.2.2.2 96) (q.2.2.2 97) (q.1 34).toInt f.toInt s.toInt ≤ 2 := Part_le
    generalize hP2 : Part (q.2.2.2 96) (q.2.2.2 97) (q.1 34).toInt f.toInt s.toInt = P2 at lP2 ⊢
    have eP2 : (Int32.ofNat P2).toInt = P2 := i_ofNat (by omega)
    refine hs (f := dm_ist 8 5) (lv' := [(5, .int (Int32.ofNat P2)), (0, .ref 68), (1, .long f), (3, .long s)]) rfl rfl ?_
    refine hs (f := dm_ild 10 5) rfl rfl ?_
    refine hs (f := dm_push 11 (.int 2)) rfl rfl ?_
    refine g_ic_ge (n := 14) (tt := 40) rfl (fun h3 => ?_) (fun h3 => ?_)
    · skip
      have h3 : (Int32.ofNat P2).toInt ≥ 2 := h3
      cases j with
      | zero => exact absurd (Part_one (a := (q.2.2.2 96)) (b := (q.2.2.2 97)) (n := (q.1 34).toInt) (f := f.toInt)) (by rw [show (1 : Int) = s.toInt by omega, hP2]; omega)
      | succ j =>
        have hp1 := p2_pos j
        have hp2 := p2_succ j
        have hwn := wsN_not (a := (q.2.2.2 96)) (b := (q.2.2.2 97)) (n := (q.1 34).toInt) (d := j) (f := f.toInt) (by rw [← hs0, hP2]; omega)
        refine hs (f := dm_lld 41 3) rfl rfl ?_
        refine hs (f := dm_push 44 (.long 2)) rfl rfl ?_
        have e4 : (s / (2 : Int64)).toInt = s.toInt / 2 := by have w := j_half (x := s) (by omega); omega
        refine hs (f := dm_lq 45 (fun x y => x / y)) (st' := [.long (s / (2 : Int64))]) rfl rfl ?_
        refine hs (f := dm_lst 47 6) (lv' := [(6, .long (s / (2 : Int64))), (5, .int (Int32.ofNat P2)), (0, .ref 68), (1, .long f), (3, .long s)]) rfl rfl ?_
        generalize g5 : s / (2 : Int64) = hf9 at e4 ⊢
        refine hs (f := dm_ald 48 0) rfl rfl ?_
        refine hs (f := dm_lld 49 1) rfl rfl ?_
        refine hs (f := dm_lld 51 6) rfl rfl ?_
        refine r_inv rfl hM rfl (as := [.ref 68, .long f, .long hf9]) rfl (Nat.le_of_ble_eq_true rfl) (hT_mono (by omega) (show hT 1 152 [.ref 68, .long f, .long hf9] _ (fun r M' => r = some (.int (Int32.ofNat (Part (q.2.2.2 96) (q.2.2.2 97) (q.1 34).toInt f.toInt hf9.toInt))) ∧ M' = _) from r_152 hM f hf9 ho (by omega) (by omega) (by omega)) (fun r1 M6 w => ?_))
        obtain ⟨rfl, rfl⟩ := w
        have lP7 : Part (q.2.2.2 96) (q.2.2.2 97) (q.1 34).toInt f.toInt hf9.toInt ≤ 2 := Part_le
        generalize hP7 : Part (q.2.2.2 96) (q.2.2.2 97) (q.1 34).toInt f.toInt hf9.toInt = P7 at lP7 ⊢
        have eP7 : (Int32.ofNat P7).toInt = P7 := i_ofNat (by omega)
        refine g_if_le (n := 57) (tt := 61) rfl (fun h8 => ?_) (fun h8 => ?_)
        · skip
          have h8 : (Int32.ofNat P7).toInt ≤ 0 := h8
          refine hs (f := dm_push 62 (.int 0)) rfl rfl ?_
          refine hs (f := dm_ist 64 8) (lv' := [(8, .int 0), (6, .long hf9), (5, .int (Int32.ofNat P2)), (0, .ref 68), (1, .long f), (3, .long s)]) rfl rfl ?_
          refine hs (f := dm_ald 65 0) rfl rfl ?_
          refine hs (f := dm_lld 66 1) rfl rfl ?_
          refine hs (f := dm_lld 68 6) rfl rfl ?_
          have e9 : (f + hf9).toInt = f.toInt + s.toInt / 2 := by have w := j_add (x := f) (y := hf9) (by omega) (by omega); omega
          refine hs (f := dm_ll 69 (fun x y => x + y)) (st' := [.long (f + hf9), .ref 68]) rfl rfl ?_
          refine hs (f := dm_lld 71 6) rfl rfl ?_
          refine r_inv rfl hM rfl (as := [.ref 68, .long (f + hf9), .long hf9]) rfl (Nat.le_of_ble_eq_true rfl) (hT_mono (by omega) (show hT 1 152 [.ref 68, .long (f + hf9), .long hf9] _ (fun r M' => r = some (.int (Int32.ofNat (Part (q.2.2.2 96) (q.2.2.2 97) (q.1 34).toInt (f + hf9).toInt hf9.toInt))) ∧ M' = _) from r_152 hM (f + hf9) hf9 ho (by omega) (by omega) (by omega)) (fun r1 M10 w => ?_))
          obtain ⟨rfl, rfl⟩ := w
          have lP11 : Part (q.2.2.2 96) (q.2.2.2 97) (q.1 34).toInt (f + hf9).toInt hf9.toInt ≤ 2 := Part_le
          generalize hP11 : Part (q.2.2.2 96) (q.2.2.2 97) (q.1 34).toInt (f + hf9).toInt hf9.toInt = P11 at lP11 ⊢
          have eP11 : (Int32.ofNat P11).toInt = P11 := i_ofNat (by omega)
          refine g_if_le (n := 77) (tt := 81) rfl (fun h12 => ?_) (fun h12 => ?_)
          · skip
            have h12 : (Int32.ofNat P11).toInt ≤ 0 := h12
            refine hs (f := dm_push 82 (.int 0)) rfl rfl ?_
            refine hs (f := dm_ist 84 9) (lv' := [(9, .int 0), (8, .int 0), (6, .long hf9), (5, .int (Int32.ofNat P2)), (0, .ref 68), (1, .long f), (3, .long s)]) rfl rfl ?_
            have hl : ws1 (q.2.2.2 96) (q.2.2.2 97) (q.1 34).toInt j f.toInt = 0 := ws1_n (by rw [show (2 : Int) ^ j = hf9.toInt by omega, hP7]; omega)
            have hr9 : ws1 (q.2.2.2 96) (q.2.2.2 97) (q.1 34).toInt j (f.toInt + 2 ^ j) = 0 := ws1_n (by rw [show (2 : Int) ^ j = hf9.toInt by omega, show f.toInt + hf9.toInt = (f + hf9).toInt by omega, hP11]; omega)
            refine hs (f := dm_ald 85 0) rfl rfl ?_
            refine hs (f := dm_ild 87 8) rfl rfl ?_
            refine r_inv rfl hM rfl (as := [.ref 68, .int 0]) rfl (Nat.le_of_ble_eq_true rfl) (hT_mono (by first | decide | omega) (r_188 (t := t) (a := a) hM (0 : Int32) (by omega) (by omega)) (fun r1 M13 w => ?_))
            obtain ⟨rfl, tu14, au14, eu14, hM13⟩ := w
            refine hs (f := dm_ald 91 0) rfl rfl ?_
            refine hs (f := dm_ild 93 9) rfl rfl ?_
            refine r_inv rfl hM13 rfl (as := [.ref 68, .int 0]) rfl (Nat.le_of_ble_eq_true rfl) (hT_mono (by first | decide | omega) (r_188 (t := tu14) (a := au14) hM13 (0 : Int32) (by omega) (by omega)) (fun r1 M15 w => ?_))
            obtain ⟨rfl, tu16, au16, eu16, hM15⟩ := w
            refine hs (f := dm_ild 98 8) rfl rfl ?_
            refine hs (f := dm_if_eq 101 108) (pc' := 108) rfl rfl ?_
            refine hs (f := dm_ild 110 9) rfl rfl ?_
            refine hs (f := dm_if_eq 113 123) (pc' := 123) rfl rfl ?_
            exact hr (f := dm_vret) rfl rfl (⟨rfl, _, _, by omega, hM15⟩)
          · skip
            have h12 : (Int32.ofNat P11).toInt > 0 := h12
            refine hs (f := dm_push 78 (.int 1)) rfl rfl ?_
            refine hs (f := dm_goto 82) rfl rfl ?_
            refine hs (f := dm_ist 84 9) (lv' := [(9, .int 1), (8, .int 0), (6, .long hf9), (5, .int (Int32.ofNat P2)), (0, .ref 68), (1, .long f), (3, .long s)]) rfl rfl ?_
            have hl : ws1 (q.2.2.2 96) (q.2.2.2 97) (q.1 34).toInt j f.toInt = 0 := ws1_n (by rw [show (2 : Int) ^ j = hf9.toInt by omega, hP7]; omega)
            have hr9 : ws1 (q.2.2.2 96) (q.2.2.2 97) (q.1 34).toInt j (f.toInt + 2 ^ j) = wsN (q.2.2.2 96) (q.2.2.2 97) (q.1 34).toInt j (f.toInt + 2 ^ j) := ws1_y (by rw [show (2 : Int) ^ j = hf9.toInt by omega, show f.toInt + hf9.toInt = (f + hf9).toInt by omega, hP11]; omega)
            refine hs (f := dm_ald 85 0) rfl rfl ?_
            refine hs (f := dm_ild 87 8) rfl rfl ?_
            refine r_inv rfl hM rfl (as := [.ref 68, .int 0]) rfl (Nat.le_of_ble_eq_true rfl) (hT_mono (by first | decide | omega) (r_188 (t := t) (a := a) hM (0 : Int32) (by omega) (by omega)) (fun r1 M17 w => ?_))
            obtain ⟨rfl, tu18, au18, eu18, hM17⟩ := w
            refine hs (f := dm_ald 91 0) rfl rfl ?_
            refine hs (f := dm_ild 93 9) rfl rfl ?_
            refine r_inv rfl hM17 rfl (as := [.ref 68, .int 1]) rfl (Nat.le_of_ble_eq_true rfl) (hT_mono (by first | decide | omega) (r_188 (t := tu18) (a := au18) hM17 (1 : Int32) (by omega) (by omega)) (fun r1 M19 w => ?_))
            obtain ⟨rfl, tu20, au20, eu20, hM19⟩ := w
            refine hs (f := dm_ild 98 8) rfl rfl ?_
            refine hs (f := dm_if_eq 101 108) (pc' := 108) rfl rfl ?_
            refine hs (f := dm_ild 110 9) rfl rfl ?_
            refine hs (f := dm_if_eq 113 123) (pc' := 113) rfl rfl ?_
            refine hs (f := dm_ald 114 0) rfl rfl ?_
            refine hs (f := dm_lld 115 1) rfl rfl ?_
            refine hs (f := dm_lld 117 6) rfl rfl ?_
            have e21 : (f + hf9).toInt = f.toInt + s.toInt / 2 := by have w := j_add (x := f) (y := hf9) (by omega) (by omega); omega
            refine hs (f := dm_ll 118 (fun x y => x + y)) (st' := [.long (f + hf9), .ref 68]) rfl rfl ?_
            refine hs (f := dm_lld 120 6) rfl rfl ?_
            have exu23 : (f + hf9).toInt = (f.toInt + 2 ^ j) := by omega
            refine r_inv rfl hM19 rfl (as := [.ref 68, .long (f + hf9), .long hf9]) rfl (Nat.le_of_ble_eq_true rfl) (hT_mono (by omega) (IH j (by omega) (f + hf9) hf9 tu20 au20 _ hM19 (by omega) (by omega) (by omega) (by omega) (by rw [exu23]; omega) (by rw [exu23]; omega)) (fun r1 M22 w => ?_))
            obtain ⟨rfl, tu23, au23, eu23, hM22⟩ := w
            rw [exu23] at eu23
            exact hr (f := dm_vret) rfl rfl (⟨rfl, _, _, by omega, hM22⟩)
        · skip
          have h8 : (Int32.ofNat P7).toInt > 0 := h8
          refine hs (f := dm_push 58 (.int 1)) rfl rfl ?_
          refine hs (f := dm_goto 62) rfl rfl ?_
          refine hs (f := dm_ist 64 8) (lv' := [(8, .int 1), (6, .long hf9), (5, .int (Int32.ofNat P2)), (0, .ref 68), (1, .long f), (3, .long s)]) rfl rfl ?_
          refine hs (f := dm_ald 65 0) rfl rfl ?_
          refine hs (f := dm_lld 66 1) rfl rfl ?_
          refine hs (f := dm_lld 68 6) rfl rfl ?_
          have e24 : (f + hf9).toInt = f.toInt + s.toInt / 2 := by have w := j_add (x := f) (y := hf9) (by omega) (by omega); omega
          refine hs (f := dm_ll 69 (fun x y => x + y)) (st' := [.long (f + hf9), .ref 68]) rfl rfl ?_
          refine hs (f := dm_lld 71 6) rfl rfl ?_
          refine r_inv rfl hM rfl (as := [.ref 68, .long (f + hf9), .long hf9]) rfl (Nat.le_of_ble_eq_true rfl) (hT_mono (by omega) (show hT 1 152 [.ref 68, .long (f + hf9), .long hf9] _ (fun r M' => r = some (.int (Int32.ofNat (Part (q.2.2.2 96) (q.2.2.2 97) (q.1 34).toInt (f + hf9).toInt hf9.toInt))) ∧ M' = _) from r_152 hM (f + hf9) hf9 ho (by omega) (by omega) (by omega)) (fun r1 M25 w => ?_))
          obtain ⟨rfl, rfl⟩ := w
          have lP26 : Part (q.2.2.2 96) (q.2.2.2 97) (q.1 34).toInt (f + hf9).toInt hf9.toInt ≤ 2 := Part_le
          generalize hP26 : Part (q.2.2.2 96) (q.2.2.2 97) (q.1 34).toInt (f + hf9).toInt hf9.toInt = P26 at lP26 ⊢
          have eP26 : (Int32.ofNat P26).toInt = P26 := i_ofNat (by omega)
          refine g_if_le (n := 77) (tt := 81) rfl (fun h27 => ?_) (fun h27 => ?_)
          · skip
            have h27 : (Int32.ofNat P26).toInt ≤ 0 := h27
            refine hs (f := dm_push 82 (.int 0)) rfl rfl ?_
            refine hs (f := dm_ist 84 9) (lv' := [(9, .int 0), (8, .int 1), (6, .long hf9), (5, .int (Int32.ofNat P2)), (0, .ref 68), (1, .long f), (3, .long s)]) rfl rfl ?_
            have hl : ws1 (q.2.2.2 96) (q.2.2.2 97) (q.1 34).toInt j f.toInt = wsN (q.2.2.2 96) (q.2.2.2 97) (q.1 34).toInt j f.toInt := ws1_y (by rw [show (2 : Int) ^ j = hf9.toInt by omega, hP7]; omega)
            have hr9 : ws1 (q.2.2.2 96) (q.2.2.2 97) (q.1 34).toInt j (f.toInt + 2 ^ j) = 0 := ws1_n (by rw [show (2 : Int) ^ j = hf9.toInt by omega, show f.toInt + hf9.toInt = (f + hf9).toInt by omega, hP26]; omega)
            refine hs (f := dm_ald 85 0) rfl rfl ?_
            refine hs (f := dm_ild 87 8) rfl rfl ?_
            refine r_inv rfl hM rfl (as := [.ref 68, .int 1]) rfl (Nat.le_of_ble_eq_true rfl) (hT_mono (by first | decide | omega) (r_188 (t := t) (a := a) hM (1 : Int32) (by omega) (by omega)) (fun r1 M28 w => ?_))
            obtain ⟨rfl, tu29, au29, eu29, hM28⟩ := w
            refine hs (f := dm_ald 91 0) rfl rfl ?_
            refine hs (f := dm_ild 93 9) rfl rfl ?_
            refine r_inv rfl hM28 rfl (as := [.ref 68, .int 0]) rfl (Nat.le_of_ble_eq_true rfl) (hT_mono (by first | decide | omega) (r_188 (t := tu29) (a := au29) hM28 (0 : Int32) (by omega) (by omega)) (fun r1 M30 w => ?_))
            obtain ⟨rfl, tu31, au31, eu31, hM30⟩ := w
            refine hs (f := dm_ild 98 8) rfl rfl ?_
            refine hs (f := dm_if_eq 101 108) (pc' := 101) rfl rfl ?_
            refine hs (f := dm_ald 102 0) rfl rfl ?_
            refine hs (f := dm_lld 103 1) rfl rfl ?_
            refine hs (f := dm_lld 105 6) rfl rfl ?_
            have exu33 : f.toInt = f.toInt := by omega
            refine r_inv rfl hM30 rfl (as := [.ref 68, .long f, .long hf9]) rfl (Nat.le_of_ble_eq_true rfl) (hT_mono (by omega) (IH j (by omega) f hf9 tu31 au31 _ hM30 (by omega) (by omega) (by omega) (by omega) (by rw [exu33]; omega) (by rw [exu33]; omega)) (fun r1 M32 w => ?_))
            obtain ⟨rfl, tu33, au33, eu33, hM32⟩ := w
            rw [exu33] at eu33
            refine hs (f := dm_ild 110 9) rfl rfl ?_
            refine hs (f := dm_if_eq 113 123) (pc' := 123) rfl rfl ?_
            exact hr (f := dm_vret) rfl rfl (⟨rfl, _, _, by omega, hM32⟩)
          · skip
            have h27 : (Int32.ofNat P26).toInt > 0 := h27
            refine hs (f := dm_push 78 (.int 1)) rfl rfl ?_
            refine hs (f := dm_goto 82) rfl rfl ?_
            refine hs (f := dm_ist 84 9) (lv' := [(9, .int 1), (8, .int 1), (6, .long hf9), (5, .int (Int32.ofNat P2)), (0, .ref 68), (1, .long f), (3, .long s)]) rfl rfl ?_
            have hl : ws1 (q.2.2.2 96) (q.2.2.2 97) (q.1 34).toInt j f.toInt = wsN (q.2.2.2 96) (q.2.2.2 97) (q.1 34).toInt j f.toInt := ws1_y (by rw [show (2 : Int) ^ j = hf9.toInt by omega, hP7]; omega)
            have hr9 : ws1 (q.2.2.2 96) (q.2.2.2 97) (q.1 34).toInt j (f.toInt + 2 ^ j) = wsN (q.2.2.2 96) (q.2.2.2 97) (q.1 34).toInt j (f.toInt + 2 ^ j) := ws1_y (by rw [show (2 : Int) ^ j = hf9.toInt by omega, show f.toInt + hf9.toInt = (f + hf9).toInt by omega, hP26]; omega)
            refine hs (f := dm_ald 85 0) rfl rfl ?_
            refine hs (f := dm_ild 87 8) rfl rfl ?_
            refine r_inv rfl hM rfl (as := [.ref 68, .int 1]) rfl (Nat.le_of_ble_eq_true rfl) (hT_mono (by first | decide | omega) (r_188 (t := t) (a := a) hM (1 : Int32) (by omega) (by omega)) (fun r1 M34 w => ?_))
            obtain ⟨rfl, tu35, au35, eu35, hM34⟩ := w
            refine hs (f := dm_ald 91 0) rfl rfl ?_
            refine hs (f := dm_ild 93 9) rfl rfl ?_
            refine r_inv rfl hM34 rfl (as := [.ref 68, .int 1]) rfl (Nat.le_of_ble_eq_true rfl) (hT_mono (by first | decide | omega) (r_188 (t := tu35) (a := au35) hM34 (1 : Int32) (by omega) (by omega)) (fun r1 M36 w => ?_))
            obtain ⟨rfl, tu37, au37, eu37, hM36⟩ := w
            refine hs (f := dm_ild 98 8) rfl rfl ?_
            refine hs (f := dm_if_eq 101 108) (pc' := 101) rfl rfl ?_
            refine hs (f := dm_ald 102 0) rfl rfl ?_
            refine hs (f := dm_lld 103 1) rfl rfl ?_
            refine hs (f := dm_lld 105 6) rfl rfl ?_
            have exu39 : f.toInt = f.toInt := by omega
            refine r_inv rfl hM36 rfl (as := [.ref 68, .long f, .long hf9]) rfl (Nat.le_of_ble_eq_true rfl) (hT_mono (by omega) (IH j (by omega) f hf9 tu37 au37 _ hM36 (by omega) (by omega) (by omega) (by omega) (by rw [exu39]; omega) (by rw [exu39]; omega)) (fun r1 M38 w => ?_))
            obtain ⟨rfl, tu39, au39, eu39, hM38⟩ := w
            rw [exu39] at eu39
            refine hs (f := dm_ild 110 9) rfl rfl ?_
            refine hs (f := dm_if_eq 113 123) (pc' := 113) rfl rfl ?_
            refine hs (f := dm_ald 114 0) rfl rfl ?_
            refine hs (f := dm_lld 115 1) rfl rfl ?_
            refine hs (f := dm_lld 117 6) rfl rfl ?_
            have e40 : (f + hf9).toInt = f.toInt + s.toInt / 2 := by have w := j_add (x := f) (y := hf9) (by omega) (by omega); omega
            refine hs (f := dm_ll 118 (fun x y => x + y)) (st' := [.long (f + hf9), .ref 68]) rfl rfl ?_
            refine hs (f := dm_lld 120 6) rfl rfl ?_
            have exu42 : (f + hf9).toInt = (f.toInt + 2 ^ j) := by omega
            refine r_inv rfl hM38 rfl (as := [.ref 68, .long (f + hf9), .long hf9]) rfl (Nat.le_of_ble_eq_true rfl) (hT_mono (by omega) (IH j (by omega) (f + hf9) hf9 tu39 au39 _ hM38 (by omega) (by omega) (by omega) (by omega) (by rw [exu42]; omega) (by rw [exu42]; omega)) (fun r1 M41 w => ?_))
            obtain ⟨rfl, tu42, au42, eu42, hM41⟩ := w
            rw [exu42] at eu42
            exact hr (f := dm_vret) rfl rfl (⟨rfl, _, _, by omega, hM41⟩)
    · skip
      have h3 : (Int32.ofNat P2).toInt < 2 := h3
      have hwn : wsN (q.2.2.2 96) (q.2.2.2 97) (q.1 34).toInt j f.toInt = 3 := wsN_lt (by rw [← hs0, hP2]; omega)
      refine hs (f := dm_ald 15 0) rfl rfl ?_
      refine hs (f := dm_push 16 (.int 0)) rfl rfl ?_
      refine r_inv rfl hM rfl (as := [.ref 68, .int 0]) rfl (Nat.le_of_ble_eq_true rfl) (hT_mono (by first | decide | omega) (r_188 (t := t) (a := a) hM (0 : Int32) (by omega) (by omega)) (fun r1 M43 w => ?_))
      obtain ⟨rfl, tu44, au44, eu44, hM43⟩ := w
      refine hs (f := dm_ald 20 0) rfl rfl ?_
      refine hs (f := dm_push 21 (.int 0)) rfl rfl ?_
      refine r_inv rfl hM43 rfl (as := [.ref 68, .int 0]) rfl (Nat.le_of_ble_eq_true rfl) (hT_mono (by first | decide | omega) (r_188 (t := tu44) (a := au44) hM43 (0 : Int32) (by omega) (by omega)) (fun r1 M45 w => ?_))
      obtain ⟨rfl, tu46, au46, eu46, hM45⟩ := w
      refine hs (f := dm_ald 25 0) rfl rfl ?_
      refine hs (f := dm_ild 27 5) rfl rfl ?_
      refine hs (f := dm_push 28 (.int 1)) rfl rfl ?_
      refine g_ic_ne (n := 31) (tt := 35) rfl (fun h47 => ?_) (fun h47 => ?_)
      · skip
        have h47 : ¬ (Int32.ofNat P2).toInt = 1 := h47
        refine hs (f := dm_push 36 (.int 0)) rfl rfl ?_
        refine r_inv rfl hM45 rfl (as := [.ref 68, .int 0]) rfl (Nat.le_of_ble_eq_true rfl) (hT_mono (by first | decide | omega) (r_188 (t := tu46) (a := au46) hM45 (0 : Int32) (by omega) (by omega)) (fun r1 M48 w => ?_))
        obtain ⟨rfl, tu49, au49, eu49, hM48⟩ := w
        exact hr (f := dm_vret) rfl rfl (⟨rfl, _, _, by omega, hM48⟩)
      · skip
        have h47 : (Int32.ofNat P2).toInt = 1 := h47
        refine hs (f := dm_push 32 (.int 1)) rfl rfl ?_
        refine hs (f := dm_goto 36) rfl rfl ?_
        refine r_inv rfl hM45 rfl (as := [.ref 68, .int 1]) rfl (Nat.le_of_ble_eq_true rfl) (hT_mono (by first | decide | omega) (r_188 (t := tu46) (a := au46) hM45 (1 : Int32) (by omega) (by omega)) (fun r1 M50 w => ?_))
        obtain ⟨rfl, tu51, au51, eu51, hM50⟩ := w
        exact hr (f := dm_vret) rfl rfl (⟨rfl, _, _, by omega, hM50⟩)
set_option maxHeartbeats 8000000 in
theorem r_191 {X : dm_Mem} {q : rS} (hS : wS (q.2.2.2 92) (q.1 29).toInt) (hn : (q.1 29).toInt ≤ 24000) (j : Nat) : ∀ (f s : Int64) (c : Int32) (t : Int32) (a : Nat → Int32) (M : dm_Mem), Rm X (sA (sF q 65 t) 98 a) M → s.toInt = 2 ^ j → 0 ≤ f.toInt → f.toInt + s.toInt ≤ 1152921504606846976 → 0 ≤ t.toInt → t.toInt + (whN (q.2.2.2 92) (q.2.2.1 93) (q.1 29).toInt j f.toInt c : Nat) ≤ 1000000000 → ((q.1 64).toInt = 0 ∨ t.toInt + (whN (q.2.2.2 92) (q.2.2.1 93) (q.1 29).toInt j f.toInt c : Nat) ≤ 600) → hT (2 + 1 + j) 191 [.ref 68, .long f, .long s, .int c] M (fun r M' => r = none ∧ ∃ (t2 : Int32) (a2 : Nat → Int32), t2.toInt = t.toInt + (whN (q.2.2.2 92) (q.2.2.1 93) (q.1 29).toInt j f.toInt c : Nat) ∧ Rm X (sA (sF q 65 t2) 98 a2) M') := by
  induction j using Nat.strongRecOn with
  | ind j IH =>
    intro f s c t a M hM hs0 hf hfs t0 hb hw
    rw [show 2 + 1 + j = (2 + j) + 1 by omega]
    have hp := p2_pos j
    refine hx (t := cd_191) rfl (Nat.le_of_ble_eq_true rfl) (lv := [(0, .ref 68), (1, .long f), (3, .long s), (5, .int c)]) rfl ?_
    refine hs (f := dm_ald 1 0) rfl rfl ?_
    refine hs (f := dm_lld 2 1) rfl rfl ?_
    refine hs (f := dm_lld 3 3) rfl rfl ?_
    refine r_inv rfl hM rfl (as := [.ref 68, .long f, .long s]) rfl (Nat.le_of_ble_eq_true rfl) (hT_mono (by omega) (show hT 2 147 [.ref 68, .long f, .long s] _ (fun r M' => r = some (.int (leastF (q.2.2.2 92) (q.2.2.1 93) (q.1 29).toInt f.toInt s.toInt)) ∧ M' = _) from r_147 hM f s hS hn (by omega) (by omega) (by omega)) (fun r1 M1 w => ?_))
    obtain ⟨rfl, rfl⟩ := w
    generalize hl9 : leastF (q.2.2.2 92) (q.2.2.1 93) (q.1 29).toInt f.toInt s.toInt = l9
    refine hs (f := dm_ild 8 5) rfl rfl ?_
    refine hs (f := dm_ii 9 (fun x y => x - y)) (st' := [.int (l9 - c)]) rfl rfl ?_
    refine hs (f := dm_ist 11 6) (lv' := [(6, .int (l9 - c)), (0, .ref 68), (1, .long f), (3, .long s), (5, .int c)]) rfl rfl ?_
    generalize g2 : l9 - c = m
    refine hs (f := dm_ald 12 0) rfl rfl ?_
    refine hs (f := dm_lld 13 1) rfl rfl ?_
    refine hs (f := dm_lld 14 3) rfl rfl ?_
    refine r_inv rfl hM rfl (as := [.ref 68, .long f, .long s]) rfl (Nat.le_of_ble_eq_true rfl) (hT_mono (by omega) (show hT 2 145 [.ref 68, .long f, .long s] _ (fun r M' => M' = _ ∧ ((r = some (.int 1) ∧ flat (q.2.2.2 92) (q.1 29).toInt f.toInt s.toInt) ∨ (r = some (.int 0) ∧ ¬ flat (q.2.2.2 92) (q.1 29).toInt f.toInt s.toInt))) from r_145 hM f s hS hn (by omega) (by omega) (by omega)) (fun r1 M3 w => ?_))
    obtain ⟨rfl, ⟨rfl, u4⟩ | ⟨rfl, u4⟩⟩ := w
    · skip
      refine hs (f := dm_if_eq 20 32) (pc' := 20) rfl rfl ?_
      have hwn : whN (q.2.2.2 92) (q.2.2.1 93) (q.1 29).toInt j f.toInt c = 1 + nbN m := by rw [whN_flat (by rw [← hs0]; exact u4), ← hs0, hl9, g2]
      refine hs (f := dm_ald 21 0) rfl rfl ?_
      refine hs (f := dm_push 22 (.int 1)) rfl rfl ?_
      refine r_inv rfl hM rfl (as := [.ref 68, .int 1]) rfl (Nat.le_of_ble_eq_true rfl) (hT_mono (by first | decide | omega) (r_188 (t := t) (a := a) hM (1 : Int32) (by omega) (by omega)) (fun r1 M5 w => ?_))
      obtain ⟨rfl, tu6, au6, eu6, hM5⟩ := w
      refine hs (f := dm_ald 26 0) rfl rfl ?_
      refine hs (f := dm_ild 28 6) rfl rfl ?_
      refine r_inv rfl hM5 rfl (as := [.ref 68, .int m]) rfl (Nat.le_of_ble_eq_true rfl) (hT_mono (by omega) (r_189 (t := tu6) (a := au6) hM5 m (by omega) (by omega) (by omega)) (fun r1 M7 w => ?_))
      obtain ⟨rfl, tu8, au8, eu8, hM7⟩ := w
      exact hr (f := dm_vret) rfl rfl (⟨rfl, _, _, by omega, hM7⟩)
    · skip
      refine hs (f := dm_if_eq 20 32) (pc' := 32) rfl rfl ?_
      cases j with
      | zero => exact absurd (by rw [hs0]; exact flat_one) u4
      | succ j =>
        have hp1 := p2_pos j
        have hp2 := p2_succ j
        have hwn := whN_not (w := (q.2.2.2 92)) (g := (q.2.2.1 93)) (n := (q.1 29).toInt) (d := j) (f := f.toInt) (b := c) (m := m) (by rw [← hs0]; exact u4) (by rw [← hs0, hl9]; exact g2)
        have j143 : ∀ (hf9 : Int64) (x y : Int32) (t1 : Int32) (a1 : Nat → Int32) (M : dm_Mem), Rm X (sA (sF q 65 t1) 98 a1) M → (t1.toInt = t.toInt + 2 + (pnN m : Nat)) → (hf9.toInt = 2 ^ j) → ((x.toInt = 1 ∧ nl (q.2.2.2 92) (q.2.2.1 93) (q.1 29).toInt j f.toInt (c + m)) ∨ (x.toInt = 0 ∧ ¬ nl (q.2.2.2 92) (q.2.2.1 93) (q.1 29).toInt j f.toInt (c + m))) → ((y.toInt = 1 ∧ nl (q.2.2.2 92) (q.2.2.1 93) (q.1 29).toInt j (f.toInt + 2 ^ j) (c + m)) ∨ (y.toInt = 0 ∧ ¬ nl (q.2.2.2 92) (q.2.2.1 93) (q.1 29).toInt j (f.toInt + 2 ^ j) (c + m))) → hG (2 + (j + 1)) cd_191 143 [(9, .int x), (7, .long hf9), (6, .int m), (0, .ref 68), (1, .long f), (3, .long s), (5, .int c)] [.int y] M (fun r M' => r = none ∧ ∃ (t2 : Int32) (a2 : Nat → Int32), t2.toInt = t.toInt + (whN (q.2.2.2 92) (q.2.2.1 93) (q.1 29).toInt (j + 1) f.toInt c : Nat) ∧ Rm X (sA (sF q 65 t2) 98 a2) M') := by
          intro hf9 x y t1 a1 M hM h1 hhf hxl hyl
          refine hs (f := dm_ist 145 10) (lv' := [(10, .int y), (9, .int x), (7, .long hf9), (6, .int m), (0, .ref 68), (1, .long f), (3, .long s), (5, .int c)]) rfl rfl ?_
          refine hs (f := dm_ald 146 0) rfl rfl ?_
          refine hs (f := dm_ild 148 10) rfl rfl ?_
          refine r_inv rfl hM rfl (as := [.ref 68, .int y]) rfl (Nat.le_of_ble_eq_true rfl) (hT_mono (by first | decide | omega) (r_188 (t := t1) (a := a1) hM y (by omega) (by omega)) (fun r1 M9 w => ?_))
          obtain ⟨rfl, tu10, au10, eu10, hM9⟩ := w
          refine hs (f := dm_ald 152 0) rfl rfl ?_
          refine hs (f := dm_ild 154 9) rfl rfl ?_
          refine r_inv rfl hM9 rfl (as := [.ref 68, .int x]) rfl (Nat.le_of_ble_eq_true rfl) (hT_mono (by first | decide | omega) (r_188 (t := tu10) (a := au10) hM9 x (by omega) (by omega)) (fun r1 M11 w => ?_))
          obtain ⟨rfl, tu12, au12, eu12, hM11⟩ := w
          refine hs (f := dm_ild 159 9) rfl rfl ?_
          refine g_if_ne (n := 162) (tt := 174) rfl (fun h13 => ?_) (fun h13 => ?_)
          · skip
            have h13 : ¬ x.toInt = 0 := h13
            have hA := wh1_y (hxl.resolve_right (fun z => by omega)).2
            refine hs (f := dm_ild 176 10) rfl rfl ?_
            refine g_if_ne (n := 179) (tt := 194) rfl (fun h14 => ?_) (fun h14 => ?_)
            · skip
              have h14 : ¬ y.toInt = 0 := h14
              have hB := wh1_y (hyl.resolve_right (fun z => by omega)).2
              exact hr (f := dm_vret) rfl rfl (⟨rfl, _, _, by omega, hM11⟩)
            · skip
              have h14 : y.toInt = 0 := h14
              have hB := wh1_n (hyl.resolve_left (fun z => by omega)).2
              refine hs (f := dm_ald 180 0) rfl rfl ?_
              refine hs (f := dm_lld 181 1) rfl rfl ?_
              refine hs (f := dm_lld 183 7) rfl rfl ?_
              have e15 : (f + hf9).toInt = f.toInt + hf9.toInt := by have w := j_add (x := f) (y := hf9) (by omega) (by omega); omega
              refine hs (f := dm_ll 184 (fun x y => x + y)) (st' := [.long (f + hf9), .ref 68]) rfl rfl ?_
              refine hs (f := dm_lld 186 7) rfl rfl ?_
              refine hs (f := dm_ild 188 5) rfl rfl ?_
              refine hs (f := dm_ild 190 6) rfl rfl ?_
              refine hs (f := dm_ii 191 (fun x y => x + y)) (st' := [.int (c + m), .long hf9, .long (f + hf9), .ref 68]) rfl rfl ?_
              have exu17 : (f + hf9).toInt = (f.toInt + 2 ^ j) := by omega
              refine r_inv rfl hM11 rfl (as := [.ref 68, .long (f + hf9), .long hf9, .int (c + m)]) rfl (Nat.le_of_ble_eq_true rfl) (hT_mono (by omega) (IH j (by omega) (f + hf9) hf9 (c + m) tu12 au12 _ hM11 (by omega) (by omega) (by omega) (by omega) (by rw [exu17]; omega) (by rw [exu17]; omega)) (fun r1 M16 w => ?_))
              obtain ⟨rfl, tu17, au17, eu17, hM16⟩ := w
              rw [exu17] at eu17
              exact hr (f := dm_vret) rfl rfl (⟨rfl, _, _, by omega, hM16⟩)
          · skip
            have h13 : x.toInt = 0 := h13
            have hA := wh1_n (hxl.resolve_left (fun z => by omega)).2
            refine hs (f := dm_ald 163 0) rfl rfl ?_
            refine hs (f := dm_lld 164 1) rfl rfl ?_
            refine hs (f := dm_lld 166 7) rfl rfl ?_
            refine hs (f := dm_ild 168 5) rfl rfl ?_
            refine hs (f := dm_ild 170 6) rfl rfl ?_
            refine hs (f := dm_ii 171 (fun x y => x + y)) (st' := [.int (c + m), .long hf9, .long f, .ref 68]) rfl rfl ?_
            have exu19 : f.toInt = f.toInt := by omega
            refine r_inv rfl hM11 rfl (as := [.ref 68, .long f, .long hf9, .int (c + m)]) rfl (Nat.le_of_ble_eq_true rfl) (hT_mono (by omega) (IH j (by omega) f hf9 (c + m) tu12 au12 _ hM11 (by omega) (by omega) (by omega) (by omega) (by rw [exu19]; omega) (by rw [exu19]; omega)) (fun r1 M18 w => ?_))
            obtain ⟨rfl, tu19, au19, eu19, hM18⟩ := w
            rw [exu19] at eu19
            refine hs (f := dm_ild 176 10) rfl rfl ?_
            refine g_if_ne (n := 179) (tt := 194) rfl (fun h20 => ?_) (fun h20 => ?_)
            · skip
              have h20 : ¬ y.toInt = 0 := h20
              have hB := wh1_y (hyl.resolve_right (fun z => by omega)).2
              exact hr (f := dm_vret) rfl rfl (⟨rfl, _, _, by omega, hM18⟩)
            · skip
              have h20 : y.toInt = 0 := h20
              have hB := wh1_n (hyl.resolve_left (fun z => by omega)).2
              refine hs (f := dm_ald 180 0) rfl rfl ?_
              refine hs (f := dm_lld 181 1) rfl rfl ?_
              refine hs (f := dm_lld 183 7) rfl rfl ?_
              have e21 : (f + hf9).toInt = f.toInt + hf9.toInt := by have w := j_add (x := f) (y := hf9) (by omega) (by omega); omega
              refine hs (f := dm_ll 184 (fun x y => x + y)) (st' := [.long (f + hf9), .ref 68]) rfl rfl ?_
              refine hs (f := dm_lld 186 7) rfl rfl ?_
              refine hs (f := dm_ild 188 5) rfl rfl ?_
              refine hs (f := dm_ild 190 6) rfl rfl ?_
              refine hs (f := dm_ii 191 (fun x y => x + y)) (st' := [.int (c + m), .long hf9, .long (f + hf9), .ref 68]) rfl rfl ?_
              have exu23 : (f + hf9).toInt = (f.toInt + 2 ^ j) := by omega
              refine r_inv rfl hM18 rfl (as := [.ref 68, .long (f + hf9), .long hf9, .int (c + m)]) rfl (Nat.le_of_ble_eq_true rfl) (hT_mono (by omega) (IH j (by omega) (f + hf9) hf9 (c + m) tu19 au19 _ hM18 (by omega) (by omega) (by omega) (by omega) (by rw [exu23]; omega) (by rw [exu23]; omega)) (fun r1 M22 w => ?_))
              obtain ⟨rfl, tu23, au23, eu23, hM22⟩ := w
              rw [exu23] at eu23
              exact hr (f := dm_vret) rfl rfl (⟨rfl, _, _, by omega, hM22⟩)
        have j102 : ∀ (hf9 : Int64) (x : Int32) (t1 : Int32) (a1 : Nat → Int32) (M : dm_Mem), Rm X (sA (sF q 65 t1) 98 a1) M → (t1.toInt = t.toInt + 2 + (pnN m : Nat)) → (hf9.toInt = 2 ^ j) → ((x.toInt = 1 ∧ nl (q.2.2.2 92) (q.2.2.1 93) (q.1 29).toInt j f.toInt (c + m)) ∨ (x.toInt = 0 ∧ ¬ nl (q.2.2.2 92) (q.2.2.1 93) (q.1 29).toInt j f.toInt (c + m))) → hG (2 + (j + 1)) cd_191 102 [(7, .long hf9), (6, .int m), (0, .ref 68), (1, .long f), (3, .long s), (5, .int c)] [.int x] M (fun r M' => r = none ∧ ∃ (t2 : Int32) (a2 : Nat → Int32), t2.toInt = t.toInt + (whN (q.2.2.2 92) (q.2.2.1 93) (q.1 29).toInt (j + 1) f.toInt c : Nat) ∧ Rm X (sA (sF q 65 t2) 98 a2) M') := by
          intro hf9 x t1 a1 M hM h1 hhf hxl
          refine hs (f := dm_ist 104 9) (lv' := [(9, .int x), (7, .long hf9), (6, .int m), (0, .ref 68), (1, .long f), (3, .long s), (5, .int c)]) rfl rfl ?_
          refine hs (f := dm_ald 105 0) rfl rfl ?_
          refine hs (f := dm_lld 106 1) rfl rfl ?_
          refine hs (f := dm_lld 108 7) rfl rfl ?_
          have e24 : (f + hf9).toInt = f.toInt + hf9.toInt := by have w := j_add (x := f) (y := hf9) (by omega) (by omega); omega
          refine hs (f := dm_ll 109 (fun x y => x + y)) (st' := [.long (f + hf9), .ref 68]) rfl rfl ?_
          refine hs (f := dm_lld 111 7) rfl rfl ?_
          refine r_inv rfl hM rfl (as := [.ref 68, .long (f + hf9), .long hf9]) rfl (Nat.le_of_ble_eq_true rfl) (hT_mono (by omega) (show hT 2 145 [.ref 68, .long (f + hf9), .long hf9] _ (fun r M' => M' = _ ∧ ((r = some (.int 1) ∧ flat (q.2.2.2 92) (q.1 29).toInt (f + hf9).toInt hf9.toInt) ∨ (r = some (.int 0) ∧ ¬ flat (q.2.2.2 92) (q.1 29).toInt (f + hf9).toInt hf9.toInt))) from r_145 hM (f + hf9) hf9 hS hn (by omega) (by omega) (by omega)) (fun r1 M25 w => ?_))
          obtain ⟨rfl, ⟨rfl, u26⟩ | ⟨rfl, u26⟩⟩ := w
          · skip
            refine hs (f := dm_if_eq 117 142) (pc' := 117) rfl rfl ?_
            refine hs (f := dm_ald 118 0) rfl rfl ?_
            refine r_geta (c := 90) rfl hM rfl ?_
            refine hs (f := dm_ald 122 0) rfl rfl ?_
            refine hs (f := dm_lld 123 1) rfl rfl ?_
            refine hs (f := dm_lld 125 7) rfl rfl ?_
            have e27 : (f + hf9).toInt = f.toInt + hf9.toInt := by have w := j_add (x := f) (y := hf9) (by omega) (by omega); omega
            refine hs (f := dm_ll 126 (fun x y => x + y)) (st' := [.long (f + hf9), .ref 68, .ref 93]) rfl rfl ?_
            refine r_inv rfl hM rfl (as := [.ref 68, .long (f + hf9)]) rfl (Nat.le_of_ble_eq_true rfl) (hT_mono (by omega) (show hT 1 143 [.ref 68, .long (f + hf9)] _ (fun r M' => ∃ k : Int32, r = some (.int k) ∧ M' = _ ∧ 0 ≤ k.toInt ∧ k.toInt < (q.1 29).toInt ∧ rB (q.2.2.2 92) k.toInt ≤ (f + hf9).toInt ∧ (k.toInt + 1 < (q.1 29).toInt → (f + hf9).toInt < rB (q.2.2.2 92) (k.toInt + 1))) from r_143 hM (f + hf9) ⟨hS.1, hn⟩ (by show rB (q.2.2.2 92) 0 ≤ _; rw [hS.2.1]; omega)) (fun r1 M28 w => ?_))
            obtain ⟨ku29, rfl, rfl, iu291, iu292, iu293, iu294⟩ := w
            have au29 := aF_eq hS ⟨iu291, iu292, iu293, iu294⟩
            refine r_iald (L := 24000) (i := ku29) ((q.2.2.1 93) ku29.toInt.toNat) rfl hM rfl (by omega) rfl ?_
            generalize g31 : (q.2.2.1 93) ku29.toInt.toNat = v30
            have x32 : v30.toInt = rA (q.2.2.1 93) ku29.toInt := rA_of (i := ku29) g31 rfl
            refine hs (f := dm_ild 132 5) rfl rfl ?_
            refine hs (f := dm_ild 134 6) rfl rfl ?_
            refine hs (f := dm_ii 135 (fun x y => x + y)) (st' := [.int (c + m), .int v30]) rfl rfl ?_
            refine g_ic_ne (n := 138) (tt := 142) rfl (fun h33 => ?_) (fun h33 => ?_)
            · skip
              have h33 : ¬ v30.toInt = (c + m).toInt := h33
              refine hs (f := dm_push 143 (.int 0)) rfl rfl ?_
              exact j143 hf9 x (0 : Int32) t1 a1 _ hM h1 hhf hxl (Or.inr ⟨rfl, fun z9 => by have z8 := z9.2; rw [show (2 : Int) ^ j = hf9.toInt by omega, ← show (f + hf9).toInt = f.toInt + hf9.toInt by omega, au29] at z8; omega⟩)
            · skip
              have h33 : v30.toInt = (c + m).toInt := h33
              refine hs (f := dm_push 139 (.int 1)) rfl rfl ?_
              refine hs (f := dm_goto 143) rfl rfl ?_
              exact j143 hf9 x (1 : Int32) t1 a1 _ hM h1 hhf hxl (Or.inl ⟨rfl, by rw [show (2 : Int) ^ j = hf9.toInt by omega, ← show (f + hf9).toInt = f.toInt + hf9.toInt by omega]; exact u26, by rw [show (2 : Int) ^ j = hf9.toInt by omega, ← show (f + hf9).toInt = f.toInt + hf9.toInt by omega, au29]; omega⟩)
          · skip
            refine hs (f := dm_if_eq 117 142) (pc' := 142) rfl rfl ?_
            refine hs (f := dm_push 143 (.int 0)) rfl rfl ?_
            exact j143 hf9 x (0 : Int32) t1 a1 _ hM h1 hhf hxl (Or.inr ⟨rfl, fun z9 => u26 (by have z8 := z9.1; rw [show (2 : Int) ^ j = hf9.toInt by omega, ← show (f + hf9).toInt = f.toInt + hf9.toInt by omega] at z8; exact z8)⟩)
        have j62 : ∀ (t1 : Int32) (a1 : Nat → Int32) (M : dm_Mem), Rm X (sA (sF q 65 t1) 98 a1) M → (t1.toInt = t.toInt + 2 + (pnN m : Nat)) → hG (2 + (j + 1)) cd_191 62 [(6, .int m), (0, .ref 68), (1, .long f), (3, .long s), (5, .int c)] [] M (fun r M' => r = none ∧ ∃ (t2 : Int32) (a2 : Nat → Int32), t2.toInt = t.toInt + (whN (q.2.2.2 92) (q.2.2.1 93) (q.1 29).toInt (j + 1) f.toInt c : Nat) ∧ Rm X (sA (sF q 65 t2) 98 a2) M') := by
          intro t1 a1 M hM h1
          refine hs (f := dm_lld 63 3) rfl rfl ?_
          refine hs (f := dm_push 66 (.long 2)) rfl rfl ?_
          have e34 : (s / (2 : Int64)).toInt = s.toInt / 2 := by have w := j_half (x := s) (by omega); omega
          refine hs (f := dm_lq 67 (fun x y => x / y)) (st' := [.long (s / (2 : Int64))]) rfl rfl ?_
          refine hs (f := dm_lst 69 7) (lv' := [(7, .long (s / (2 : Int64))), (6, .int m), (0, .ref 68), (1, .long f), (3, .long s), (5, .int c)]) rfl rfl ?_
          generalize g35 : s / (2 : Int64) = hf9 at e34 ⊢
          refine hs (f := dm_ald 70 0) rfl rfl ?_
          refine hs (f := dm_lld 71 1) rfl rfl ?_
          refine hs (f := dm_lld 73 7) rfl rfl ?_
          refine r_inv rfl hM rfl (as := [.ref 68, .long f, .long hf9]) rfl (Nat.le_of_ble_eq_true rfl) (hT_mono (by omega) (show hT 2 145 [.ref 68, .long f, .long hf9] _ (fun r M' => M' = _ ∧ ((r = some (.int 1) ∧ flat (q.2.2.2 92) (q.1 29).toInt f.toInt hf9.toInt) ∨ (r = some (.int 0) ∧ ¬ flat (q.2.2.2 92) (q.1 29).toInt f.toInt hf9.toInt))) from r_145 hM f hf9 hS hn (by omega) (by omega) (by omega)) (fun r1 M36 w => ?_))
          obtain ⟨rfl, ⟨rfl, u37⟩ | ⟨rfl, u37⟩⟩ := w
          · skip
            refine hs (f := dm_if_eq 79 101) (pc' := 79) rfl rfl ?_
            refine hs (f := dm_ald 80 0) rfl rfl ?_
            refine r_geta (c := 90) rfl hM rfl ?_
            refine hs (f := dm_ald 84 0) rfl rfl ?_
            refine hs (f := dm_lld 85 1) rfl rfl ?_
            refine r_inv rfl hM rfl (as := [.ref 68, .long f]) rfl (Nat.le_of_ble_eq_true rfl) (hT_mono (by omega) (show hT 1 143 [.ref 68, .long f] _ (fun r M' => ∃ k : Int32, r = some (.int k) ∧ M' = _ ∧ 0 ≤ k.toInt ∧ k.toInt < (q.1 29).toInt ∧ rB (q.2.2.2 92) k.toInt ≤ f.toInt ∧ (k.toInt + 1 < (q.1 29).toInt → f.toInt < rB (q.2.2.2 92) (k.toInt + 1))) from r_143 hM f ⟨hS.1, hn⟩ (by show rB (q.2.2.2 92) 0 ≤ _; rw [hS.2.1]; omega)) (fun r1 M38 w => ?_))
            obtain ⟨ku39, rfl, rfl, iu391, iu392, iu393, iu394⟩ := w
            have au39 := aF_eq hS ⟨iu391, iu392, iu393, iu394⟩
            refine r_iald (L := 24000) (i := ku39) ((q.2.2.1 93) ku39.toInt.toNat) rfl hM rfl (by omega) rfl ?_
            generalize g41 : (q.2.2.1 93) ku39.toInt.toNat = v40
            have x42 : v40.toInt = rA (q.2.2.1 93) ku39.toInt := rA_of (i := ku39) g41 rfl
            refine hs (f := dm_ild 91 5) rfl rfl ?_
            refine hs (f := dm_ild 93 6) rfl rfl ?_
            refine hs (f := dm_ii 94 (fun x y => x + y)) (st' := [.int (c + m), .int v40]) rfl rfl ?_
            refine g_ic_ne (n := 97) (tt := 101) rfl (fun h43 => ?_) (fun h43 => ?_)
            · skip
              have h43 : ¬ v40.toInt = (c + m).toInt := h43
              refine hs (f := dm_push 102 (.int 0)) rfl rfl ?_
              exact j102 hf9 (0 : Int32) t1 a1 _ hM h1 (by omega) (Or.inr ⟨rfl, fun z9 => by have z8 := z9.2; rw [au39] at z8; omega⟩)
            · skip
              have h43 : v40.toInt = (c + m).toInt := h43
              refine hs (f := dm_push 98 (.int 1)) rfl rfl ?_
              refine hs (f := dm_goto 102) rfl rfl ?_
              exact j102 hf9 (1 : Int32) t1 a1 _ hM h1 (by omega) (Or.inl ⟨rfl, by rw [show (2 : Int) ^ j = hf9.toInt by omega]; exact u37, by rw [au39]; omega⟩)
          · skip
            refine hs (f := dm_if_eq 79 101) (pc' := 101) rfl rfl ?_
            refine hs (f := dm_push 102 (.int 0)) rfl rfl ?_
            exact j102 hf9 (0 : Int32) t1 a1 _ hM h1 (by omega) (Or.inr ⟨rfl, fun z9 => u37 (by have z8 := z9.1; rw [show (2 : Int) ^ j = hf9.toInt by omega] at z8; exact z8)⟩)
        refine hs (f := dm_ald 33 0) rfl rfl ?_
        refine hs (f := dm_push 34 (.int 0)) rfl rfl ?_
        refine r_inv rfl hM rfl (as := [.ref 68, .int 0]) rfl (Nat.le_of_ble_eq_true rfl) (hT_mono (by first | decide | omega) (r_188 (t := t) (a := a) hM (0 : Int32) (by omega) (by omega)) (fun r1 M44 w => ?_))
        obtain ⟨rfl, tu45, au45, eu45, hM44⟩ := w
        refine hs (f := dm_ald 38 0) rfl rfl ?_
        refine hs (f := dm_ild 40 6) rfl rfl ?_
        refine g_if_le (n := 43) (tt := 47) rfl (fun h46 => ?_) (fun h46 => ?_)
        · skip
          have h46 : m.toInt ≤ 0 := h46
          refine hs (f := dm_push 48 (.int 0)) rfl rfl ?_
          refine r_inv rfl hM44 rfl (as := [.ref 68, .int 0]) rfl (Nat.le_of_ble_eq_true rfl) (hT_mono (by first | decide | omega) (r_188 (t := tu45) (a := au45) hM44 (0 : Int32) (by omega) (by omega)) (fun r1 M47 w => ?_))
          obtain ⟨rfl, tu48, au48, eu48, hM47⟩ := w
          refine hs (f := dm_ild 53 6) rfl rfl ?_
          refine g_if_le (n := 56) (tt := 62) rfl (fun h49 => ?_) (fun h49 => ?_)
          · skip
            have h49 : m.toInt ≤ 0 := h49
            have hpn := pn_n (m := m) (by omega)
            exact j62 tu48 au48 _ hM47 (by omega)
          · skip
            have h49 : m.toInt > 0 := h49
            have hpn := pn_y (m := m) (by omega)
            refine hs (f := dm_ald 57 0) rfl rfl ?_
            refine hs (f := dm_ild 59 6) rfl rfl ?_
            refine r_inv rfl hM47 rfl (as := [.ref 68, .int m]) rfl (Nat.le_of_ble_eq_true rfl) (hT_mono (by omega) (r_189 (t := tu48) (a := au48) hM47 m (by omega) (by omega) (by omega)) (fun r1 M50 w => ?_))
            obtain ⟨rfl, tu51, au51, eu51, hM50⟩ := w
            skip
            exact j62 tu51 au51 _ hM50 (by omega)
        · skip
          have h46 : m.toInt > 0 := h46
          refine hs (f := dm_push 44 (.int 1)) rfl rfl ?_
          refine hs (f := dm_goto 48) rfl rfl ?_
          refine r_inv rfl hM44 rfl (as := [.ref 68, .int 1]) rfl (Nat.le_of_ble_eq_true rfl) (hT_mono (by first | decide | omega) (r_188 (t := tu45) (a := au45) hM44 (1 : Int32) (by omega) (by omega)) (fun r1 M52 w => ?_))
          obtain ⟨rfl, tu53, au53, eu53, hM52⟩ := w
          refine hs (f := dm_ild 53 6) rfl rfl ?_
          refine g_if_le (n := 56) (tt := 62) rfl (fun h54 => ?_) (fun h54 => ?_)
          · skip
            have h54 : m.toInt ≤ 0 := h54
            have hpn := pn_n (m := m) (by omega)
            exact j62 tu53 au53 _ hM52 (by omega)
          · skip
            have h54 : m.toInt > 0 := h54
            have hpn := pn_y (m := m) (by omega)
            refine hs (f := dm_ald 57 0) rfl rfl ?_
            refine hs (f := dm_ild 59 6) rfl rfl ?_
            refine r_inv rfl hM52 rfl (as := [.ref 68, .int m]) rfl (Nat.le_of_ble_eq_true rfl) (hT_mono (by omega) (r_189 (t := tu53) (a := au53) hM52 m (by omega) (by omega) (by omega)) (fun r1 M55 w => ?_))
            obtain ⟨rfl, tu56, au56, eu56, hM55⟩ := w
            skip
            exact j62 tu56 au56 _ hM55 (by omega)
