/-! bits read -/
/-- steps laid so far: in order, from 0 on, all before P -/
def wP (b : Nat → Int64) (n P : Int) : Prop := (∀ i : Int, 0 ≤ i → i + 1 < n → rB b i < rB b (i + 1)) ∧ (∀ i : Int, 0 ≤ i → i < n → rB b i < P) ∧ (0 < n → rB b 0 = 0)
theorem wP_up {b : Nat → Int64} {n P P' : Int} (h : wP b n P) (hP : P ≤ P') : wP b n P' := ⟨h.1, fun i i0 i1 => by have := h.2.1 i i0 i1; omega, h.2.2⟩
theorem wP_lay {b : Nat → Int64} {n P P' : Int} {m : Nat} {p : Int64} (h : wP b n P) (hm : n = m) (hP : P ≤ p.toInt) (hP' : p.toInt < P') (h0 : n = 0 → p.toInt = 0) : wP (vp_updL b m p) (n + 1) P' := by
  refine ⟨fun i i0 i1 => ?_, fun i i0 i1 => ?_, fun _ => ?_⟩
  · rw [rB_upd i0, rB_upd (by omega), if_neg (by omega)]
    by_cases e : i + 1 = m
    · rw [if_pos e]
      have := h.2.1 i i0 (by omega)
      omega
    · rw [if_neg e]
      exact h.1 i i0 (by omega)
  · rw [rB_upd i0]
    by_cases e : i = m
    · rw [if_pos e]; exact hP'
    · rw [if_neg e]
      have := h.2.1 i i0 (by omega)
      omega
  · rw [rB_upd (by omega)]
    by_cases e : (0 : Int) = m
    · rw [if_pos e]; exact h0 (by omega)
    · rw [if_neg e]; exact h.2.2 (by omega)
theorem wP_wS {b : Nat → Int64} {n : Int} (h : wP b n 1152921504606846976) (hn : 1 ≤ n) : wS b n := ⟨hn, h.2.2 (by omega), h.1, h.2.1⟩
theorem half_tab : ∀ n : Nat, n < 61 → ((1152921504606846976 : Int64) >>> ((Int32.ofNat n + 1).toInt64 &&& 63)).toInt = if n < 60 then 2 ^ (59 - n) else 0 := by decide +kernel
theorem half_at {d : Int32} {i : Nat} (h0 : 0 ≤ d.toInt) (h : d.toInt + i = 60) : ((1152921504606846976 : Int64) >>> ((d + (1 : Int32)).toInt64 &&& 63)).toInt = if 0 < i then 2 ^ (i - 1) else 0 := by
  have e : d = Int32.ofNat d.toInt.toNat := i_of_toInt (by omega) (by omega)
  have h2 := half_tab d.toInt.toNat (by omega)
  rw [← e] at h2
  rw [h2]
  by_cases c : 0 < i
  · rw [if_pos (by omega), if_pos c, show 59 - d.toInt.toNat = i - 1 by omega]
  · rw [if_neg (by omega), if_neg c]
theorem r_197 {X : dm_Mem} {q : rS} {M : dm_Mem} (hM : Rm X q M) (p : Int32) : hT 1 197 [.ref 68, .int p] M (fun r M' => r = none ∧ ∃ x : Int32, ((q.1 66).toInt = -1 → x = p) ∧ (¬ (q.1 66).toInt = -1 → x = q.1 66) ∧ Rm X (sF q 66 x) M') := by
  refine hx (t := cd_197) rfl (Nat.le_of_ble_eq_true rfl) (lv := [(0, .ref 68), (1, .int p)]) rfl ?_
  refine hs (f := dm_ald 1 0) rfl rfl ?_
  refine r_geti (q.1 66) rfl hM rfl rfl ?_
  refine hs (f := dm_push 5 (.int (-1))) rfl rfl ?_
  refine g_ic_ne (n := 8) (tt := 13) rfl (fun h1 => ?_) (fun h1 => ?_)
  · skip
    have h1 : ¬ (q.1 66).toInt = (-1) := h1
    exact hr (f := dm_vret) rfl rfl (⟨rfl, q.1 66, fun z => absurd z (by omega), fun _ => rfl, rm_to (q' := sF q 66 (q.1 66)) hM (sF_id rfl)⟩)
  · skip
    have h1 : (q.1 66).toInt = (-1) := h1
    refine hs (f := dm_ald 9 0) rfl rfl ?_
    refine hs (f := dm_ild 10 1) rfl rfl ?_
    refine r_puti rfl hM rfl (fun M2 hM2 => ?_)
    replace hM2 := rm_to (q' := (sF q 66 p)) hM2 (show sF q 66 p = (sF q 66 p) from (show sF q 66 p = (sF q 66 p) from rfl))
    exact hr (f := dm_vret) rfl rfl (⟨rfl, p, fun _ => rfl, fun z => absurd (by omega) z, hM2⟩)
theorem r_198 {X : dm_Mem} {q : rS} {M : dm_Mem} (hM : Rm X q M) (hB : 0 ≤ (q.1 65).toInt ∧ (q.1 65).toInt ≤ (q.1 36).toInt ∧ (q.1 36).toInt ≤ 600) : hT 2 198 [.ref 68] M (fun r M' => ∃ v t x : Int32, r = some (.int v) ∧ (0 ≤ v.toInt ∧ v.toInt ≤ 1) ∧ ((q.1 65).toInt ≤ t.toInt ∧ t.toInt ≤ (q.1 36).toInt) ∧ (x.toInt = -1 → (q.1 66).toInt = -1 ∧ t.toInt = (q.1 65).toInt + 1) ∧ (v.toInt = 1 → x.toInt = -1) ∧ Rm X (sF (sF q 65 t) 66 x) M') := by
  refine hx (t := cd_198) rfl (Nat.le_of_ble_eq_true rfl) (lv := [(0, .ref 68)]) rfl ?_
  refine hs (f := dm_ald 1 0) rfl rfl ?_
  refine r_geti (q.1 66) rfl hM rfl rfl ?_
  refine hs (f := dm_push 5 (.int (-1))) rfl rfl ?_
  refine g_ic_eq (n := 8) (tt := 10) rfl (fun h1 => ?_) (fun h1 => ?_)
  · skip
    have h1 : (q.1 66).toInt = (-1) := h1
    refine hs (f := dm_ald 11 0) rfl rfl ?_
    refine r_geti (q.1 65) rfl hM rfl rfl ?_
    refine hs (f := dm_ald 15 0) rfl rfl ?_
    refine r_geti (q.1 36) rfl hM rfl rfl ?_
    refine g_ic_ne (n := 21) (tt := 31) rfl (fun h2 => ?_) (fun h2 => ?_)
    · skip
      have h2 : ¬ (q.1 65).toInt = (q.1 36).toInt := h2
      refine hs (f := dm_ald 32 0) rfl rfl ?_
      refine hs (f := dm_dup 33) (st' := [.ref 68, .ref 68]) rfl rfl ?_
      refine r_geti (q.1 65) rfl hM rfl rfl ?_
      refine hs (f := dm_push 37 (.int 1)) rfl rfl ?_
      have e3 : ((q.1 65) + (1 : Int32)).toInt = (q.1 65).toInt + 1 := by have w := i_addc (x := (q.1 65)) (y := (1 : Int32)) 1 rfl (by omega) (by omega); omega
      refine hs (f := dm_ii 38 (fun x y => x + y)) (st' := [.int ((q.1 65) + (1 : Int32)), .ref 68]) rfl rfl ?_
      refine r_puti rfl hM rfl (fun M4 hM4 => ?_)
      replace hM4 := rm_to (q' := (sF q 65 ((q.1 65) + (1 : Int32)))) hM4 (show sF q 65 ((q.1 65) + (1 : Int32)) = (sF q 65 ((q.1 65) + (1 : Int32))) from (show sF q 65 ((q.1 65) + (1 : Int32)) = (sF q 65 ((q.1 65) + (1 : Int32))) from rfl))
      refine hs (f := dm_ald 42 0) rfl rfl ?_
      refine r_geta (c := 95) rfl hM4 rfl ?_
      refine hs (f := dm_ald 46 0) rfl rfl ?_
      refine r_geti ((q.1 65) + (1 : Int32)) rfl hM4 rfl rfl ?_
      refine hs (f := dm_push 50 (.int 1)) rfl rfl ?_
      have e5 : (((q.1 65) + (1 : Int32)) - (1 : Int32)).toInt = ((q.1 65) + (1 : Int32)).toInt - 1 := by have w := i_subc (x := ((q.1 65) + (1 : Int32))) (y := (1 : Int32)) 1 rfl (by omega) (by omega); omega
      refine hs (f := dm_ii 51 (fun x y => x - y)) (st' := [.int (((q.1 65) + (1 : Int32)) - (1 : Int32)), .ref 98]) rfl rfl ?_
      refine r_zald (L := 600) (i := (((q.1 65) + (1 : Int32)) - (1 : Int32))) ((q.2.2.1 98) (((q.1 65) + (1 : Int32)) - (1 : Int32)).toInt.toNat) rfl hM4 rfl (by omega) rfl ?_
      refine g_if_eq (n := 55) (tt := 59) rfl (fun h6 => ?_) (fun h6 => ?_)
      · skip
        have h6 : ((q.2.2.1 98) (((q.1 65) + (1 : Int32)) - (1 : Int32)).toInt.toNat).toInt = 0 := h6
        refine hs (f := dm_push 60 (.int 0)) rfl rfl ?_
        exact hr (f := dm_ret .int) rfl rfl (⟨_, ((q.1 65) + (1 : Int32)), q.1 66, rfl, by decide, by omega, fun _ => by omega, fun _ => by omega, rm_to (q' := sF (sF q 65 ((q.1 65) + (1 : Int32))) 66 (q.1 66)) hM4 (sF_id rfl)⟩)
      · skip
        have h6 : ¬ ((q.2.2.1 98) (((q.1 65) + (1 : Int32)) - (1 : Int32)).toInt.toNat).toInt = 0 := h6
        refine hs (f := dm_push 56 (.int 1)) rfl rfl ?_
        refine hs (f := dm_goto 60) rfl rfl ?_
        exact hr (f := dm_ret .int) rfl rfl (⟨_, ((q.1 65) + (1 : Int32)), q.1 66, rfl, by decide, by omega, fun _ => by omega, fun _ => by omega, rm_to (q' := sF (sF q 65 ((q.1 65) + (1 : Int32))) 66 (q.1 66)) hM4 (sF_id rfl)⟩)
    · skip
      have h2 : (q.1 65).toInt = (q.1 36).toInt := h2
      refine hs (f := dm_ald 22 0) rfl rfl ?_
      refine hs (f := dm_ald 23 0) rfl rfl ?_
      refine r_geti (q.1 36) rfl hM rfl rfl ?_
      refine r_inv rfl hM rfl (as := [.ref 68, .int (q.1 36)]) rfl (Nat.le_of_ble_eq_true rfl) (hT_mono (by first | decide | omega) (show hT 1 197 [.ref 68, .int (q.1 36)] _ (fun r M' => r = none ∧ ∃ x8 : Int32, ((q.1 66).toInt = -1 → x8 = (q.1 36)) ∧ (¬ (q.1 66).toInt = -1 → x8 = (q.1 66)) ∧ Rm X (sF q 66 x8) M') from r_197 hM (q.1 36)) (fun r1 M7 w => ?_))
      obtain ⟨rfl, xu8, pu8, nu8, hM7⟩ := w
      have piu8 : (q.1 66).toInt = -1 → xu8.toInt = (q.1 36).toInt := fun z => by rw [pu8 z]
      have niu8 : ¬ (q.1 66).toInt = -1 → xu8.toInt = (q.1 66).toInt := fun z => by rw [nu8 z]
      replace hM7 := rm_to (q' := (sF q 66 xu8)) hM7 (show sF q 66 xu8 = (sF q 66 xu8) from (show sF q 66 xu8 = (sF q 66 xu8) from rfl))
      refine hs (f := dm_push 30 (.int 0)) rfl rfl ?_
      exact hr (f := dm_ret .int) rfl rfl (⟨_, q.1 65, xu8, rfl, by decide, by omega, fun z => by omega, fun z => absurd z (by decide), rm_to (q' := sF (sF q 65 (q.1 65)) 66 xu8) hM7 (congrArg (fun z => sF z 66 xu8) (sF_id rfl))⟩)
  · skip
    have h1 : ¬ (q.1 66).toInt = (-1) := h1
    refine hs (f := dm_push 9 (.int 0)) rfl rfl ?_
    exact hr (f := dm_ret .int) rfl rfl (⟨_, q.1 65, q.1 66, rfl, by decide, by omega, fun z => by omega, fun z => absurd z (by decide), rm_to (q' := sF (sF q 65 (q.1 65)) 66 (q.1 66)) hM (Eq.trans (sF_id (q := q) (k := 65) rfl) (sF_id rfl))⟩)
theorem r_199 {X : dm_Mem} {q : rS} {M : dm_Mem} (hM : Rm X q M) (hB : 0 ≤ (q.1 65).toInt ∧ (q.1 65).toInt ≤ (q.1 36).toInt ∧ (q.1 36).toInt ≤ 600) : hT 3 199 [.ref 68] M (fun r M' => ∃ v t x : Int32, r = some (.int v) ∧ ((q.1 65).toInt ≤ t.toInt ∧ t.toInt ≤ (q.1 36).toInt) ∧ (x.toInt = -1 → (q.1 66).toInt = -1) ∧ Rm X (sF (sF q 65 t) 66 x) M') := by
  have j4 : ∀ (nn : Nat), (∀ (b n t x : Int32) (M : dm_Mem), Rm X (sF (sF q 65 t) 66 x) M → (2 ≤ b.toInt ∧ b.toInt ≤ 2 + t.toInt) → ((q.1 65).toInt ≤ t.toInt ∧ t.toInt ≤ (q.1 36).toInt) → (x.toInt = -1 → (q.1 66).toInt = -1) → ((q.1 36).toInt - t.toInt).toNat = nn → hG 2 cd_199 4 [(2, .int n), (1, .int b), (0, .ref 68)] [] M (fun r M' => ∃ v t x : Int32, r = some (.int v) ∧ ((q.1 65).toInt ≤ t.toInt ∧ t.toInt ≤ (q.1 36).toInt) ∧ (x.toInt = -1 → (q.1 66).toInt = -1) ∧ Rm X (sF (sF q 65 t) 66 x) M')) ∧ (∀ (b n t x : Int32) (M : dm_Mem), Rm X (sF (sF q 65 t) 66 x) M → (2 ≤ b.toInt ∧ b.toInt ≤ 2 + t.toInt) → ((q.1 65).toInt ≤ t.toInt ∧ t.toInt ≤ (q.1 36).toInt) → (x.toInt = -1 → (q.1 66).toInt = -1) → ((q.1 36).toInt - t.toInt).toNat = nn → hG 2 cd_199 4 [(1, .int b), (2, .int n), (0, .ref 68)] [] M (fun r M' => ∃ v t x : Int32, r = some (.int v) ∧ ((q.1 65).toInt ≤ t.toInt ∧ t.toInt ≤ (q.1 36).toInt) ∧ (x.toInt = -1 → (q.1 66).toInt = -1) ∧ Rm X (sF (sF q 65 t) 66 x) M')) := by
    intro nn
    induction nn using Nat.strongRecOn with
    | ind nn IH =>
      refine ⟨?_, ?_⟩
      · skip
        intro b n t x M hM b0 tb xb hms
        refine hs (f := dm_ald 5 0) rfl rfl ?_
        refine r_geti x rfl hM rfl rfl ?_
        refine hs (f := dm_push 9 (.int (-1))) rfl rfl ?_
        refine g_ic_ne (n := 12) (tt := 48) rfl (fun h1 => ?_) (fun h1 => ?_)
        · skip
          have h1 : ¬ x.toInt = (-1) := h1
          have tb9 : (q.1 65).toInt ≤ t.toInt ∧ t.toInt ≤ (q.1 36).toInt := by omega
          have xb9 : x.toInt = -1 → (q.1 66).toInt = -1 := by intro z; omega
          have j53 : ∀ (nn : Nat), ∀ (v k t x : Int32) (M : dm_Mem), Rm X (sF (sF q 65 t) 66 x) M → (0 ≤ k.toInt) → ((q.1 65).toInt ≤ t.toInt ∧ t.toInt ≤ (q.1 36).toInt) → (x.toInt = -1 → (q.1 66).toInt = -1) → (b.toInt - k.toInt).toNat = nn → hG 2 cd_199 53 [(4, .int k), (3, .int v), (2, .int n), (1, .int b), (0, .ref 68)] [] M (fun r M' => ∃ v t x : Int32, r = some (.int v) ∧ ((q.1 65).toInt ≤ t.toInt ∧ t.toInt ≤ (q.1 36).toInt) ∧ (x.toInt = -1 → (q.1 66).toInt = -1) ∧ Rm X (sF (sF q 65 t) 66 x) M') := by
            intro nn
            induction nn using Nat.strongRecOn with
            | ind nn IH =>
              intro v k t x M hM k0 tb xb hms
              refine hs (f := dm_ild 55 4) rfl rfl ?_
              refine hs (f := dm_ild 56 1) rfl rfl ?_
              refine g_ic_ge (n := 59) (tt := 82) rfl (fun h2 => ?_) (fun h2 => ?_)
              · skip
                have h2 : k.toInt ≥ b.toInt := h2
                refine hs (f := dm_ild 83 2) rfl rfl ?_
                refine hs (f := dm_ild 84 3) rfl rfl ?_
                refine hs (f := dm_ii 85 (fun x y => x + y)) (st' := [.int (n + v)]) rfl rfl ?_
                exact hr (f := dm_ret .int) rfl rfl (⟨_, t, x, rfl, by omega, xb, hM⟩)
              · skip
                have h2 : k.toInt < b.toInt := h2
                refine hs (f := dm_ald 60 0) rfl rfl ?_
                refine r_geti x rfl hM rfl rfl ?_
                refine hs (f := dm_push 64 (.int (-1))) rfl rfl ?_
                refine g_ic_ne (n := 67) (tt := 82) rfl (fun h3 => ?_) (fun h3 => ?_)
                · skip
                  have h3 : ¬ x.toInt = (-1) := h3
                  refine hs (f := dm_ild 83 2) rfl rfl ?_
                  refine hs (f := dm_ild 84 3) rfl rfl ?_
                  refine hs (f := dm_ii 85 (fun x y => x + y)) (st' := [.int (n + v)]) rfl rfl ?_
                  exact hr (f := dm_ret .int) rfl rfl (⟨_, t, x, rfl, by omega, xb, hM⟩)
                · skip
                  have h3 : x.toInt = (-1) := h3
                  refine hs (f := dm_push 68 (.int 2)) rfl rfl ?_
                  refine hs (f := dm_ild 69 3) rfl rfl ?_
                  refine hs (f := dm_ii 70 (fun x y => x * y)) (st' := [.int ((2 : Int32) * v)]) rfl rfl ?_
                  refine hs (f := dm_ald 71 0) rfl rfl ?_
                  refine r_inv rfl hM rfl (as := [.ref 68]) rfl (Nat.le_of_ble_eq_true rfl) (hT_mono (by first | decide | omega) (show hT 2 198 [.ref 68] _ (fun r M' => ∃ v8 t8 x8 : Int32, r = some (.int v8) ∧ (0 ≤ v8.toInt ∧ v8.toInt ≤ 1) ∧ (t.toInt ≤ t8.toInt ∧ t8.toInt ≤ (q.1 36).toInt) ∧ (x8.toInt = -1 → x.toInt = -1 ∧ t8.toInt = t.toInt + 1) ∧ (v8.toInt = 1 → x8.toInt = -1) ∧ Rm X (sF (sF (sF (sF q 65 t) 66 x) 65 t8) 66 x8) M') from r_198 hM (show 0 ≤ t.toInt ∧ t.toInt ≤ (q.1 36).toInt ∧ (q.1 36).toInt ≤ 600 by omega)) (fun r1 M4 w => ?_))
                  obtain ⟨vu5, tu5, xu5, rfl, vbu5, tbu5, xbu5, vxu5, hM4⟩ := w
                  replace hM4 := rm_to (q' := (sF (sF q 65 tu5) 66 xu5)) hM4 (Eq.trans (congrArg (fun z => sF z 66 xu5) (show sF (sF (sF q 65 t) 66 x) 65 tu5 = (sF (sF q 65 tu5) 66 x) from (show sF (sF (sF q 65 t) 66 x) 65 tu5 = (sF (sF q 65 tu5) 66 x) from Eq.trans (show sF (sF (sF q 65 t) 66 x) 65 tu5 = sF (sF (sF q 65 t) 65 tu5) 66 x from sF_cm (by decide)) (congrArg (fun z => sF z 66 x) (show sF (sF q 65 t) 65 tu5 = (sF q 65 tu5) from sF_sF))))) (show sF (sF (sF q 65 tu5) 66 x) 66 xu5 = (sF (sF q 65 tu5) 66 xu5) from (show sF (sF (sF q 65 tu5) 66 x) 66 xu5 = (sF (sF q 65 tu5) 66 xu5) from sF_sF)))
                  refine hs (f := dm_ii 75 (fun x y => x + y)) (st' := [.int (((2 : Int32) * v) + vu5)]) rfl rfl ?_
                  refine hs (f := dm_ist 76 3) (lv' := [(3, .int (((2 : Int32) * v) + vu5)), (4, .int k), (2, .int n), (1, .int b), (0, .ref 68)]) rfl rfl ?_
                  have e6 : (k + 1).toInt = k.toInt + 1 := by have w := i_addc (x := k) (y := 1) 1 rfl (by omega) (by omega); omega
                  refine hs (f := dm_iinc 79 4 1) (lv' := [(4, .int (k + 1)), (3, .int (((2 : Int32) * v) + vu5)), (2, .int n), (1, .int b), (0, .ref 68)]) rfl rfl ?_
                  refine hs (f := dm_goto 53) rfl rfl ?_
                  exact (IH _ (by omega)) (((2 : Int32) * v) + vu5) (k + 1) tu5 xu5 _ hM4 (by omega) (by omega) (by intro z; omega) rfl
          refine hs (f := dm_push 49 (.int 0)) rfl rfl ?_
          refine hs (f := dm_ist 50 3) (lv' := [(3, .int 0), (2, .int n), (1, .int b), (0, .ref 68)]) rfl rfl ?_
          refine hs (f := dm_push 51 (.int 0)) rfl rfl ?_
          refine hs (f := dm_ist 53 4) (lv' := [(4, .int 0), (3, .int 0), (2, .int n), (1, .int b), (0, .ref 68)]) rfl rfl ?_
          exact (j53 _) 0 0 t x _ hM (by show (0 : Int) ≤ 0; decide) tb9 xb9 rfl
        · skip
          have h1 : x.toInt = (-1) := h1
          refine hs (f := dm_ald 13 0) rfl rfl ?_
          refine r_inv rfl hM rfl (as := [.ref 68]) rfl (Nat.le_of_ble_eq_true rfl) (hT_mono (by first | decide | omega) (show hT 2 198 [.ref 68] _ (fun r M' => ∃ v8 t8 x8 : Int32, r = some (.int v8) ∧ (0 ≤ v8.toInt ∧ v8.toInt ≤ 1) ∧ (t.toInt ≤ t8.toInt ∧ t8.toInt ≤ (q.1 36).toInt) ∧ (x8.toInt = -1 → x.toInt = -1 ∧ t8.toInt = t.toInt + 1) ∧ (v8.toInt = 1 → x8.toInt = -1) ∧ Rm X (sF (sF (sF (sF q 65 t) 66 x) 65 t8) 66 x8) M') from r_198 hM (show 0 ≤ t.toInt ∧ t.toInt ≤ (q.1 36).toInt ∧ (q.1 36).toInt ≤ 600 by omega)) (fun r1 M7 w => ?_))
          obtain ⟨vu8, tu8, xu8, rfl, vbu8, tbu8, xbu8, vxu8, hM7⟩ := w
          replace hM7 := rm_to (q' := (sF (sF q 65 tu8) 66 xu8)) hM7 (Eq.trans (congrArg (fun z => sF z 66 xu8) (show sF (sF (sF q 65 t) 66 x) 65 tu8 = (sF (sF q 65 tu8) 66 x) from (show sF (sF (sF q 65 t) 66 x) 65 tu8 = (sF (sF q 65 tu8) 66 x) from Eq.trans (show sF (sF (sF q 65 t) 66 x) 65 tu8 = sF (sF (sF q 65 t) 65 tu8) 66 x from sF_cm (by decide)) (congrArg (fun z => sF z 66 x) (show sF (sF q 65 t) 65 tu8 = (sF q 65 tu8) from sF_sF))))) (show sF (sF (sF q 65 tu8) 66 x) 66 xu8 = (sF (sF q 65 tu8) 66 xu8) from (show sF (sF (sF q 65 tu8) 66 x) 66 xu8 = (sF (sF q 65 tu8) 66 xu8) from sF_sF)))
          refine hs (f := dm_push 17 (.int 1)) rfl rfl ?_
          refine g_ic_ne (n := 20) (tt := 48) rfl (fun h9 => ?_) (fun h9 => ?_)
          · skip
            have h9 : ¬ vu8.toInt = 1 := h9
            have tb9 : (q.1 65).toInt ≤ tu8.toInt ∧ tu8.toInt ≤ (q.1 36).toInt := by omega
            have xb9 : xu8.toInt = -1 → (q.1 66).toInt = -1 := by intro z; omega
            have j53 : ∀ (nn : Nat), ∀ (v k t x : Int32) (M : dm_Mem), Rm X (sF (sF q 65 t) 66 x) M → (0 ≤ k.toInt) → ((q.1 65).toInt ≤ t.toInt ∧ t.toInt ≤ (q.1 36).toInt) → (x.toInt = -1 → (q.1 66).toInt = -1) → (b.toInt - k.toInt).toNat = nn → hG 2 cd_199 53 [(4, .int k), (3, .int v), (2, .int n), (1, .int b), (0, .ref 68)] [] M (fun r M' => ∃ v t x : Int32, r = some (.int v) ∧ ((q.1 65).toInt ≤ t.toInt ∧ t.toInt ≤ (q.1 36).toInt) ∧ (x.toInt = -1 → (q.1 66).toInt = -1) ∧ Rm X (sF (sF q 65 t) 66 x) M') := by
              intro nn
              induction nn using Nat.strongRecOn with
              | ind nn IH =>
                intro v k t x M hM k0 tb xb hms
                refine hs (f := dm_ild 55 4) rfl rfl ?_
                refine hs (f := dm_ild 56 1) rfl rfl ?_
                refine g_ic_ge (n := 59) (tt := 82) rfl (fun h10 => ?_) (fun h10 => ?_)
                · skip
                  have h10 : k.toInt ≥ b.toInt := h10
                  refine hs (f := dm_ild 83 2) rfl rfl ?_
                  refine hs (f := dm_ild 84 3) rfl rfl ?_
                  refine hs (f := dm_ii 85 (fun x y => x + y)) (st' := [.int (n + v)]) rfl rfl ?_
                  exact hr (f := dm_ret .int) rfl rfl (⟨_, t, x, rfl, by omega, xb, hM⟩)
                · skip
                  have h10 : k.toInt < b.toInt := h10
                  refine hs (f := dm_ald 60 0) rfl rfl ?_
                  refine r_geti x rfl hM rfl rfl ?_
                  refine hs (f := dm_push 64 (.int (-1))) rfl rfl ?_
                  refine g_ic_ne (n := 67) (tt := 82) rfl (fun h11 => ?_) (fun h11 => ?_)
                  · skip
                    have h11 : ¬ x.toInt = (-1) := h11
                    refine hs (f := dm_ild 83 2) rfl rfl ?_
                    refine hs (f := dm_ild 84 3) rfl rfl ?_
                    refine hs (f := dm_ii 85 (fun x y => x + y)) (st' := [.int (n + v)]) rfl rfl ?_
                    exact hr (f := dm_ret .int) rfl rfl (⟨_, t, x, rfl, by omega, xb, hM⟩)
                  · skip
                    have h11 : x.toInt = (-1) := h11
                    refine hs (f := dm_push 68 (.int 2)) rfl rfl ?_
                    refine hs (f := dm_ild 69 3) rfl rfl ?_
                    refine hs (f := dm_ii 70 (fun x y => x * y)) (st' := [.int ((2 : Int32) * v)]) rfl rfl ?_
                    refine hs (f := dm_ald 71 0) rfl rfl ?_
                    refine r_inv rfl hM rfl (as := [.ref 68]) rfl (Nat.le_of_ble_eq_true rfl) (hT_mono (by first | decide | omega) (show hT 2 198 [.ref 68] _ (fun r M' => ∃ v8 t8 x8 : Int32, r = some (.int v8) ∧ (0 ≤ v8.toInt ∧ v8.toInt ≤ 1) ∧ (t.toInt ≤ t8.toInt ∧ t8.toInt ≤ (q.1 36).toInt) ∧ (x8.toInt = -1 → x.toInt = -1 ∧ t8.toInt = t.toInt + 1) ∧ (v8.toInt = 1 → x8.toInt = -1) ∧ Rm X (sF (sF (sF (sF q 65 t) 66 x) 65 t8) 66 x8) M') from r_198 hM (show 0 ≤ t.toInt ∧ t.toInt ≤ (q.1 36).toInt ∧ (q.1 36).toInt ≤ 600 by omega)) (fun r1 M12 w => ?_))
                    obtain ⟨vu13, tu13, xu13, rfl, vbu13, tbu13, xbu13, vxu13, hM12⟩ := w
                    replace hM12 := rm_to (q' := (sF (sF q 65 tu13) 66 xu13)) hM12 (Eq.trans (congrArg (fun z => sF z 66 xu13) (show sF (sF (sF q 65 t) 66 x) 65 tu13 = (sF (sF q 65 tu13) 66 x) from (show sF (sF (sF q 65 t) 66 x) 65 tu13 = (sF (sF q 65 tu13) 66 x) from Eq.trans (show sF (sF (sF q 65 t) 66 x) 65 tu13 = sF (sF (sF q 65 t) 65 tu13) 66 x from sF_cm (by decide)) (congrArg (fun z => sF z 66 x) (show sF (sF q 65 t) 65 tu13 = (sF q 65 tu13) from sF_sF))))) (show sF (sF (sF q 65 tu13) 66 x) 66 xu13 = (sF (sF q 65 tu13) 66 xu13) from (show sF (sF (sF q 65 tu13) 66 x) 66 xu13 = (sF (sF q 65 tu13) 66 xu13) from sF_sF)))
                    refine hs (f := dm_ii 75 (fun x y => x + y)) (st' := [.int (((2 : Int32) * v) + vu13)]) rfl rfl ?_
                    refine hs (f := dm_ist 76 3) (lv' := [(3, .int (((2 : Int32) * v) + vu13)), (4, .int k), (2, .int n), (1, .int b), (0, .ref 68)]) rfl rfl ?_
                    have e14 : (k + 1).toInt = k.toInt + 1 := by have w := i_addc (x := k) (y := 1) 1 rfl (by omega) (by omega); omega
                    refine hs (f := dm_iinc 79 4 1) (lv' := [(4, .int (k + 1)), (3, .int (((2 : Int32) * v) + vu13)), (2, .int n), (1, .int b), (0, .ref 68)]) rfl rfl ?_
                    refine hs (f := dm_goto 53) rfl rfl ?_
                    exact (IH _ (by omega)) (((2 : Int32) * v) + vu13) (k + 1) tu13 xu13 _ hM12 (by omega) (by omega) (by intro z; omega) rfl
            refine hs (f := dm_push 49 (.int 0)) rfl rfl ?_
            refine hs (f := dm_ist 50 3) (lv' := [(3, .int 0), (2, .int n), (1, .int b), (0, .ref 68)]) rfl rfl ?_
            refine hs (f := dm_push 51 (.int 0)) rfl rfl ?_
            refine hs (f := dm_ist 53 4) (lv' := [(4, .int 0), (3, .int 0), (2, .int n), (1, .int b), (0, .ref 68)]) rfl rfl ?_
            exact (j53 _) 0 0 tu8 xu8 _ hM7 (by show (0 : Int) ≤ 0; decide) tb9 xb9 rfl
          · skip
            have h9 : vu8.toInt = 1 := h9
            refine hs (f := dm_ild 21 1) rfl rfl ?_
            refine hs (f := dm_push 23 (.int 20)) rfl rfl ?_
            refine g_ic_ne (n := 26) (tt := 36) rfl (fun h15 => ?_) (fun h15 => ?_)
            · skip
              have h15 : ¬ b.toInt = 20 := h15
              refine hs (f := dm_ild 37 2) rfl rfl ?_
              refine hs (f := dm_push 38 (.int 1)) rfl rfl ?_
              refine hs (f := dm_ild 39 1) rfl rfl ?_
              refine hs (f := dm_ii 40 (fun x y => x <<< (y &&& 31))) (st' := [.int ((1 : Int32) <<< (b &&& 31)), .int n]) rfl rfl ?_
              refine hs (f := dm_ii 41 (fun x y => x + y)) (st' := [.int (n + ((1 : Int32) <<< (b &&& 31)))]) rfl rfl ?_
              refine hs (f := dm_ist 42 2) (lv' := [(2, .int (n + ((1 : Int32) <<< (b &&& 31)))), (1, .int b), (0, .ref 68)]) rfl rfl ?_
              have e16 : (b + 1).toInt = b.toInt + 1 := by have w := i_addc (x := b) (y := 1) 1 rfl (by omega) (by omega); omega
              refine hs (f := dm_iinc 45 1 1) (lv' := [(1, .int (b + 1)), (2, .int (n + ((1 : Int32) <<< (b &&& 31)))), (0, .ref 68)]) rfl rfl ?_
              refine hs (f := dm_goto 4) rfl rfl ?_
              exact (IH _ (by omega)).2 (b + 1) (n + ((1 : Int32) <<< (b &&& 31))) tu8 xu8 _ hM7 (by omega) (by omega) (by intro z; omega) rfl
            · skip
              have h15 : b.toInt = 20 := h15
              refine hs (f := dm_ald 27 0) rfl rfl ?_
              refine hs (f := dm_ald 28 0) rfl rfl ?_
              refine r_geti tu8 rfl hM7 rfl rfl ?_
              refine hs (f := dm_push 32 (.int 1)) rfl rfl ?_
              have e17 : (tu8 - (1 : Int32)).toInt = tu8.toInt - 1 := by have w := i_subc (x := tu8) (y := (1 : Int32)) 1 rfl (by omega) (by omega); omega
              refine hs (f := dm_ii 33 (fun x y => x - y)) (st' := [.int (tu8 - (1 : Int32)), .ref 68]) rfl rfl ?_
              refine r_inv rfl hM7 rfl (as := [.ref 68, .int (tu8 - (1 : Int32))]) rfl (Nat.le_of_ble_eq_true rfl) (hT_mono (by first | decide | omega) (show hT 1 197 [.ref 68, .int (tu8 - (1 : Int32))] _ (fun r M' => r = none ∧ ∃ x8 : Int32, (xu8.toInt = -1 → x8 = (tu8 - (1 : Int32))) ∧ (¬ xu8.toInt = -1 → x8 = xu8) ∧ Rm X (sF (sF (sF q 65 tu8) 66 xu8) 66 x8) M') from r_197 hM7 (tu8 - (1 : Int32))) (fun r1 M18 w => ?_))
              obtain ⟨rfl, xu19, pu19, nu19, hM18⟩ := w
              have piu19 : xu8.toInt = -1 → xu19.toInt = tu8.toInt - 1 := fun z => by rw [pu19 z]; exact e17
              have niu19 : ¬ xu8.toInt = -1 → xu19.toInt = xu8.toInt := fun z => by rw [nu19 z]
              replace hM18 := rm_to (q' := (sF (sF q 65 tu8) 66 xu19)) hM18 (show sF (sF (sF q 65 tu8) 66 xu8) 66 xu19 = (sF (sF q 65 tu8) 66 xu19) from (show sF (sF (sF q 65 tu8) 66 xu8) 66 xu19 = (sF (sF q 65 tu8) 66 xu19) from sF_sF))
              refine hs (f := dm_ild 37 2) rfl rfl ?_
              refine hs (f := dm_push 38 (.int 1)) rfl rfl ?_
              refine hs (f := dm_ild 39 1) rfl rfl ?_
              refine hs (f := dm_ii 40 (fun x y => x <<< (y &&& 31))) (st' := [.int ((1 : Int32) <<< (b &&& 31)), .int n]) rfl rfl ?_
              refine hs (f := dm_ii 41 (fun x y => x + y)) (st' := [.int (n + ((1 : Int32) <<< (b &&& 31)))]) rfl rfl ?_
              refine hs (f := dm_ist 42 2) (lv' := [(2, .int (n + ((1 : Int32) <<< (b &&& 31)))), (1, .int b), (0, .ref 68)]) rfl rfl ?_
              have e20 : (b + 1).toInt = b.toInt + 1 := by have w := i_addc (x := b) (y := 1) 1 rfl (by omega) (by omega); omega
              refine hs (f := dm_iinc 45 1 1) (lv' := [(1, .int (b + 1)), (2, .int (n + ((1 : Int32) <<< (b &&& 31)))), (0, .ref 68)]) rfl rfl ?_
              refine hs (f := dm_goto 4) rfl rfl ?_
              exact (IH _ (by omega)).2 (b + 1) (n + ((1 : Int32) <<< (b &&& 31))) tu8 xu19 _ hM18 (by omega) (by omega) (by intro z; omega) rfl
      · skip
        intro b n t x M hM b0 tb xb hms
        refine hs (f := dm_ald 5 0) rfl rfl ?_
        refine r_geti x rfl hM rfl rfl ?_
        refine hs (f := dm_push 9 (.int (-1))) rfl rfl ?_
        refine g_ic_ne (n := 12) (tt := 48) rfl (fun h21 => ?_) (fun h21 => ?_)
        · skip
          have h21 : ¬ x.toInt = (-1) := h21
          have tb9 : (q.1 65).toInt ≤ t.toInt ∧ t.toInt ≤ (q.1 36).toInt := by omega
          have xb9 : x.toInt = -1 → (q.1 66).toInt = -1 := by intro z; omega
          have j53 : ∀ (nn : Nat), ∀ (v k t x : Int32) (M : dm_Mem), Rm X (sF (sF q 65 t) 66 x) M → (0 ≤ k.toInt) → ((q.1 65).toInt ≤ t.toInt ∧ t.toInt ≤ (q.1 36).toInt) → (x.toInt = -1 → (q.1 66).toInt = -1) → (b.toInt - k.toInt).toNat = nn → hG 2 cd_199 53 [(4, .int k), (3, .int v), (1, .int b), (2, .int n), (0, .ref 68)] [] M (fun r M' => ∃ v t x : Int32, r = some (.int v) ∧ ((q.1 65).toInt ≤ t.toInt ∧ t.toInt ≤ (q.1 36).toInt) ∧ (x.toInt = -1 → (q.1 66).toInt = -1) ∧ Rm X (sF (sF q 65 t) 66 x) M') := by
            intro nn
            induction nn using Nat.strongRecOn with
            | ind nn IH =>
              intro v k t x M hM k0 tb xb hms
              refine hs (f := dm_ild 55 4) rfl rfl ?_
              refine hs (f := dm_ild 56 1) rfl rfl ?_
              refine g_ic_ge (n := 59) (tt := 82) rfl (fun h22 => ?_) (fun h22 => ?_)
              · skip
                have h22 : k.toInt ≥ b.toInt := h22
                refine hs (f := dm_ild 83 2) rfl rfl ?_
                refine hs (f := dm_ild 84 3) rfl rfl ?_
                refine hs (f := dm_ii 85 (fun x y => x + y)) (st' := [.int (n + v)]) rfl rfl ?_
                exact hr (f := dm_ret .int) rfl rfl (⟨_, t, x, rfl, by omega, xb, hM⟩)
              · skip
                have h22 : k.toInt < b.toInt := h22
                refine hs (f := dm_ald 60 0) rfl rfl ?_
                refine r_geti x rfl hM rfl rfl ?_
                refine hs (f := dm_push 64 (.int (-1))) rfl rfl ?_
                refine g_ic_ne (n := 67) (tt := 82) rfl (fun h23 => ?_) (fun h23 => ?_)
                · skip
                  have h23 : ¬ x.toInt = (-1) := h23
                  refine hs (f := dm_ild 83 2) rfl rfl ?_
                  refine hs (f := dm_ild 84 3) rfl rfl ?_
                  refine hs (f := dm_ii 85 (fun x y => x + y)) (st' := [.int (n + v)]) rfl rfl ?_
                  exact hr (f := dm_ret .int) rfl rfl (⟨_, t, x, rfl, by omega, xb, hM⟩)
                · skip
                  have h23 : x.toInt = (-1) := h23
                  refine hs (f := dm_push 68 (.int 2)) rfl rfl ?_
                  refine hs (f := dm_ild 69 3) rfl rfl ?_
                  refine hs (f := dm_ii 70 (fun x y => x * y)) (st' := [.int ((2 : Int32) * v)]) rfl rfl ?_
                  refine hs (f := dm_ald 71 0) rfl rfl ?_
                  refine r_inv rfl hM rfl (as := [.ref 68]) rfl (Nat.le_of_ble_eq_true rfl) (hT_mono (by first | decide | omega) (show hT 2 198 [.ref 68] _ (fun r M' => ∃ v8 t8 x8 : Int32, r = some (.int v8) ∧ (0 ≤ v8.toInt ∧ v8.toInt ≤ 1) ∧ (t.toInt ≤ t8.toInt ∧ t8.toInt ≤ (q.1 36).toInt) ∧ (x8.toInt = -1 → x.toInt = -1 ∧ t8.toInt = t.toInt + 1) ∧ (v8.toInt = 1 → x8.toInt = -1) ∧ Rm X (sF (sF (sF (sF q 65 t) 66 x) 65 t8) 66 x8) M') from r_198 hM (show 0 ≤ t.toInt ∧ t.toInt ≤ (q.1 36).toInt ∧ (q.1 36).toInt ≤ 600 by omega)) (fun r1 M24 w => ?_))
                  obtain ⟨vu25, tu25, xu25, rfl, vbu25, tbu25, xbu25, vxu25, hM24⟩ := w
                  replace hM24 := rm_to (q' := (sF (sF q 65 tu25) 66 xu25)) hM24 (Eq.trans (congrArg (fun z => sF z 66 xu25) (show sF (sF (sF q 65 t) 66 x) 65 tu25 = (sF (sF q 65 tu25) 66 x) from (show sF (sF (sF q 65 t) 66 x) 65 tu25 = (sF (sF q 65 tu25) 66 x) from Eq.trans (show sF (sF (sF q 65 t) 66 x) 65 tu25 = sF (sF (sF q 65 t) 65 tu25) 66 x from sF_cm (by decide)) (congrArg (fun z => sF z 66 x) (show sF (sF q 65 t) 65 tu25 = (sF q 65 tu25) from sF_sF))))) (show sF (sF (sF q 65 tu25) 66 x) 66 xu25 = (sF (sF q 65 tu25) 66 xu25) from (show sF (sF (sF q 65 tu25) 66 x) 66 xu25 = (sF (sF q 65 tu25) 66 xu25) from sF_sF)))
                  refine hs (f := dm_ii 75 (fun x y => x + y)) (st' := [.int (((2 : Int32) * v) + vu25)]) rfl rfl ?_
                  refine hs (f := dm_ist 76 3) (lv' := [(3, .int (((2 : Int32) * v) + vu25)), (4, .int k), (1, .int b), (2, .int n), (0, .ref 68)]) rfl rfl ?_
                  have e26 : (k + 1).toInt = k.toInt + 1 := by have w := i_addc (x := k) (y := 1) 1 rfl (by omega) (by omega); omega
                  refine hs (f := dm_iinc 79 4 1) (lv' := [(4, .int (k + 1)), (3, .int (((2 : Int32) * v) + vu25)), (1, .int b), (2, .int n), (0, .ref 68)]) rfl rfl ?_
                  refine hs (f := dm_goto 53) rfl rfl ?_
                  exact (IH _ (by omega)) (((2 : Int32) * v) + vu25) (k + 1) tu25 xu25 _ hM24 (by omega) (by omega) (by intro z; omega) rfl
          refine hs (f := dm_push 49 (.int 0)) rfl rfl ?_
          refine hs (f := dm_ist 50 3) (lv' := [(3, .int 0), (1, .int b), (2, .int n), (0, .ref 68)]) rfl rfl ?_
          refine hs (f := dm_push 51 (.int 0)) rfl rfl ?_
          refine hs (f := dm_ist 53 4) (lv' := [(4, .int 0), (3, .int 0), (1, .int b), (2, .int n), (0, .ref 68)]) rfl rfl ?_
          exact (j53 _) 0 0 t x _ hM (by show (0 : Int) ≤ 0; decide) tb9 xb9 rfl
        · skip
          have h21 : x.toInt = (-1) := h21
          refine hs (f := dm_ald 13 0) rfl rfl ?_
          refine r_inv rfl hM rfl (as := [.ref 68]) rfl (Nat.le_of_ble_eq_true rfl) (hT_mono (by first | decide | omega) (show hT 2 198 [.ref 68] _ (fun r M' => ∃ v8 t8 x8 : Int32, r = some (.int v8) ∧ (0 ≤ v8.toInt ∧ v8.toInt ≤ 1) ∧ (t.toInt ≤ t8.toInt ∧ t8.toInt ≤ (q.1 36).toInt) ∧ (x8.toInt = -1 → x.toInt = -1 ∧ t8.toInt = t.toInt + 1) ∧ (v8.toInt = 1 → x8.toInt = -1) ∧ Rm X (sF (sF (sF (sF q 65 t) 66 x) 65 t8) 66 x8) M') from r_198 hM (show 0 ≤ t.toInt ∧ t.toInt ≤ (q.1 36).toInt ∧ (q.1 36).toInt ≤ 600 by omega)) (fun r1 M27 w => ?_))
          obtain ⟨vu28, tu28, xu28, rfl, vbu28, tbu28, xbu28, vxu28, hM27⟩ := w
          replace hM27 := rm_to (q' := (sF (sF q 65 tu28) 66 xu28)) hM27 (Eq.trans (congrArg (fun z => sF z 66 xu28) (show sF (sF (sF q 65 t) 66 x) 65 tu28 = (sF (sF q 65 tu28) 66 x) from (show sF (sF (sF q 65 t) 66 x) 65 tu28 = (sF (sF q 65 tu28) 66 x) from Eq.trans (show sF (sF (sF q 65 t) 66 x) 65 tu28 = sF (sF (sF q 65 t) 65 tu28) 66 x from sF_cm (by decide)) (congrArg (fun z => sF z 66 x) (show sF (sF q 65 t) 65 tu28 = (sF q 65 tu28) from sF_sF))))) (show sF (sF (sF q 65 tu28) 66 x) 66 xu28 = (sF (sF q 65 tu28) 66 xu28) from (show sF (sF (sF q 65 tu28) 66 x) 66 xu28 = (sF (sF q 65 tu28) 66 xu28) from sF_sF)))
          refine hs (f := dm_push 17 (.int 1)) rfl rfl ?_
          refine g_ic_ne (n := 20) (tt := 48) rfl (fun h29 => ?_) (fun h29 => ?_)
          · skip
            have h29 : ¬ vu28.toInt = 1 := h29
            have tb9 : (q.1 65).toInt ≤ tu28.toInt ∧ tu28.toInt ≤ (q.1 36).toInt := by omega
            have xb9 : xu28.toInt = -1 → (q.1 66).toInt = -1 := by intro z; omega
            have j53 : ∀ (nn : Nat), ∀ (v k t x : Int32) (M : dm_Mem), Rm X (sF (sF q 65 t) 66 x) M → (0 ≤ k.toInt) → ((q.1 65).toInt ≤ t.toInt ∧ t.toInt ≤ (q.1 36).toInt) → (x.toInt = -1 → (q.1 66).toInt = -1) → (b.toInt - k.toInt).toNat = nn → hG 2 cd_199 53 [(4, .int k), (3, .int v), (1, .int b), (2, .int n), (0, .ref 68)] [] M (fun r M' => ∃ v t x : Int32, r = some (.int v) ∧ ((q.1 65).toInt ≤ t.toInt ∧ t.toInt ≤ (q.1 36).toInt) ∧ (x.toInt = -1 → (q.1 66).toInt = -1) ∧ Rm X (sF (sF q 65 t) 66 x) M') := by
              intro nn
              induction nn using Nat.strongRecOn with
              | ind nn IH =>
                intro v k t x M hM k0 tb xb hms
                refine hs (f := dm_ild 55 4) rfl rfl ?_
                refine hs (f := dm_ild 56 1) rfl rfl ?_
                refine g_ic_ge (n := 59) (tt := 82) rfl (fun h30 => ?_) (fun h30 => ?_)
                · skip
                  have h30 : k.toInt ≥ b.toInt := h30
                  refine hs (f := dm_ild 83 2) rfl rfl ?_
                  refine hs (f := dm_ild 84 3) rfl rfl ?_
                  refine hs (f := dm_ii 85 (fun x y => x + y)) (st' := [.int (n + v)]) rfl rfl ?_
                  exact hr (f := dm_ret .int) rfl rfl (⟨_, t, x, rfl, by omega, xb, hM⟩)
                · skip
                  have h30 : k.toInt < b.toInt := h30
                  refine hs (f := dm_ald 60 0) rfl rfl ?_
                  refine r_geti x rfl hM rfl rfl ?_
                  refine hs (f := dm_push 64 (.int (-1))) rfl rfl ?_
                  refine g_ic_ne (n := 67) (tt := 82) rfl (fun h31 => ?_) (fun h31 => ?_)
                  · skip
                    have h31 : ¬ x.toInt = (-1) := h31
                    refine hs (f := dm_ild 83 2) rfl rfl ?_
                    refine hs (f := dm_ild 84 3) rfl rfl ?_
                    refine hs (f := dm_ii 85 (fun x y => x + y)) (st' := [.int (n + v)]) rfl rfl ?_
                    exact hr (f := dm_ret .int) rfl rfl (⟨_, t, x, rfl, by omega, xb, hM⟩)
                  · skip
                    have h31 : x.toInt = (-1) := h31
                    refine hs (f := dm_push 68 (.int 2)) rfl rfl ?_
                    refine hs (f := dm_ild 69 3) rfl rfl ?_
                    refine hs (f := dm_ii 70 (fun x y => x * y)) (st' := [.int ((2 : Int32) * v)]) rfl rfl ?_
                    refine hs (f := dm_ald 71 0) rfl rfl ?_
                    refine r_inv rfl hM rfl (as := [.ref 68]) rfl (Nat.le_of_ble_eq_true rfl) (hT_mono (by first | decide | omega) (show hT 2 198 [.ref 68] _ (fun r M' => ∃ v8 t8 x8 : Int32, r = some (.int v8) ∧ (0 ≤ v8.toInt ∧ v8.toInt ≤ 1) ∧ (t.toInt ≤ t8.toInt ∧ t8.toInt ≤ (q.1 36).toInt) ∧ (x8.toInt = -1 → x.toInt = -1 ∧ t8.toInt = t.toInt + 1) ∧ (v8.toInt = 1 → x8.toInt = -1) ∧ Rm X (sF (sF (sF (sF q 65 t) 66 x) 65 t8) 66 x8) M') from r_198 hM (show 0 ≤ t.toInt ∧ t.toInt ≤ (q.1 36).toInt ∧ (q.1 36).toInt ≤ 600 by omega)) (fun r1 M32 w => ?_))
                    obtain ⟨vu33, tu33, xu33, rfl, vbu33, tbu33, xbu33, vxu33, hM32⟩ := w
                    replace hM32 := rm_to (q' := (sF (sF q 65 tu33) 66 xu33)) hM32 (Eq.trans (congrArg (fun z => sF z 66 xu33) (show sF (sF (sF q 65 t) 66 x) 65 tu33 = (sF (sF q 65 tu33) 66 x) from (show sF (sF (sF q 65 t) 66 x) 65 tu33 = (sF (sF q 65 tu33) 66 x) from Eq.trans (show sF (sF (sF q 65 t) 66 x) 65 tu33 = sF (sF (sF q 65 t) 65 tu33) 66 x from sF_cm (by decide)) (congrArg (fun z => sF z 66 x) (show sF (sF q 65 t) 65 tu33 = (sF q 65 tu33) from sF_sF))))) (show sF (sF (sF q 65 tu33) 66 x) 66 xu33 = (sF (sF q 65 tu33) 66 xu33) from (show sF (sF (sF q 65 tu33) 66 x) 66 xu33 = (sF (sF q 65 tu33) 66 xu33) from sF_sF)))
                    refine hs (f := dm_ii 75 (fun x y => x + y)) (st' := [.int (((2 : Int32) * v) + vu33)]) rfl rfl ?_
                    refine hs (f := dm_ist 76 3) (lv' := [(3, .int (((2 : Int32) * v) + vu33)), (4, .int k), (1, .int b), (2, .int n), (0, .ref 68)]) rfl rfl ?_
                    have e34 : (k + 1).toInt = k.toInt + 1 := by have w := i_addc (x := k) (y := 1) 1 rfl (by omega) (by omega); omega
                    refine hs (f := dm_iinc 79 4 1) (lv' := [(4, .int (k + 1)), (3, .int (((2 : Int32) * v) + vu33)), (1, .int b), (2, .int n), (0, .ref 68)]) rfl rfl ?_
                    refine hs (f := dm_goto 53) rfl rfl ?_
                    exact (IH _ (by omega)) (((2 : Int32) * v) + vu33) (k + 1) tu33 xu33 _ hM32 (by omega) (by omega) (by intro z; omega) rfl
            refine hs (f := dm_push 49 (.int 0)) rfl rfl ?_
            refine hs (f := dm_ist 50 3) (lv' := [(3, .int 0), (1, .int b), (2, .int n), (0, .ref 68)]) rfl rfl ?_
            refine hs (f := dm_push 51 (.int 0)) rfl rfl ?_
            refine hs (f := dm_ist 53 4) (lv' := [(4, .int 0), (3, .int 0), (1, .int b), (2, .int n), (0, .ref 68)]) rfl rfl ?_
            exact (j53 _) 0 0 tu28 xu28 _ hM27 (by show (0 : Int) ≤ 0; decide) tb9 xb9 rfl
          · skip
            have h29 : vu28.toInt = 1 := h29
            refine hs (f := dm_ild 21 1) rfl rfl ?_
            refine hs (f := dm_push 23 (.int 20)) rfl rfl ?_
            refine g_ic_ne (n := 26) (tt := 36) rfl (fun h35 => ?_) (fun h35 => ?_)
            · skip
              have h35 : ¬ b.toInt = 20 := h35
              refine hs (f := dm_ild 37 2) rfl rfl ?_
              refine hs (f := dm_push 38 (.int 1)) rfl rfl ?_
              refine hs (f := dm_ild 39 1) rfl rfl ?_
              refine hs (f := dm_ii 40 (fun x y => x <<< (y &&& 31))) (st' := [.int ((1 : Int32) <<< (b &&& 31)), .int n]) rfl rfl ?_
              refine hs (f := dm_ii 41 (fun x y => x + y)) (st' := [.int (n + ((1 : Int32) <<< (b &&& 31)))]) rfl rfl ?_
              refine hs (f := dm_ist 42 2) (lv' := [(2, .int (n + ((1 : Int32) <<< (b &&& 31)))), (1, .int b), (0, .ref 68)]) rfl rfl ?_
              have e36 : (b + 1).toInt = b.toInt + 1 := by have w := i_addc (x := b) (y := 1) 1 rfl (by omega) (by omega); omega
              refine hs (f := dm_iinc 45 1 1) (lv' := [(1, .int (b + 1)), (2, .int (n + ((1 : Int32) <<< (b &&& 31)))), (0, .ref 68)]) rfl rfl ?_
              refine hs (f := dm_goto 4) rfl rfl ?_
              exact (IH _ (by omega)).2 (b + 1) (n + ((1 : Int32) <<< (b &&& 31))) tu28 xu28 _ hM27 (by omega) (by omega) (by intro z; omega) rfl
            · skip
              have h35 : b.toInt = 20 := h35
              refine hs (f := dm_ald 27 0) rfl rfl ?_
              refine hs (f := dm_ald 28 0) rfl rfl ?_
              refine r_geti tu28 rfl hM27 rfl rfl ?_
              refine hs (f := dm_push 32 (.int 1)) rfl rfl ?_
              have e37 : (tu28 - (1 : Int32)).toInt = tu28.toInt - 1 := by have w := i_subc (x := tu28) (y := (1 : Int32)) 1 rfl (by omega) (by omega); omega
              refine hs (f := dm_ii 33 (fun x y => x - y)) (st' := [.int (tu28 - (1 : Int32)), .ref 68]) rfl rfl ?_
              refine r_inv rfl hM27 rfl (as := [.ref 68, .int (tu28 - (1 : Int32))]) rfl (Nat.le_of_ble_eq_true rfl) (hT_mono (by first | decide | omega) (show hT 1 197 [.ref 68, .int (tu28 - (1 : Int32))] _ (fun r M' => r = none ∧ ∃ x8 : Int32, (xu28.toInt = -1 → x8 = (tu28 - (1 : Int32))) ∧ (¬ xu28.toInt = -1 → x8 = xu28) ∧ Rm X (sF (sF (sF q 65 tu28) 66 xu28) 66 x8) M') from r_197 hM27 (tu28 - (1 : Int32))) (fun r1 M38 w => ?_))
              obtain ⟨rfl, xu39, pu39, nu39, hM38⟩ := w
              have piu39 : xu28.toInt = -1 → xu39.toInt = tu28.toInt - 1 := fun z => by rw [pu39 z]; exact e37
              have niu39 : ¬ xu28.toInt = -1 → xu39.toInt = xu28.toInt := fun z => by rw [nu39 z]
              replace hM38 := rm_to (q' := (sF (sF q 65 tu28) 66 xu39)) hM38 (show sF (sF (sF q 65 tu28) 66 xu28) 66 xu39 = (sF (sF q 65 tu28) 66 xu39) from (show sF (sF (sF q 65 tu28) 66 xu28) 66 xu39 = (sF (sF q 65 tu28) 66 xu39) from sF_sF))
              refine hs (f := dm_ild 37 2) rfl rfl ?_
              refine hs (f := dm_push 38 (.int 1)) rfl rfl ?_
              refine hs (f := dm_ild 39 1) rfl rfl ?_
              refine hs (f := dm_ii 40 (fun x y => x <<< (y &&& 31))) (st' := [.int ((1 : Int32) <<< (b &&& 31)), .int n]) rfl rfl ?_
              refine hs (f := dm_ii 41 (fun x y => x + y)) (st' := [.int (n + ((1 : Int32) <<< (b &&& 31)))]) rfl rfl ?_
              refine hs (f := dm_ist 42 2) (lv' := [(2, .int (n + ((1 : Int32) <<< (b &&& 31)))), (1, .int b), (0, .ref 68)]) rfl rfl ?_
              have e40 : (b + 1).toInt = b.toInt + 1 := by have w := i_addc (x := b) (y := 1) 1 rfl (by omega) (by omega); omega
              refine hs (f := dm_iinc 45 1 1) (lv' := [(1, .int (b + 1)), (2, .int (n + ((1 : Int32) <<< (b &&& 31)))), (0, .ref 68)]) rfl rfl ?_
              refine hs (f := dm_goto 4) rfl rfl ?_
              exact (IH _ (by omega)).2 (b + 1) (n + ((1 : Int32) <<< (b &&& 31))) tu28 xu39 _ hM38 (by omega) (by omega) (by intro z; omega) rfl
  refine hx (t := cd_199) rfl (Nat.le_of_ble_eq_true rfl) (lv := [(0, .ref 68)]) rfl ?_
  refine hs (f := dm_push 1 (.int 2)) rfl rfl ?_
  refine hs (f := dm_ist 2 1) (lv' := [(1, .int 2), (0, .ref 68)]) rfl rfl ?_
  refine hs (f := dm_push 3 (.int 0)) rfl rfl ?_
  refine hs (f := dm_ist 4 2) (lv' := [(2, .int 0), (1, .int 2), (0, .ref 68)]) rfl rfl ?_
  replace hM := rm_to (q' := (sF q 65 (q.1 65))) hM (Eq.trans (sF_id (q := q) (k := 65) (v := (q.1 65)) rfl) (show sF q 65 (q.1 65) = (sF q 65 (q.1 65)) from (show sF q 65 (q.1 65) = (sF q 65 (q.1 65)) from rfl)))
  replace hM := rm_to (q' := (sF (sF q 65 (q.1 65)) 66 (q.1 66))) hM (Eq.trans (sF_id (q := (sF q 65 (q.1 65))) (k := 66) (v := (q.1 66)) rfl) (show sF (sF q 65 (q.1 65)) 66 (q.1 66) = (sF (sF q 65 (q.1 65)) 66 (q.1 66)) from (show sF (sF q 65 (q.1 65)) 66 (q.1 66) = (sF (sF q 65 (q.1 65)) 66 (q.1 66)) from rfl)))
  exact (j4 _).1 2 0 (q.1 65) (q.1 66) _ hM (by show (2 : Int) ≤ 2 ∧ (2 : Int) ≤ _; omega) (by omega) (fun z => z) rfl
set_option maxHeartbeats 8000000 in
theorem r_200 {X : dm_Mem} (j : Nat) : ∀ (q : rS) (M : dm_Mem) (dp : Int32), Rm X q M → (0 ≤ (q.1 65).toInt ∧ (q.1 65).toInt ≤ (q.1 36).toInt ∧ (q.1 36).toInt ≤ 600) → 0 ≤ dp.toInt → dp.toInt + j = 61 → hT (2 + 1 + j) 200 [.ref 68, .int dp] M (fun r M' => ∃ v t x : Int32, r = some (.int v) ∧ ((q.1 65).toInt ≤ t.toInt ∧ t.toInt ≤ (q.1 36).toInt) ∧ (x.toInt = -1 → (q.1 66).toInt = -1) ∧ Rm X (sF (sF q 65 t) 66 x) M') := by
  induction j using Nat.strongRecOn with
  | ind j IH =>
    intro q M dp   hM hB d0 dj
    rw [show 2 + 1 + j = (2 + j) + 1 by omega]
    refine hx (t := cd_200) rfl (Nat.le_of_ble_eq_true rfl) (lv := [(0, .ref 68), (1, .int dp)]) rfl ?_
    refine hs (f := dm_ald 1 0) rfl rfl ?_
    refine r_geti (q.1 66) rfl hM rfl rfl ?_
    refine hs (f := dm_push 5 (.int (-1))) rfl rfl ?_
    refine g_ic_eq (n := 8) (tt := 10) rfl (fun h1 => ?_) (fun h1 => ?_)
    · skip
      have h1 : (q.1 66).toInt = (-1) := h1
      refine hs (f := dm_ald 11 0) rfl rfl ?_
      refine r_geti (q.1 65) rfl hM rfl rfl ?_
      refine hs (f := dm_ist 15 2) (lv' := [(2, .int (q.1 65)), (0, .ref 68), (1, .int dp)]) rfl rfl ?_
      refine hs (f := dm_ild 16 1) rfl rfl ?_
      refine hs (f := dm_push 18 (.int 60)) rfl rfl ?_
      refine g_ic_le (n := 21) (tt := 28) rfl (fun h2 => ?_) (fun h2 => ?_)
      · skip
        have h2 : dp.toInt ≤ 60 := h2
        refine hs (f := dm_ald 29 0) rfl rfl ?_
        refine r_inv rfl hM rfl (as := [.ref 68]) rfl (Nat.le_of_ble_eq_true rfl) (hT_mono (by first | decide | omega) (show hT 2 198 [.ref 68] _ (fun r M' => ∃ v8 t8 x8 : Int32, r = some (.int v8) ∧ (0 ≤ v8.toInt ∧ v8.toInt ≤ 1) ∧ ((q.1 65).toInt ≤ t8.toInt ∧ t8.toInt ≤ (q.1 36).toInt) ∧ (x8.toInt = -1 → (q.1 66).toInt = -1 ∧ t8.toInt = (q.1 65).toInt + 1) ∧ (v8.toInt = 1 → x8.toInt = -1) ∧ Rm X (sF (sF q 65 t8) 66 x8) M') from r_198 hM (show 0 ≤ (q.1 65).toInt ∧ (q.1 65).toInt ≤ (q.1 36).toInt ∧ (q.1 36).toInt ≤ 600 by omega)) (fun r1 M3 w => ?_))
        obtain ⟨vu4, tu4, xu4, rfl, vbu4, tbu4, xbu4, vxu4, hM3⟩ := w
        replace hM3 := rm_to (q' := (sF (sF q 65 tu4) 66 xu4)) hM3 (Eq.trans (congrArg (fun z => sF z 66 xu4) (show sF q 65 tu4 = (sF q 65 tu4) from (show sF q 65 tu4 = (sF q 65 tu4) from rfl))) (show sF (sF q 65 tu4) 66 xu4 = (sF (sF q 65 tu4) 66 xu4) from (show sF (sF q 65 tu4) 66 xu4 = (sF (sF q 65 tu4) 66 xu4) from rfl)))
        refine hs (f := dm_ist 33 3) (lv' := [(3, .int vu4), (2, .int (q.1 65)), (0, .ref 68), (1, .int dp)]) rfl rfl ?_
        refine hs (f := dm_ald 34 0) rfl rfl ?_
        refine r_inv rfl hM3 rfl (as := [.ref 68]) rfl (Nat.le_of_ble_eq_true rfl) (hT_mono (by first | decide | omega) (show hT 2 198 [.ref 68] _ (fun r M' => ∃ v8 t8 x8 : Int32, r = some (.int v8) ∧ (0 ≤ v8.toInt ∧ v8.toInt ≤ 1) ∧ (tu4.toInt ≤ t8.toInt ∧ t8.toInt ≤ (q.1 36).toInt) ∧ (x8.toInt = -1 → xu4.toInt = -1 ∧ t8.toInt = tu4.toInt + 1) ∧ (v8.toInt = 1 → x8.toInt = -1) ∧ Rm X (sF (sF (sF (sF q 65 tu4) 66 xu4) 65 t8) 66 x8) M') from r_198 hM3 (show 0 ≤ tu4.toInt ∧ tu4.toInt ≤ (q.1 36).toInt ∧ (q.1 36).toInt ≤ 600 by omega)) (fun r1 M5 w => ?_))
        obtain ⟨vu6, tu6, xu6, rfl, vbu6, tbu6, xbu6, vxu6, hM5⟩ := w
        replace hM5 := rm_to (q' := (sF (sF q 65 tu6) 66 xu6)) hM5 (Eq.trans (congrArg (fun z => sF z 66 xu6) (show sF (sF (sF q 65 tu4) 66 xu4) 65 tu6 = (sF (sF q 65 tu6) 66 xu4) from (show sF (sF (sF q 65 tu4) 66 xu4) 65 tu6 = (sF (sF q 65 tu6) 66 xu4) from Eq.trans (show sF (sF (sF q 65 tu4) 66 xu4) 65 tu6 = sF (sF (sF q 65 tu4) 65 tu6) 66 xu4 from sF_cm (by decide)) (congrArg (fun z => sF z 66 xu4) (show sF (sF q 65 tu4) 65 tu6 = (sF q 65 tu6) from sF_sF))))) (show sF (sF (sF q 65 tu6) 66 xu4) 66 xu6 = (sF (sF q 65 tu6) 66 xu6) from (show sF (sF (sF q 65 tu6) 66 xu4) 66 xu6 = (sF (sF q 65 tu6) 66 xu6) from sF_sF)))
        refine hs (f := dm_ist 39 4) (lv' := [(4, .int vu6), (3, .int vu4), (2, .int (q.1 65)), (0, .ref 68), (1, .int dp)]) rfl rfl ?_
        refine hs (f := dm_ald 40 0) rfl rfl ?_
        refine r_geti xu6 rfl hM5 rfl rfl ?_
        refine hs (f := dm_push 44 (.int (-1))) rfl rfl ?_
        refine g_ic_eq (n := 47) (tt := 49) rfl (fun h7 => ?_) (fun h7 => ?_)
        · skip
          have h7 : xu6.toInt = (-1) := h7
          refine hs (f := dm_ild 50 3) rfl rfl ?_
          refine g_if_ne (n := 53) (tt := 63) rfl (fun h8 => ?_) (fun h8 => ?_)
          · skip
            have h8 : ¬ vu4.toInt = 0 := h8
            have j148 : ∀ (l r : Int32) (t9 x9 : Int32) (M : dm_Mem), Rm X (sF (sF q 65 t9) 66 x9) M → ((q.1 65).toInt ≤ t9.toInt ∧ t9.toInt ≤ (q.1 36).toInt) → (x9.toInt = -1 → (q.1 66).toInt = -1) → hG (2 + j) cd_200 148 [(6, .int r), (5, .int l), (4, .int vu6), (3, .int vu4), (2, .int (q.1 65)), (0, .ref 68), (1, .int dp)] [] M (fun r M' => ∃ v t x : Int32, r = some (.int v) ∧ ((q.1 65).toInt ≤ t.toInt ∧ t.toInt ≤ (q.1 36).toInt) ∧ (x.toInt = -1 → (q.1 66).toInt = -1) ∧ Rm X (sF (sF q 65 t) 66 x) M') := by
              intro l r t9 x9 M hM tb9 xb9
              refine hs (f := dm_push 149 (.int 2)) rfl rfl ?_
              exact hr (f := dm_ret .int) rfl rfl (⟨_, t9, x9, rfl, by omega, by intro z; omega, hM⟩)
            have j143 : ∀ (l r : Int32) (t9 x9 : Int32) (M : dm_Mem), Rm X (sF (sF q 65 t9) 66 x9) M → ((q.1 65).toInt ≤ t9.toInt ∧ t9.toInt ≤ (q.1 36).toInt) → (x9.toInt = -1 → (q.1 66).toInt = -1) → hG (2 + j) cd_200 143 [(6, .int r), (5, .int l), (4, .int vu6), (3, .int vu4), (2, .int (q.1 65)), (0, .ref 68), (1, .int dp)] [] M (fun r M' => ∃ v t x : Int32, r = some (.int v) ∧ ((q.1 65).toInt ≤ t.toInt ∧ t.toInt ≤ (q.1 36).toInt) ∧ (x.toInt = -1 → (q.1 66).toInt = -1) ∧ Rm X (sF (sF q 65 t) 66 x) M') := by
              intro l r t9 x9 M hM tb9 xb9
              refine hs (f := dm_ald 144 0) rfl rfl ?_
              refine hs (f := dm_ild 145 2) rfl rfl ?_
              refine r_inv rfl hM rfl (as := [.ref 68, .int (q.1 65)]) rfl (Nat.le_of_ble_eq_true rfl) (hT_mono (by first | decide | omega) (show hT 1 197 [.ref 68, .int (q.1 65)] _ (fun r M' => r = none ∧ ∃ x8 : Int32, (x9.toInt = -1 → x8 = (q.1 65)) ∧ (¬ x9.toInt = -1 → x8 = x9) ∧ Rm X (sF (sF (sF q 65 t9) 66 x9) 66 x8) M') from r_197 hM (q.1 65)) (fun r1 M9 w => ?_))
              obtain ⟨rfl, xu10, pu10, nu10, hM9⟩ := w
              have piu10 : x9.toInt = -1 → xu10.toInt = (q.1 65).toInt := fun z => by rw [pu10 z]
              have niu10 : ¬ x9.toInt = -1 → xu10.toInt = x9.toInt := fun z => by rw [nu10 z]
              replace hM9 := rm_to (q' := (sF (sF q 65 t9) 66 xu10)) hM9 (show sF (sF (sF q 65 t9) 66 x9) 66 xu10 = (sF (sF q 65 t9) 66 xu10) from (show sF (sF (sF q 65 t9) 66 x9) 66 xu10 = (sF (sF q 65 t9) 66 xu10) from sF_sF))
              exact j148 l r t9 xu10 _ hM9 (by omega) (by intro z; omega)
            have j98 : ∀ (l r : Int32) (t9 x9 : Int32) (M : dm_Mem), Rm X (sF (sF q 65 t9) 66 x9) M → ((q.1 65).toInt ≤ t9.toInt ∧ t9.toInt ≤ (q.1 36).toInt) → (x9.toInt = -1 → (q.1 66).toInt = -1) → hG (2 + j) cd_200 98 [(5, .int l), (4, .int vu6), (3, .int vu4), (2, .int (q.1 65)), (0, .ref 68), (1, .int dp)] [.int r] M (fun r M' => ∃ v t x : Int32, r = some (.int v) ∧ ((q.1 65).toInt ≤ t.toInt ∧ t.toInt ≤ (q.1 36).toInt) ∧ (x.toInt = -1 → (q.1 66).toInt = -1) ∧ Rm X (sF (sF q 65 t) 66 x) M') := by
              intro l r t9 x9 M hM tb9 xb9
              refine hs (f := dm_ist 100 6) (lv' := [(6, .int r), (5, .int l), (4, .int vu6), (3, .int vu4), (2, .int (q.1 65)), (0, .ref 68), (1, .int dp)]) rfl rfl ?_
              refine hs (f := dm_ald 101 0) rfl rfl ?_
              refine r_geti x9 rfl hM rfl rfl ?_
              refine hs (f := dm_push 105 (.int (-1))) rfl rfl ?_
              refine g_ic_eq (n := 108) (tt := 110) rfl (fun h11 => ?_) (fun h11 => ?_)
              · skip
                have h11 : x9.toInt = (-1) := h11
                refine hs (f := dm_ild 111 3) rfl rfl ?_
                refine hs (f := dm_push 112 (.int 1)) rfl rfl ?_
                refine g_ic_ne (n := 115) (tt := 120) rfl (fun h12 => ?_) (fun h12 => ?_)
                · skip
                  clear h12
                  refine hs (f := dm_ild 122 4) rfl rfl ?_
                  refine hs (f := dm_push 123 (.int 1)) rfl rfl ?_
                  refine g_ic_ne (n := 126) (tt := 131) rfl (fun h13 => ?_) (fun h13 => ?_)
                  · skip
                    clear h13
                    refine hs (f := dm_ild 133 5) rfl rfl ?_
                    refine hs (f := dm_push 134 (.int 1)) rfl rfl ?_
                    refine g_ic_ne (n := 137) (tt := 148) rfl (fun h14 => ?_) (fun h14 => ?_)
                    · skip
                      clear h14
                      exact j148 l r t9 x9 _ hM (by omega) (by intro z; omega)
                    · skip
                      clear h14
                      refine hs (f := dm_ild 139 6) rfl rfl ?_
                      refine hs (f := dm_push 140 (.int 1)) rfl rfl ?_
                      refine g_ic_ne (n := 143) (tt := 148) rfl (fun h15 => ?_) (fun h15 => ?_)
                      · skip
                        clear h15
                        exact j148 l r t9 x9 _ hM (by omega) (by intro z; omega)
                      · skip
                        clear h15
                        exact j143 l r t9 x9 _ hM (by omega) (by intro z; omega)
                  · skip
                    clear h13
                    refine hs (f := dm_ild 128 6) rfl rfl ?_
                    refine g_if_eq (n := 131) (tt := 143) rfl (fun h16 => ?_) (fun h16 => ?_)
                    · skip
                      clear h16
                      exact j143 l r t9 x9 _ hM (by omega) (by intro z; omega)
                    · skip
                      clear h16
                      refine hs (f := dm_ild 133 5) rfl rfl ?_
                      refine hs (f := dm_push 134 (.int 1)) rfl rfl ?_
                      refine g_ic_ne (n := 137) (tt := 148) rfl (fun h17 => ?_) (fun h17 => ?_)
                      · skip
                        clear h17
                        exact j148 l r t9 x9 _ hM (by omega) (by intro z; omega)
                      · skip
                        clear h17
                        refine hs (f := dm_ild 139 6) rfl rfl ?_
                        refine hs (f := dm_push 140 (.int 1)) rfl rfl ?_
                        refine g_ic_ne (n := 143) (tt := 148) rfl (fun h18 => ?_) (fun h18 => ?_)
                        · skip
                          clear h18
                          exact j148 l r t9 x9 _ hM (by omega) (by intro z; omega)
                        · skip
                          clear h18
                          exact j143 l r t9 x9 _ hM (by omega) (by intro z; omega)
                · skip
                  clear h12
                  refine hs (f := dm_ild 117 5) rfl rfl ?_
                  refine g_if_eq (n := 120) (tt := 143) rfl (fun h19 => ?_) (fun h19 => ?_)
                  · skip
                    clear h19
                    exact j143 l r t9 x9 _ hM (by omega) (by intro z; omega)
                  · skip
                    clear h19
                    refine hs (f := dm_ild 122 4) rfl rfl ?_
                    refine hs (f := dm_push 123 (.int 1)) rfl rfl ?_
                    refine g_ic_ne (n := 126) (tt := 131) rfl (fun h20 => ?_) (fun h20 => ?_)
                    · skip
                      clear h20
                      refine hs (f := dm_ild 133 5) rfl rfl ?_
                      refine hs (f := dm_push 134 (.int 1)) rfl rfl ?_
                      refine g_ic_ne (n := 137) (tt := 148) rfl (fun h21 => ?_) (fun h21 => ?_)
                      · skip
                        clear h21
                        exact j148 l r t9 x9 _ hM (by omega) (by intro z; omega)
                      · skip
                        clear h21
                        refine hs (f := dm_ild 139 6) rfl rfl ?_
                        refine hs (f := dm_push 140 (.int 1)) rfl rfl ?_
                        refine g_ic_ne (n := 143) (tt := 148) rfl (fun h22 => ?_) (fun h22 => ?_)
                        · skip
                          clear h22
                          exact j148 l r t9 x9 _ hM (by omega) (by intro z; omega)
                        · skip
                          clear h22
                          exact j143 l r t9 x9 _ hM (by omega) (by intro z; omega)
                    · skip
                      clear h20
                      refine hs (f := dm_ild 128 6) rfl rfl ?_
                      refine g_if_eq (n := 131) (tt := 143) rfl (fun h23 => ?_) (fun h23 => ?_)
                      · skip
                        clear h23
                        exact j143 l r t9 x9 _ hM (by omega) (by intro z; omega)
                      · skip
                        clear h23
                        refine hs (f := dm_ild 133 5) rfl rfl ?_
                        refine hs (f := dm_push 134 (.int 1)) rfl rfl ?_
                        refine g_ic_ne (n := 137) (tt := 148) rfl (fun h24 => ?_) (fun h24 => ?_)
                        · skip
                          clear h24
                          exact j148 l r t9 x9 _ hM (by omega) (by intro z; omega)
                        · skip
                          clear h24
                          refine hs (f := dm_ild 139 6) rfl rfl ?_
                          refine hs (f := dm_push 140 (.int 1)) rfl rfl ?_
                          refine g_ic_ne (n := 143) (tt := 148) rfl (fun h25 => ?_) (fun h25 => ?_)
                          · skip
                            clear h25
                            exact j148 l r t9 x9 _ hM (by omega) (by intro z; omega)
                          · skip
                            clear h25
                            exact j143 l r t9 x9 _ hM (by omega) (by intro z; omega)
              · skip
                have h11 : ¬ x9.toInt = (-1) := h11
                refine hs (f := dm_push 109 (.int 0)) rfl rfl ?_
                exact hr (f := dm_ret .int) rfl rfl (⟨_, t9, x9, rfl, by omega, by intro z; omega, hM⟩)
            have j79 : ∀ (l : Int32) (t9 x9 : Int32) (M : dm_Mem), Rm X (sF (sF q 65 t9) 66 x9) M → ((q.1 65).toInt ≤ t9.toInt ∧ t9.toInt ≤ (q.1 36).toInt) → (x9.toInt = -1 → (q.1 66).toInt = -1) → hG (2 + j) cd_200 79 [(4, .int vu6), (3, .int vu4), (2, .int (q.1 65)), (0, .ref 68), (1, .int dp)] [.int l] M (fun r M' => ∃ v t x : Int32, r = some (.int v) ∧ ((q.1 65).toInt ≤ t.toInt ∧ t.toInt ≤ (q.1 36).toInt) ∧ (x.toInt = -1 → (q.1 66).toInt = -1) ∧ Rm X (sF (sF q 65 t) 66 x) M') := by
              intro l t9 x9 M hM tb9 xb9
              refine hs (f := dm_ist 81 5) (lv' := [(5, .int l), (4, .int vu6), (3, .int vu4), (2, .int (q.1 65)), (0, .ref 68), (1, .int dp)]) rfl rfl ?_
              refine hs (f := dm_ild 83 4) rfl rfl ?_
              refine hs (f := dm_push 84 (.int 1)) rfl rfl ?_
              refine g_ic_ne (n := 87) (tt := 97) rfl (fun h26 => ?_) (fun h26 => ?_)
              · skip
                have h26 : ¬ vu6.toInt = 1 := h26
                refine hs (f := dm_push 98 (.int 0)) rfl rfl ?_
                exact j98 l (0 : Int32) t9 x9 _ hM (by omega) (by intro z; omega)
              · skip
                have h26 : vu6.toInt = 1 := h26
                refine hs (f := dm_ald 88 0) rfl rfl ?_
                refine hs (f := dm_ild 89 1) rfl rfl ?_
                refine hs (f := dm_push 90 (.int 1)) rfl rfl ?_
                have e27 : (dp + (1 : Int32)).toInt = dp.toInt + 1 := by have w := i_addc (x := dp) (y := (1 : Int32)) 1 rfl (by omega) (by omega); omega
                refine hs (f := dm_ii 91 (fun x y => x + y)) (st' := [.int (dp + (1 : Int32)), .ref 68]) rfl rfl ?_
                refine r_inv rfl hM rfl (as := [.ref 68, .int (dp + (1 : Int32))]) rfl (Nat.le_of_ble_eq_true rfl) (hT_mono (by omega) (show hT (2 + 1 + (j - 1)) 200 [.ref 68, .int (dp + (1 : Int32))] _ (fun r M' => ∃ v8 t8 x8 : Int32, r = some (.int v8) ∧ (t9.toInt ≤ t8.toInt ∧ t8.toInt ≤ (q.1 36).toInt) ∧ (x8.toInt = -1 → x9.toInt = -1) ∧ Rm X (sF (sF (sF (sF q 65 t9) 66 x9) 65 t8) 66 x8) M') from IH (j - 1) (by omega) _ _ (dp + (1 : Int32)) hM (show 0 ≤ t9.toInt ∧ t9.toInt ≤ (q.1 36).toInt ∧ (q.1 36).toInt ≤ 600 by omega) (by omega) (by omega)) (fun r1 M28 w => ?_))
                obtain ⟨vu29, tu29, xu29, rfl, tbu29, xbu29, hM28⟩ := w
                replace hM28 := rm_to (q' := (sF (sF q 65 tu29) 66 xu29)) hM28 (Eq.trans (congrArg (fun z => sF z 66 xu29) (show sF (sF (sF q 65 t9) 66 x9) 65 tu29 = (sF (sF q 65 tu29) 66 x9) from (show sF (sF (sF q 65 t9) 66 x9) 65 tu29 = (sF (sF q 65 tu29) 66 x9) from Eq.trans (show sF (sF (sF q 65 t9) 66 x9) 65 tu29 = sF (sF (sF q 65 t9) 65 tu29) 66 x9 from sF_cm (by decide)) (congrArg (fun z => sF z 66 x9) (show sF (sF q 65 t9) 65 tu29 = (sF q 65 tu29) from sF_sF))))) (show sF (sF (sF q 65 tu29) 66 x9) 66 xu29 = (sF (sF q 65 tu29) 66 xu29) from (show sF (sF (sF q 65 tu29) 66 x9) 66 xu29 = (sF (sF q 65 tu29) 66 xu29) from sF_sF)))
                refine hs (f := dm_goto 98) rfl rfl ?_
                exact j98 l vu29 tu29 xu29 _ hM28 (by omega) (by intro z; omega)
            refine hs (f := dm_ild 64 3) rfl rfl ?_
            refine hs (f := dm_push 65 (.int 1)) rfl rfl ?_
            refine g_ic_ne (n := 68) (tt := 78) rfl (fun h30 => ?_) (fun h30 => ?_)
            · skip
              have h30 : ¬ vu4.toInt = 1 := h30
              refine hs (f := dm_push 79 (.int 0)) rfl rfl ?_
              exact j79 (0 : Int32) tu6 xu6 _ hM5 (by omega) (by intro z; omega)
            · skip
              have h30 : vu4.toInt = 1 := h30
              refine hs (f := dm_ald 69 0) rfl rfl ?_
              refine hs (f := dm_ild 70 1) rfl rfl ?_
              refine hs (f := dm_push 71 (.int 1)) rfl rfl ?_
              have e31 : (dp + (1 : Int32)).toInt = dp.toInt + 1 := by have w := i_addc (x := dp) (y := (1 : Int32)) 1 rfl (by omega) (by omega); omega
              refine hs (f := dm_ii 72 (fun x y => x + y)) (st' := [.int (dp + (1 : Int32)), .ref 68]) rfl rfl ?_
              refine r_inv rfl hM5 rfl (as := [.ref 68, .int (dp + (1 : Int32))]) rfl (Nat.le_of_ble_eq_true rfl) (hT_mono (by omega) (show hT (2 + 1 + (j - 1)) 200 [.ref 68, .int (dp + (1 : Int32))] _ (fun r M' => ∃ v8 t8 x8 : Int32, r = some (.int v8) ∧ (tu6.toInt ≤ t8.toInt ∧ t8.toInt ≤ (q.1 36).toInt) ∧ (x8.toInt = -1 → xu6.toInt = -1) ∧ Rm X (sF (sF (sF (sF q 65 tu6) 66 xu6) 65 t8) 66 x8) M') from IH (j - 1) (by omega) _ _ (dp + (1 : Int32)) hM5 (show 0 ≤ tu6.toInt ∧ tu6.toInt ≤ (q.1 36).toInt ∧ (q.1 36).toInt ≤ 600 by omega) (by omega) (by omega)) (fun r1 M32 w => ?_))
              obtain ⟨vu33, tu33, xu33, rfl, tbu33, xbu33, hM32⟩ := w
              replace hM32 := rm_to (q' := (sF (sF q 65 tu33) 66 xu33)) hM32 (Eq.trans (congrArg (fun z => sF z 66 xu33) (show sF (sF (sF q 65 tu6) 66 xu6) 65 tu33 = (sF (sF q 65 tu33) 66 xu6) from (show sF (sF (sF q 65 tu6) 66 xu6) 65 tu33 = (sF (sF q 65 tu33) 66 xu6) from Eq.trans (show sF (sF (sF q 65 tu6) 66 xu6) 65 tu33 = sF (sF (sF q 65 tu6) 65 tu33) 66 xu6 from sF_cm (by decide)) (congrArg (fun z => sF z 66 xu6) (show sF (sF q 65 tu6) 65 tu33 = (sF q 65 tu33) from sF_sF))))) (show sF (sF (sF q 65 tu33) 66 xu6) 66 xu33 = (sF (sF q 65 tu33) 66 xu33) from (show sF (sF (sF q 65 tu33) 66 xu6) 66 xu33 = (sF (sF q 65 tu33) 66 xu33) from sF_sF)))
              refine hs (f := dm_goto 79) rfl rfl ?_
              exact j79 vu33 tu33 xu33 _ hM32 (by omega) (by intro z; omega)
          · skip
            have h8 : vu4.toInt = 0 := h8
            refine hs (f := dm_ild 55 4) rfl rfl ?_
            refine g_if_ne (n := 58) (tt := 63) rfl (fun h34 => ?_) (fun h34 => ?_)
            · skip
              have h34 : ¬ vu6.toInt = 0 := h34
              have j148 : ∀ (l r : Int32) (t9 x9 : Int32) (M : dm_Mem), Rm X (sF (sF q 65 t9) 66 x9) M → ((q.1 65).toInt ≤ t9.toInt ∧ t9.toInt ≤ (q.1 36).toInt) → (x9.toInt = -1 → (q.1 66).toInt = -1) → hG (2 + j) cd_200 148 [(6, .int r), (5, .int l), (4, .int vu6), (3, .int vu4), (2, .int (q.1 65)), (0, .ref 68), (1, .int dp)] [] M (fun r M' => ∃ v t x : Int32, r = some (.int v) ∧ ((q.1 65).toInt ≤ t.toInt ∧ t.toInt ≤ (q.1 36).toInt) ∧ (x.toInt = -1 → (q.1 66).toInt = -1) ∧ Rm X (sF (sF q 65 t) 66 x) M') := by
                intro l r t9 x9 M hM tb9 xb9
                refine hs (f := dm_push 149 (.int 2)) rfl rfl ?_
                exact hr (f := dm_ret .int) rfl rfl (⟨_, t9, x9, rfl, by omega, by intro z; omega, hM⟩)
              have j143 : ∀ (l r : Int32) (t9 x9 : Int32) (M : dm_Mem), Rm X (sF (sF q 65 t9) 66 x9) M → ((q.1 65).toInt ≤ t9.toInt ∧ t9.toInt ≤ (q.1 36).toInt) → (x9.toInt = -1 → (q.1 66).toInt = -1) → hG (2 + j) cd_200 143 [(6, .int r), (5, .int l), (4, .int vu6), (3, .int vu4), (2, .int (q.1 65)), (0, .ref 68), (1, .int dp)] [] M (fun r M' => ∃ v t x : Int32, r = some (.int v) ∧ ((q.1 65).toInt ≤ t.toInt ∧ t.toInt ≤ (q.1 36).toInt) ∧ (x.toInt = -1 → (q.1 66).toInt = -1) ∧ Rm X (sF (sF q 65 t) 66 x) M') := by
                intro l r t9 x9 M hM tb9 xb9
                refine hs (f := dm_ald 144 0) rfl rfl ?_
                refine hs (f := dm_ild 145 2) rfl rfl ?_
                refine r_inv rfl hM rfl (as := [.ref 68, .int (q.1 65)]) rfl (Nat.le_of_ble_eq_true rfl) (hT_mono (by first | decide | omega) (show hT 1 197 [.ref 68, .int (q.1 65)] _ (fun r M' => r = none ∧ ∃ x8 : Int32, (x9.toInt = -1 → x8 = (q.1 65)) ∧ (¬ x9.toInt = -1 → x8 = x9) ∧ Rm X (sF (sF (sF q 65 t9) 66 x9) 66 x8) M') from r_197 hM (q.1 65)) (fun r1 M35 w => ?_))
                obtain ⟨rfl, xu36, pu36, nu36, hM35⟩ := w
                have piu36 : x9.toInt = -1 → xu36.toInt = (q.1 65).toInt := fun z => by rw [pu36 z]
                have niu36 : ¬ x9.toInt = -1 → xu36.toInt = x9.toInt := fun z => by rw [nu36 z]
                replace hM35 := rm_to (q' := (sF (sF q 65 t9) 66 xu36)) hM35 (show sF (sF (sF q 65 t9) 66 x9) 66 xu36 = (sF (sF q 65 t9) 66 xu36) from (show sF (sF (sF q 65 t9) 66 x9) 66 xu36 = (sF (sF q 65 t9) 66 xu36) from sF_sF))
                exact j148 l r t9 xu36 _ hM35 (by omega) (by intro z; omega)
              have j98 : ∀ (l r : Int32) (t9 x9 : Int32) (M : dm_Mem), Rm X (sF (sF q 65 t9) 66 x9) M → ((q.1 65).toInt ≤ t9.toInt ∧ t9.toInt ≤ (q.1 36).toInt) → (x9.toInt = -1 → (q.1 66).toInt = -1) → hG (2 + j) cd_200 98 [(5, .int l), (4, .int vu6), (3, .int vu4), (2, .int (q.1 65)), (0, .ref 68), (1, .int dp)] [.int r] M (fun r M' => ∃ v t x : Int32, r = some (.int v) ∧ ((q.1 65).toInt ≤ t.toInt ∧ t.toInt ≤ (q.1 36).toInt) ∧ (x.toInt = -1 → (q.1 66).toInt = -1) ∧ Rm X (sF (sF q 65 t) 66 x) M') := by
                intro l r t9 x9 M hM tb9 xb9
                refine hs (f := dm_ist 100 6) (lv' := [(6, .int r), (5, .int l), (4, .int vu6), (3, .int vu4), (2, .int (q.1 65)), (0, .ref 68), (1, .int dp)]) rfl rfl ?_
                refine hs (f := dm_ald 101 0) rfl rfl ?_
                refine r_geti x9 rfl hM rfl rfl ?_
                refine hs (f := dm_push 105 (.int (-1))) rfl rfl ?_
                refine g_ic_eq (n := 108) (tt := 110) rfl (fun h37 => ?_) (fun h37 => ?_)
                · skip
                  have h37 : x9.toInt = (-1) := h37
                  refine hs (f := dm_ild 111 3) rfl rfl ?_
                  refine hs (f := dm_push 112 (.int 1)) rfl rfl ?_
                  refine g_ic_ne (n := 115) (tt := 120) rfl (fun h38 => ?_) (fun h38 => ?_)
                  · skip
                    clear h38
                    refine hs (f := dm_ild 122 4) rfl rfl ?_
                    refine hs (f := dm_push 123 (.int 1)) rfl rfl ?_
                    refine g_ic_ne (n := 126) (tt := 131) rfl (fun h39 => ?_) (fun h39 => ?_)
                    · skip
                      clear h39
                      refine hs (f := dm_ild 133 5) rfl rfl ?_
                      refine hs (f := dm_push 134 (.int 1)) rfl rfl ?_
                      refine g_ic_ne (n := 137) (tt := 148) rfl (fun h40 => ?_) (fun h40 => ?_)
                      · skip
                        clear h40
                        exact j148 l r t9 x9 _ hM (by omega) (by intro z; omega)
                      · skip
                        clear h40
                        refine hs (f := dm_ild 139 6) rfl rfl ?_
                        refine hs (f := dm_push 140 (.int 1)) rfl rfl ?_
                        refine g_ic_ne (n := 143) (tt := 148) rfl (fun h41 => ?_) (fun h41 => ?_)
                        · skip
                          clear h41
                          exact j148 l r t9 x9 _ hM (by omega) (by intro z; omega)
                        · skip
                          clear h41
                          exact j143 l r t9 x9 _ hM (by omega) (by intro z; omega)
                    · skip
                      clear h39
                      refine hs (f := dm_ild 128 6) rfl rfl ?_
                      refine g_if_eq (n := 131) (tt := 143) rfl (fun h42 => ?_) (fun h42 => ?_)
                      · skip
                        clear h42
                        exact j143 l r t9 x9 _ hM (by omega) (by intro z; omega)
                      · skip
                        clear h42
                        refine hs (f := dm_ild 133 5) rfl rfl ?_
                        refine hs (f := dm_push 134 (.int 1)) rfl rfl ?_
                        refine g_ic_ne (n := 137) (tt := 148) rfl (fun h43 => ?_) (fun h43 => ?_)
                        · skip
                          clear h43
                          exact j148 l r t9 x9 _ hM (by omega) (by intro z; omega)
                        · skip
                          clear h43
                          refine hs (f := dm_ild 139 6) rfl rfl ?_
                          refine hs (f := dm_push 140 (.int 1)) rfl rfl ?_
                          refine g_ic_ne (n := 143) (tt := 148) rfl (fun h44 => ?_) (fun h44 => ?_)
                          · skip
                            clear h44
                            exact j148 l r t9 x9 _ hM (by omega) (by intro z; omega)
                          · skip
                            clear h44
                            exact j143 l r t9 x9 _ hM (by omega) (by intro z; omega)
                  · skip
                    clear h38
                    refine hs (f := dm_ild 117 5) rfl rfl ?_
                    refine g_if_eq (n := 120) (tt := 143) rfl (fun h45 => ?_) (fun h45 => ?_)
                    · skip
                      clear h45
                      exact j143 l r t9 x9 _ hM (by omega) (by intro z; omega)
                    · skip
                      clear h45
                      refine hs (f := dm_ild 122 4) rfl rfl ?_
                      refine hs (f := dm_push 123 (.int 1)) rfl rfl ?_
                      refine g_ic_ne (n := 126) (tt := 131) rfl (fun h46 => ?_) (fun h46 => ?_)
                      · skip
                        clear h46
                        refine hs (f := dm_ild 133 5) rfl rfl ?_
                        refine hs (f := dm_push 134 (.int 1)) rfl rfl ?_
                        refine g_ic_ne (n := 137) (tt := 148) rfl (fun h47 => ?_) (fun h47 => ?_)
                        · skip
                          clear h47
                          exact j148 l r t9 x9 _ hM (by omega) (by intro z; omega)
                        · skip
                          clear h47
                          refine hs (f := dm_ild 139 6) rfl rfl ?_
                          refine hs (f := dm_push 140 (.int 1)) rfl rfl ?_
                          refine g_ic_ne (n := 143) (tt := 148) rfl (fun h48 => ?_) (fun h48 => ?_)
                          · skip
                            clear h48
                            exact j148 l r t9 x9 _ hM (by omega) (by intro z; omega)
                          · skip
                            clear h48
                            exact j143 l r t9 x9 _ hM (by omega) (by intro z; omega)
                      · skip
                        clear h46
                        refine hs (f := dm_ild 128 6) rfl rfl ?_
                        refine g_if_eq (n := 131) (tt := 143) rfl (fun h49 => ?_) (fun h49 => ?_)
                        · skip
                          clear h49
                          exact j143 l r t9 x9 _ hM (by omega) (by intro z; omega)
                        · skip
                          clear h49
                          refine hs (f := dm_ild 133 5) rfl rfl ?_
                          refine hs (f := dm_push 134 (.int 1)) rfl rfl ?_
                          refine g_ic_ne (n := 137) (tt := 148) rfl (fun h50 => ?_) (fun h50 => ?_)
                          · skip
                            clear h50
                            exact j148 l r t9 x9 _ hM (by omega) (by intro z; omega)
                          · skip
                            clear h50
                            refine hs (f := dm_ild 139 6) rfl rfl ?_
                            refine hs (f := dm_push 140 (.int 1)) rfl rfl ?_
                            refine g_ic_ne (n := 143) (tt := 148) rfl (fun h51 => ?_) (fun h51 => ?_)
                            · skip
                              clear h51
                              exact j148 l r t9 x9 _ hM (by omega) (by intro z; omega)
                            · skip
                              clear h51
                              exact j143 l r t9 x9 _ hM (by omega) (by intro z; omega)
                · skip
                  have h37 : ¬ x9.toInt = (-1) := h37
                  refine hs (f := dm_push 109 (.int 0)) rfl rfl ?_
                  exact hr (f := dm_ret .int) rfl rfl (⟨_, t9, x9, rfl, by omega, by intro z; omega, hM⟩)
              have j79 : ∀ (l : Int32) (t9 x9 : Int32) (M : dm_Mem), Rm X (sF (sF q 65 t9) 66 x9) M → ((q.1 65).toInt ≤ t9.toInt ∧ t9.toInt ≤ (q.1 36).toInt) → (x9.toInt = -1 → (q.1 66).toInt = -1) → hG (2 + j) cd_200 79 [(4, .int vu6), (3, .int vu4), (2, .int (q.1 65)), (0, .ref 68), (1, .int dp)] [.int l] M (fun r M' => ∃ v t x : Int32, r = some (.int v) ∧ ((q.1 65).toInt ≤ t.toInt ∧ t.toInt ≤ (q.1 36).toInt) ∧ (x.toInt = -1 → (q.1 66).toInt = -1) ∧ Rm X (sF (sF q 65 t) 66 x) M') := by
                intro l t9 x9 M hM tb9 xb9
                refine hs (f := dm_ist 81 5) (lv' := [(5, .int l), (4, .int vu6), (3, .int vu4), (2, .int (q.1 65)), (0, .ref 68), (1, .int dp)]) rfl rfl ?_
                refine hs (f := dm_ild 83 4) rfl rfl ?_
                refine hs (f := dm_push 84 (.int 1)) rfl rfl ?_
                refine g_ic_ne (n := 87) (tt := 97) rfl (fun h52 => ?_) (fun h52 => ?_)
                · skip
                  have h52 : ¬ vu6.toInt = 1 := h52
                  refine hs (f := dm_push 98 (.int 0)) rfl rfl ?_
                  exact j98 l (0 : Int32) t9 x9 _ hM (by omega) (by intro z; omega)
                · skip
                  have h52 : vu6.toInt = 1 := h52
                  refine hs (f := dm_ald 88 0) rfl rfl ?_
                  refine hs (f := dm_ild 89 1) rfl rfl ?_
                  refine hs (f := dm_push 90 (.int 1)) rfl rfl ?_
                  have e53 : (dp + (1 : Int32)).toInt = dp.toInt + 1 := by have w := i_addc (x := dp) (y := (1 : Int32)) 1 rfl (by omega) (by omega); omega
                  refine hs (f := dm_ii 91 (fun x y => x + y)) (st' := [.int (dp + (1 : Int32)), .ref 68]) rfl rfl ?_
                  refine r_inv rfl hM rfl (as := [.ref 68, .int (dp + (1 : Int32))]) rfl (Nat.le_of_ble_eq_true rfl) (hT_mono (by omega) (show hT (2 + 1 + (j - 1)) 200 [.ref 68, .int (dp + (1 : Int32))] _ (fun r M' => ∃ v8 t8 x8 : Int32, r = some (.int v8) ∧ (t9.toInt ≤ t8.toInt ∧ t8.toInt ≤ (q.1 36).toInt) ∧ (x8.toInt = -1 → x9.toInt = -1) ∧ Rm X (sF (sF (sF (sF q 65 t9) 66 x9) 65 t8) 66 x8) M') from IH (j - 1) (by omega) _ _ (dp + (1 : Int32)) hM (show 0 ≤ t9.toInt ∧ t9.toInt ≤ (q.1 36).toInt ∧ (q.1 36).toInt ≤ 600 by omega) (by omega) (by omega)) (fun r1 M54 w => ?_))
                  obtain ⟨vu55, tu55, xu55, rfl, tbu55, xbu55, hM54⟩ := w
                  replace hM54 := rm_to (q' := (sF (sF q 65 tu55) 66 xu55)) hM54 (Eq.trans (congrArg (fun z => sF z 66 xu55) (show sF (sF (sF q 65 t9) 66 x9) 65 tu55 = (sF (sF q 65 tu55) 66 x9) from (show sF (sF (sF q 65 t9) 66 x9) 65 tu55 = (sF (sF q 65 tu55) 66 x9) from Eq.trans (show sF (sF (sF q 65 t9) 66 x9) 65 tu55 = sF (sF (sF q 65 t9) 65 tu55) 66 x9 from sF_cm (by decide)) (congrArg (fun z => sF z 66 x9) (show sF (sF q 65 t9) 65 tu55 = (sF q 65 tu55) from sF_sF))))) (show sF (sF (sF q 65 tu55) 66 x9) 66 xu55 = (sF (sF q 65 tu55) 66 xu55) from (show sF (sF (sF q 65 tu55) 66 x9) 66 xu55 = (sF (sF q 65 tu55) 66 xu55) from sF_sF)))
                  refine hs (f := dm_goto 98) rfl rfl ?_
                  exact j98 l vu55 tu55 xu55 _ hM54 (by omega) (by intro z; omega)
              refine hs (f := dm_ild 64 3) rfl rfl ?_
              refine hs (f := dm_push 65 (.int 1)) rfl rfl ?_
              refine g_ic_ne (n := 68) (tt := 78) rfl (fun h56 => ?_) (fun h56 => ?_)
              · skip
                have h56 : ¬ vu4.toInt = 1 := h56
                refine hs (f := dm_push 79 (.int 0)) rfl rfl ?_
                exact j79 (0 : Int32) tu6 xu6 _ hM5 (by omega) (by intro z; omega)
              · skip
                have h56 : vu4.toInt = 1 := h56
                refine hs (f := dm_ald 69 0) rfl rfl ?_
                refine hs (f := dm_ild 70 1) rfl rfl ?_
                refine hs (f := dm_push 71 (.int 1)) rfl rfl ?_
                have e57 : (dp + (1 : Int32)).toInt = dp.toInt + 1 := by have w := i_addc (x := dp) (y := (1 : Int32)) 1 rfl (by omega) (by omega); omega
                refine hs (f := dm_ii 72 (fun x y => x + y)) (st' := [.int (dp + (1 : Int32)), .ref 68]) rfl rfl ?_
                refine r_inv rfl hM5 rfl (as := [.ref 68, .int (dp + (1 : Int32))]) rfl (Nat.le_of_ble_eq_true rfl) (hT_mono (by omega) (show hT (2 + 1 + (j - 1)) 200 [.ref 68, .int (dp + (1 : Int32))] _ (fun r M' => ∃ v8 t8 x8 : Int32, r = some (.int v8) ∧ (tu6.toInt ≤ t8.toInt ∧ t8.toInt ≤ (q.1 36).toInt) ∧ (x8.toInt = -1 → xu6.toInt = -1) ∧ Rm X (sF (sF (sF (sF q 65 tu6) 66 xu6) 65 t8) 66 x8) M') from IH (j - 1) (by omega) _ _ (dp + (1 : Int32)) hM5 (show 0 ≤ tu6.toInt ∧ tu6.toInt ≤ (q.1 36).toInt ∧ (q.1 36).toInt ≤ 600 by omega) (by omega) (by omega)) (fun r1 M58 w => ?_))
                obtain ⟨vu59, tu59, xu59, rfl, tbu59, xbu59, hM58⟩ := w
                replace hM58 := rm_to (q' := (sF (sF q 65 tu59) 66 xu59)) hM58 (Eq.trans (congrArg (fun z => sF z 66 xu59) (show sF (sF (sF q 65 tu6) 66 xu6) 65 tu59 = (sF (sF q 65 tu59) 66 xu6) from (show sF (sF (sF q 65 tu6) 66 xu6) 65 tu59 = (sF (sF q 65 tu59) 66 xu6) from Eq.trans (show sF (sF (sF q 65 tu6) 66 xu6) 65 tu59 = sF (sF (sF q 65 tu6) 65 tu59) 66 xu6 from sF_cm (by decide)) (congrArg (fun z => sF z 66 xu6) (show sF (sF q 65 tu6) 65 tu59 = (sF q 65 tu59) from sF_sF))))) (show sF (sF (sF q 65 tu59) 66 xu6) 66 xu59 = (sF (sF q 65 tu59) 66 xu59) from (show sF (sF (sF q 65 tu59) 66 xu6) 66 xu59 = (sF (sF q 65 tu59) 66 xu59) from sF_sF)))
                refine hs (f := dm_goto 79) rfl rfl ?_
                exact j79 vu59 tu59 xu59 _ hM58 (by omega) (by intro z; omega)
            · skip
              have h34 : vu6.toInt = 0 := h34
              refine hs (f := dm_ald 59 0) rfl rfl ?_
              refine r_inv rfl hM5 rfl (as := [.ref 68]) rfl (Nat.le_of_ble_eq_true rfl) (hT_mono (by first | decide | omega) (show hT 2 198 [.ref 68] _ (fun r M' => ∃ v8 t8 x8 : Int32, r = some (.int v8) ∧ (0 ≤ v8.toInt ∧ v8.toInt ≤ 1) ∧ (tu6.toInt ≤ t8.toInt ∧ t8.toInt ≤ (q.1 36).toInt) ∧ (x8.toInt = -1 → xu6.toInt = -1 ∧ t8.toInt = tu6.toInt + 1) ∧ (v8.toInt = 1 → x8.toInt = -1) ∧ Rm X (sF (sF (sF (sF q 65 tu6) 66 xu6) 65 t8) 66 x8) M') from r_198 hM5 (show 0 ≤ tu6.toInt ∧ tu6.toInt ≤ (q.1 36).toInt ∧ (q.1 36).toInt ≤ 600 by omega)) (fun r1 M60 w => ?_))
              obtain ⟨vu61, tu61, xu61, rfl, vbu61, tbu61, xbu61, vxu61, hM60⟩ := w
              replace hM60 := rm_to (q' := (sF (sF q 65 tu61) 66 xu61)) hM60 (Eq.trans (congrArg (fun z => sF z 66 xu61) (show sF (sF (sF q 65 tu6) 66 xu6) 65 tu61 = (sF (sF q 65 tu61) 66 xu6) from (show sF (sF (sF q 65 tu6) 66 xu6) 65 tu61 = (sF (sF q 65 tu61) 66 xu6) from Eq.trans (show sF (sF (sF q 65 tu6) 66 xu6) 65 tu61 = sF (sF (sF q 65 tu6) 65 tu61) 66 xu6 from sF_cm (by decide)) (congrArg (fun z => sF z 66 xu6) (show sF (sF q 65 tu6) 65 tu61 = (sF q 65 tu61) from sF_sF))))) (show sF (sF (sF q 65 tu61) 66 xu6) 66 xu61 = (sF (sF q 65 tu61) 66 xu61) from (show sF (sF (sF q 65 tu61) 66 xu6) 66 xu61 = (sF (sF q 65 tu61) 66 xu61) from sF_sF)))
              exact hr (f := dm_ret .int) rfl rfl (⟨_, tu61, xu61, rfl, by omega, by intro z; omega, hM60⟩)
        · skip
          have h7 : ¬ xu6.toInt = (-1) := h7
          refine hs (f := dm_push 48 (.int 0)) rfl rfl ?_
          exact hr (f := dm_ret .int) rfl rfl (⟨_, tu6, xu6, rfl, by omega, by intro z; omega, hM5⟩)
      · skip
        have h2 : dp.toInt > 60 := h2
        refine hs (f := dm_ald 22 0) rfl rfl ?_
        refine hs (f := dm_ild 23 2) rfl rfl ?_
        refine r_inv rfl hM rfl (as := [.ref 68, .int (q.1 65)]) rfl (Nat.le_of_ble_eq_true rfl) (hT_mono (by first | decide | omega) (show hT 1 197 [.ref 68, .int (q.1 65)] _ (fun r M' => r = none ∧ ∃ x8 : Int32, ((q.1 66).toInt = -1 → x8 = (q.1 65)) ∧ (¬ (q.1 66).toInt = -1 → x8 = (q.1 66)) ∧ Rm X (sF q 66 x8) M') from r_197 hM (q.1 65)) (fun r1 M62 w => ?_))
        obtain ⟨rfl, xu63, pu63, nu63, hM62⟩ := w
        have piu63 : (q.1 66).toInt = -1 → xu63.toInt = (q.1 65).toInt := fun z => by rw [pu63 z]
        have niu63 : ¬ (q.1 66).toInt = -1 → xu63.toInt = (q.1 66).toInt := fun z => by rw [nu63 z]
        replace hM62 := rm_to (q' := (sF q 66 xu63)) hM62 (show sF q 66 xu63 = (sF q 66 xu63) from (show sF q 66 xu63 = (sF q 66 xu63) from rfl))
        refine hs (f := dm_push 27 (.int 0)) rfl rfl ?_
        exact hr (f := dm_ret .int) rfl rfl (⟨_, q.1 65, xu63, rfl, by omega, by intro z; omega, rm_to (q' := sF (sF q 65 (q.1 65)) 66 xu63) hM62 (congrArg (fun z => sF z 66 xu63) (sF_id rfl))⟩)
    · skip
      have h1 : ¬ (q.1 66).toInt = (-1) := h1
      refine hs (f := dm_push 9 (.int 0)) rfl rfl ?_
      exact hr (f := dm_ret .int) rfl rfl (⟨_, q.1 65, q.1 66, rfl, by omega, by intro z; omega, rm_to (q' := sF (sF q 65 (q.1 65)) 66 (q.1 66)) hM (Eq.trans (sF_id (q := q) (k := 65) rfl) (sF_id rfl))⟩)
theorem r_202 {X : dm_Mem} {q : rS} {M : dm_Mem} (hM : Rm X q M) (p : Int64) (v : Int32) (hn : 0 ≤ (q.1 29).toInt ∧ (q.1 29).toInt < 24000) : hT 1 202 [.ref 68, .long p, .int v] M (fun r M' => ∃ (n : Int32) (b : Nat → Int64) (g : Nat → Int32), r = some (.int n) ∧ ((n = (q.1 29) ∧ 0 < (q.1 29).toInt ∧ b = (q.2.2.2 92)) ∨ (n.toInt = (q.1 29).toInt + 1 ∧ b = vp_updL (q.2.2.2 92) (q.1 29).toInt.toNat p)) ∧ Rm X (sA (sB q 92 b) 93 g) M') := by
  refine hx (t := cd_202) rfl (Nat.le_of_ble_eq_true rfl) (lv := [(0, .ref 68), (1, .long p), (3, .int v)]) rfl ?_
  refine hs (f := dm_ald 1 0) rfl rfl ?_
  refine r_geti (q.1 29) rfl hM rfl rfl ?_
  refine g_if_le (n := 7) (tt := 27) rfl (fun h1 => ?_) (fun h1 => ?_)
  · skip
    have h1 : (q.1 29).toInt ≤ 0 := h1
    refine hs (f := dm_ald 28 0) rfl rfl ?_
    refine r_geta (c := 89) rfl hM rfl ?_
    refine hs (f := dm_ald 32 0) rfl rfl ?_
    refine r_geti (q.1 29) rfl hM rfl rfl ?_
    refine hs (f := dm_lld 36 1) rfl rfl ?_
    refine r_last (L := 24000) (i := (q.1 29)) (x := p) (q.2.2.2 92) rfl hM rfl (by omega) rfl (fun M2 hM2 => ?_)
    replace hM2 := rm_to (q' := (sB q 92 (vp_updL (q.2.2.2 92) (q.1 29).toInt.toNat p))) hM2 (show sB q 92 (vp_updL (q.2.2.2 92) (q.1 29).toInt.toNat p) = (sB q 92 (vp_updL (q.2.2.2 92) (q.1 29).toInt.toNat p)) from (show sB q 92 (vp_updL (q.2.2.2 92) (q.1 29).toInt.toNat p) = (sB q 92 (vp_updL (q.2.2.2 92) (q.1 29).toInt.toNat p)) from rfl))
    refine hs (f := dm_ald 38 0) rfl rfl ?_
    refine r_geta (c := 90) rfl hM2 rfl ?_
    refine hs (f := dm_ald 42 0) rfl rfl ?_
    refine r_geti (q.1 29) rfl hM2 rfl rfl ?_
    refine hs (f := dm_ild 46 3) rfl rfl ?_
    refine r_iast (L := 24000) (i := (q.1 29)) (x := v) (q.2.2.1 93) rfl hM2 rfl (by omega) rfl (fun M3 hM3 => ?_)
    replace hM3 := rm_to (q' := (sA (sB q 92 (vp_updL (q.2.2.2 92) (q.1 29).toInt.toNat p)) 93 (upd (q.2.2.1 93) (q.1 29).toInt.toNat v))) hM3 (show sA (sB q 92 (vp_updL (q.2.2.2 92) (q.1 29).toInt.toNat p)) 93 (upd (q.2.2.1 93) (q.1 29).toInt.toNat v) = (sA (sB q 92 (vp_updL (q.2.2.2 92) (q.1 29).toInt.toNat p)) 93 (upd (q.2.2.1 93) (q.1 29).toInt.toNat v)) from (show sA (sB q 92 (vp_updL (q.2.2.2 92) (q.1 29).toInt.toNat p)) 93 (upd (q.2.2.1 93) (q.1 29).toInt.toNat v) = (sA (sB q 92 (vp_updL (q.2.2.2 92) (q.1 29).toInt.toNat p)) 93 (upd (q.2.2.1 93) (q.1 29).toInt.toNat v)) from rfl))
    refine hs (f := dm_ald 48 0) rfl rfl ?_
    refine r_geti (q.1 29) rfl hM3 rfl rfl ?_
    refine hs (f := dm_push 52 (.int 1)) rfl rfl ?_
    have e4 : ((q.1 29) + (1 : Int32)).toInt = (q.1 29).toInt + 1 := by have w := i_addc (x := (q.1 29)) (y := (1 : Int32)) 1 rfl (by omega) (by omega); omega
    refine hs (f := dm_ii 53 (fun x y => x + y)) (st' := [.int ((q.1 29) + (1 : Int32))]) rfl rfl ?_
    exact hr (f := dm_ret .int) rfl rfl (⟨_, _, _, rfl, Or.inr ⟨by omega, rfl⟩, hM3⟩)
  · skip
    have h1 : (q.1 29).toInt > 0 := h1
    refine hs (f := dm_ald 8 0) rfl rfl ?_
    refine r_geta (c := 90) rfl hM rfl ?_
    refine hs (f := dm_ald 12 0) rfl rfl ?_
    refine r_geti (q.1 29) rfl hM rfl rfl ?_
    refine hs (f := dm_push 16 (.int 1)) rfl rfl ?_
    have e5 : ((q.1 29) - (1 : Int32)).toInt = (q.1 29).toInt - 1 := by have w := i_subc (x := (q.1 29)) (y := (1 : Int32)) 1 rfl (by omega) (by omega); omega
    refine hs (f := dm_ii 17 (fun x y => x - y)) (st' := [.int ((q.1 29) - (1 : Int32)), .ref 93]) rfl rfl ?_
    refine r_iald (L := 24000) (i := ((q.1 29) - (1 : Int32))) ((q.2.2.1 93) ((q.1 29) - (1 : Int32)).toInt.toNat) rfl hM rfl (by omega) rfl ?_
    generalize g7 : (q.2.2.1 93) ((q.1 29) - (1 : Int32)).toInt.toNat = v6
    have x8 : v6.toInt = rA (q.2.2.1 93) ((q.1 29).toInt - 1) := rA_of (i := ((q.1 29) - (1 : Int32))) g7 e5
    refine hs (f := dm_ild 19 3) rfl rfl ?_
    refine g_ic_ne (n := 22) (tt := 27) rfl (fun h9 => ?_) (fun h9 => ?_)
    · skip
      have h9 : ¬ v6.toInt = v.toInt := h9
      refine hs (f := dm_ald 28 0) rfl rfl ?_
      refine r_geta (c := 89) rfl hM rfl ?_
      refine hs (f := dm_ald 32 0) rfl rfl ?_
      refine r_geti (q.1 29) rfl hM rfl rfl ?_
      refine hs (f := dm_lld 36 1) rfl rfl ?_
      refine r_last (L := 24000) (i := (q.1 29)) (x := p) (q.2.2.2 92) rfl hM rfl (by omega) rfl (fun M10 hM10 => ?_)
      replace hM10 := rm_to (q' := (sB q 92 (vp_updL (q.2.2.2 92) (q.1 29).toInt.toNat p))) hM10 (show sB q 92 (vp_updL (q.2.2.2 92) (q.1 29).toInt.toNat p) = (sB q 92 (vp_updL (q.2.2.2 92) (q.1 29).toInt.toNat p)) from (show sB q 92 (vp_updL (q.2.2.2 92) (q.1 29).toInt.toNat p) = (sB q 92 (vp_updL (q.2.2.2 92) (q.1 29).toInt.toNat p)) from rfl))
      refine hs (f := dm_ald 38 0) rfl rfl ?_
      refine r_geta (c := 90) rfl hM10 rfl ?_
      refine hs (f := dm_ald 42 0) rfl rfl ?_
      refine r_geti (q.1 29) rfl hM10 rfl rfl ?_
      refine hs (f := dm_ild 46 3) rfl rfl ?_
      refine r_iast (L := 24000) (i := (q.1 29)) (x := v) (q.2.2.1 93) rfl hM10 rfl (by omega) rfl (fun M11 hM11 => ?_)
      replace hM11 := rm_to (q' := (sA (sB q 92 (vp_updL (q.2.2.2 92) (q.1 29).toInt.toNat p)) 93 (upd (q.2.2.1 93) (q.1 29).toInt.toNat v))) hM11 (show sA (sB q 92 (vp_updL (q.2.2.2 92) (q.1 29).toInt.toNat p)) 93 (upd (q.2.2.1 93) (q.1 29).toInt.toNat v) = (sA (sB q 92 (vp_updL (q.2.2.2 92) (q.1 29).toInt.toNat p)) 93 (upd (q.2.2.1 93) (q.1 29).toInt.toNat v)) from (show sA (sB q 92 (vp_updL (q.2.2.2 92) (q.1 29).toInt.toNat p)) 93 (upd (q.2.2.1 93) (q.1 29).toInt.toNat v) = (sA (sB q 92 (vp_updL (q.2.2.2 92) (q.1 29).toInt.toNat p)) 93 (upd (q.2.2.1 93) (q.1 29).toInt.toNat v)) from rfl))
      refine hs (f := dm_ald 48 0) rfl rfl ?_
      refine r_geti (q.1 29) rfl hM11 rfl rfl ?_
      refine hs (f := dm_push 52 (.int 1)) rfl rfl ?_
      have e12 : ((q.1 29) + (1 : Int32)).toInt = (q.1 29).toInt + 1 := by have w := i_addc (x := (q.1 29)) (y := (1 : Int32)) 1 rfl (by omega) (by omega); omega
      refine hs (f := dm_ii 53 (fun x y => x + y)) (st' := [.int ((q.1 29) + (1 : Int32))]) rfl rfl ?_
      exact hr (f := dm_ret .int) rfl rfl (⟨_, _, _, rfl, Or.inr ⟨by omega, rfl⟩, hM11⟩)
    · skip
      have h9 : v6.toInt = v.toInt := h9
      refine hs (f := dm_ald 23 0) rfl rfl ?_
      refine r_geti (q.1 29) rfl hM rfl rfl ?_
      exact hr (f := dm_ret .int) rfl rfl (⟨_, (q.2.2.2 92), q.2.2.1 93, rfl, Or.inl ⟨rfl, by omega, rfl⟩, rm_to (q' := sA (sB q 92 (q.2.2.2 92)) 93 (q.2.2.1 93)) hM (Eq.trans (sB_id (q := q) (k := 92) rfl) (sA_id rfl))⟩)
