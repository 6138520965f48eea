/-! runs, step by step; runs in one setting, with steps of its own -/
theorem rs {K : dm_K} {t : dm_Code} {n : Nat} {f : dm_Sem} {g g' : dm_Fr} {M M' : dm_Mem} {o : Option (Option Value × dm_Mem)} (hf : dm_fetch t g.1 = some f) (hs : f g.2.1 g.2.2 M = some (.inl (g', M'))) (h : dm_run K t n g' M' = o) : dm_run K t (n + 1) g M = o := by
  rw [dm_run_succ]
  unfold dm_step
  rw [hf]
  simp only [hs]
  exact h
theorem rc {K : dm_K} {t : dm_Code} {n : Nat} {f : dm_Sem} {g g' : dm_Fr} {M M' : dm_Mem} {mi : Nat} {as : List Value} {r : Option Value} {o : Option (Option Value × dm_Mem)} (hf : dm_fetch t g.1 = some f) (hs : f g.2.1 g.2.2 M = some (.inr (.inl (mi, as, g')))) (hk : K mi as M = some (r, M')) (h : dm_run K t n (g'.1, g'.2.1, r.toList ++ g'.2.2) M' = o) : dm_run K t (n + 1) g M = o := by
  rw [dm_run_succ]
  unfold dm_step
  rw [hf]
  simp only [hs, hk]
  exact h
theorem rr {K : dm_K} {t : dm_Code} {n : Nat} {f : dm_Sem} {g : dm_Fr} {M : dm_Mem} {v : Option Value} (hf : dm_fetch t g.1 = some f) (hs : f g.2.1 g.2.2 M = some (.inr (.inr v))) : dm_run K t (n + 1) g M = some (v, M) := by
  rw [dm_run_succ]
  unfold dm_step
  rw [hf]
  simp only [hs]
/-- a method's run out of its body's -/
theorem rx {N d mi : Nat} {as : List Value} {M : dm_Mem} {o : Option (Option Value × dm_Mem)} (hl : (lg_sl as).length ≤ (dm_tb mi).2.2.1) (h : dm_run (dm_ex dm_tb dm_cd N d) (dm_cd mi) N (0, lv_args 0 as, []) M = o) : dm_ex dm_tb dm_cd N (d + 1) mi as M = o := by
  rw [dm_ex_succ, if_pos hl]
  exact h
/-- a field, an array's place, the class of a cell, as the memory has them -/
def dm_fld (M : dm_Mem) (a ci k : Nat) : Option Value := match M[a]? with
  | some (.inr o) => if o.1 = ci then o.2[k]? else none
  | _ => none
theorem dm_getf_ok {n ci k a : Nat} {lv : dm_Lv} {r : List Value} {M : dm_Mem} {v : Value} (h : dm_fld M a ci k = some v) : dm_getf n ci k lv (.ref a :: r) M = some (.inl ((n, lv, v :: r), M)) := by
  unfold dm_fld at h
  unfold dm_getf
  split at h
  · rename_i o e1
    split at h
    · rename_i e2
      simp only [e1, e2, if_true, h]
    · cases h
  · cases h
theorem dm_putf_same {n ci k a : Nat} {ty : FieldType} {lv : dm_Lv} {r : List Value} {M : dm_Mem} {v : Value} (h : dm_fld M a ci k = some v) (hf : dm_fit ty v = true) : dm_putf n ci k ty lv (v :: .ref a :: r) M = some (.inl ((n, lv, r), M)) := by
  unfold dm_fld at h
  unfold dm_putf
  split at h
  · rename_i o e1
    split at h
    · rename_i e2
      obtain ⟨h1, h2⟩ := List.getElem?_eq_some_iff.mp h
      simp only [e1, e2, h1, hf, and_self, if_true]
      have e3 : o.2.set k v = o.2 := by
        apply List.ext_getElem?
        intro i
        by_cases hi : k = i
        · subst hi
          rw [List.getElem?_set_self h1, h]
        · rw [List.getElem?_set_ne hi]
      have e4 : M.set a (.inr (ci, o.2)) = M := by
        apply List.ext_getElem?
        intro i
        by_cases hi : a = i
        · subst hi
          rw [List.getElem?_set_self (List.getElem?_eq_some_iff.mp e1).1, e1, ← e2]
        · rw [List.getElem?_set_ne hi]
      rw [e3, e4]
    · cases h
  · cases h
def dm_isO (M : dm_Mem) (a ci : Nat) : Bool := match M[a]? with
  | some (.inr o) => decide (o.1 = ci)
  | _ => false
theorem dm_inv_ok {n mi na ci a : Nat} {lv : dm_Lv} {st r : List Value} {M : dm_Mem} (h : dm_isO M a ci = true) (hd : st.drop na = .ref a :: r) (hs : (r.map fun v => v.category).sum ≤ 8) : dm_inv n mi na ci lv st M = some (.inr (.inl (mi, .ref a :: (st.take na).reverse, (n, lv, r)))) := by
  unfold dm_isO at h
  unfold dm_inv
  split at h
  · rename_i o e1
    have e2 : o.1 = ci := of_decide_eq_true h
    simp only [hd, hs, e1, e2, if_true]
  · cases h
/-- a run that is known to come to r -/
def ev_M : Option (Option Value × dm_Mem) → dm_Mem
  | some r => r.2
  | none => []
theorem ev_ok {o : Option (Option Value × dm_Mem)} {r : Option Value} (h : o.map (fun q => q.1) = some r) : o = some (r, ev_M o) := by
  cases o with
  | none => cases h
  | some q =>
    have h1 : q.1 = r := Option.some.inj h
    rw [← h1]
    rfl
-- ===== one setting =====
def dm_ResX (tb : Nat → dm_Me) (p : Program) (l : Launch) (e : Env) (R : Room) (s : State) (m : MethodId) (args : Array Value) (below : List Frame) (meth : Method) (c : Code) (D : va_G) (ca : FieldType → ClassId) (b zb n0 s0 nL : Nat) (Q : State → Prop) (pc : Nat) (lv : dm_Lv) (st : List Value) (M : dm_Mem) : dm_Rs → Prop
  | .inl q => (M.length ≤ q.2.length ∧ dm_slots M ≤ dm_slots q.2) ∧ (n0 ≤ M.length → s0 ≤ dm_slots M → q.2.length - n0 ≤ R.cells → dm_slots q.2 - s0 ≤ R.slots → dm_At p l e R s m args below meth c D ca b zb n0 s0 nL Q q.2 q.1 → dm_At p l e R s m args below meth c D ca b zb n0 s0 nL Q M (pc, lv, st))
  | .inr (.inl q) => ∀ (d : Nat) (r : Option Value) (M' : dm_Mem), n0 ≤ M.length → s0 ≤ dm_slots M → M'.length - n0 ≤ R.cells → dm_slots M' - s0 ≤ R.slots → d + 1 ≤ R.frames → 64 * d + 64 ≤ R.locals → dm_Met tb l d q.1 q.2.1 M r M' → dm_At p l e R s m args below meth c D ca b zb n0 s0 nL Q M' (q.2.2.1, q.2.2.2.1, r.toList ++ q.2.2.2.2) → dm_At p l e R s m args below meth c D ca b zb n0 s0 nL Q M (pc, lv, st)
  | .inr (.inr _) => True
def dm_GoodX (tb : Nat → dm_Me) (p : Program) (l : Launch) (e : Env) (R : Room) (s : State) (m : MethodId) (args : Array Value) (below : List Frame) (meth : Method) (c : Code) (D : va_G) (ca : FieldType → ClassId) (b zb n0 s0 nL : Nat) (Q : State → Prop) (pc : Nat) (f : dm_Sem) : Prop :=
  ∀ (lv : dm_Lv) (st : List Value) (M : dm_Mem) (o : dm_Rs), f lv st M = some o → dm_ResX tb p l e R s m args below meth c D ca b zb n0 s0 nL Q pc lv st M o
theorem dm_Good.X {tb : Nat → dm_Me} {own : String} {cc : ByteArray} {nL : Nat} {ret : Option FieldType} {isI : Bool} {sc : Option (Nat × (Nat → Int32))} {pc : Nat} {f : dm_Sem} (h : dm_Good tb own cc nL ret isI sc pc f) {p : Program} {l : Launch} {e : Env} {R : Room} {s : State} {m : MethodId} {args : Array Value} {below : List Frame} {meth : Method} {c : Code} {D : va_G} {ca : FieldType → ClassId} {b zb n0 s0 : Nat} {Q : State → Prop} (hC : dm_Cx own cc nL ret isI sc p R s m args meth c D ca b zb n0) : dm_GoodX tb p l e R s m args below meth c D ca b zb n0 s0 nL Q pc f := by
  intro lv st M o ho
  have h1 := h lv st M o ho
  match o, h1 with
  | .inl q, h1 => exact ⟨h1.1, fun a1 a2 a3 a4 a5 => h1.2 p l e R s m args below meth c D ca b zb n0 s0 Q hC a1 a2 a3 a4 a5⟩
  | .inr (.inl q), h1 => exact fun d r M' a1 a2 a3 a4 a5 a6 a7 a8 => h1 p l e R s m args below meth c D ca b zb n0 s0 Q d r M' hC a1 a2 a3 a4 a5 a6 a7 a8
  | .inr (.inr v), _ => exact trivial
theorem dm_run_leX {K : dm_K} {t : dm_Code} {tb : Nat → dm_Me} {d nL : Nat} {p : Program} {l : Launch} {e : Env} {R : Room} {s : State} {m : MethodId} {args : Array Value} {below : List Frame} {meth : Method} {c : Code} {D : va_G} {ca : FieldType → ClassId} {b zb n0 s0 : Nat} {Q : State → Prop} (hK : ∀ mj as M r M', K mj as M = some (r, M') → dm_Met tb l d mj as M r M') (hG : ∀ pc f, dm_fetch t pc = some f → dm_GoodX tb p l e R s m args below meth c D ca b zb n0 s0 nL Q pc f) :
    ∀ (n : Nat) (g : dm_Fr) (M : dm_Mem) (r : Option Value) (M' : dm_Mem), dm_run K t n g M = some (r, M') → M.length ≤ M'.length ∧ dm_slots M ≤ dm_slots M' := by
  intro n
  induction n with
  | zero => intro g M r M' h; cases h
  | succ n ih =>
    intro g M r M' h
    rw [dm_run_succ] at h
    obtain ⟨f, e1, h | h | h⟩ := dm_step_cases h
    · obtain ⟨g', M1, e2, e3⟩ := h
      have a1 := (hG _ _ e1 _ _ _ _ e2).1
      have a2 := ih _ _ _ _ e3
      exact ⟨Nat.le_trans a1.1 a2.1, Nat.le_trans a1.2 a2.2⟩
    · obtain ⟨mi, as, g', r', M1, e2, e3, e4⟩ := h
      have a1 := (hK _ _ _ _ _ e3).1
      have a2 := ih _ _ _ _ e4
      exact ⟨Nat.le_trans a1.1 a2.1, Nat.le_trans a1.2 a2.2⟩
    · obtain ⟨v, e2, e3⟩ := h
      cases e3
      exact ⟨Nat.le_refl _, Nat.le_refl _⟩
theorem dm_run_atX {K : dm_K} {t : dm_Code} {tb : Nat → dm_Me} {d nL : Nat} {p : Program} {l : Launch} {e : Env} {R : Room} {s : State} {m : MethodId} {args : Array Value} {below : List Frame} {meth : Method} {c : Code} {D : va_G} {ca : FieldType → ClassId} {b zb n0 s0 : Nat} {Q : State → Prop} (hK : ∀ mj as M r M', K mj as M = some (r, M') → dm_Met tb l d mj as M r M') (hG : ∀ pc f, dm_fetch t pc = some f → dm_GoodX tb p l e R s m args below meth c D ca b zb n0 s0 nL Q pc f) (hfr : d + 1 ≤ R.frames) (hlo : 64 * d + 64 ≤ R.locals) {r : Option Value} {M' : dm_Mem} (hc1 : M'.length - n0 ≤ R.cells) (hc2 : dm_slots M' - s0 ≤ R.slots)
    (hQ : ∀ pc lv st f, dm_fetch t pc = some f → f lv st M' = some (.inr (.inr r)) → dm_At p l e R s m args below meth c D ca b zb n0 s0 nL Q M' (pc, lv, st)) :
    ∀ (n : Nat) (g : dm_Fr) (M : dm_Mem), n0 ≤ M.length → s0 ≤ dm_slots M → dm_run K t n g M = some (r, M') → dm_At p l e R s m args below meth c D ca b zb n0 s0 nL Q M g := by
  intro n
  induction n with
  | zero => intro g M _ _ h; cases h
  | succ n ih =>
    intro g M hn hs h
    rw [dm_run_succ] at h
    obtain ⟨pc, lv, st⟩ := g
    obtain ⟨f, e1, h | h | h⟩ := dm_step_cases h
    · obtain ⟨g', M1, e2, e3⟩ := h
      have a1 := hG _ _ e1 _ _ _ _ e2
      have a2 := dm_run_leX hK hG _ _ _ _ _ e3
      exact a1.2 hn hs (by show M1.length - n0 ≤ _; omega) (by show dm_slots M1 - s0 ≤ _; omega) (ih g' M1 (Nat.le_trans hn a1.1.1) (Nat.le_trans hs a1.1.2) e3)
    · obtain ⟨mi, as, g', r', M1, e2, e3, e4⟩ := h
      have a1 := hG _ _ e1 _ _ _ _ e2
      have a3 := hK _ _ _ _ _ e3
      have a2 := dm_run_leX hK hG _ _ _ _ _ e4
      exact a1 d r' M1 hn hs (by omega) (by omega) hfr hlo a3 (ih _ M1 (Nat.le_trans hn a3.1.1) (Nat.le_trans hs a3.1.2) e4)
    · obtain ⟨v, e2, e3⟩ := h
      cases e3
      exact hQ _ _ _ f e1 e2
