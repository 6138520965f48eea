/-! the JVM's run from that start, and what follows -/
def R_law : String := "SplitClocksLaw"
def fl_Q (_ : Array Value) (_ : State) (o : Outcome) (_ : State) : Prop := o = .returned (some (.int 0))
def fl_Z (below : List Frame) (a : Array Value) (s : State) : State → Prop := fun t => ∃ o, t.status = .running ∧ Ended t below o ∧ fl_Q a s o t
def lw_At (p : Program) (s : State) (m : MethodId) (meth : Method) (c : Code) (b L : Nat) (xs : Nat → Int32) : Prop :=
  p.tables.exec = Jvm.exec ∧ c.code = code ∧ meth.sig.returnType = ret ∧ c.maxLocals = 7 ∧ s.vm.findClass R_law = some m.cls ∧ (∀ w ∈ lw_tbl, w.before #[Value.ref b] s = true) ∧ va_X b L xs s s.heap ∧ b < s.heap.size ∧ meth.locks = false
theorem ws_arr {s : State} {args : Array Value} {ty : FieldType} (hp : ∀ C, ty ≠ .object C) (h : (Cond.arrayClass ty).before args s = true) : ∃ cA : ClassId, ArrOfT s cA ty ∧ va_RA s cA ty := by
  obtain ⟨cA, k, comp, h1, h2, h3⟩ := Cond.arrayClass_spec (idx := []) (o := none) (first := s) h
  refine ⟨cA, fun n z => ⟨(fun _ h9 => by cases h9), k, h2, comp, h3⟩, ?_⟩
  cases ty with
  | object C => exact absurd rfl (hp C)
  | _ => exact h1
theorem ws_K {s : State} {args : Array Value} (hts : ∀ w ∈ dm_W, w.before args s = true) (hn : (Cond.instantiable RNse 6).before args s = true) : ∃ (D : va_G) (ca : FieldType → ClassId), va_K D vwCl (dm_tys ca) s := by
  obtain ⟨c0, i0, h0⟩ := u_known (n := 6) hts iw_X0 (hts _ (by decide +kernel))
  obtain ⟨c1, i1, h1⟩ := u_known (n := 2) hts iw_X1 (hts _ (by decide +kernel))
  obtain ⟨c2, i2, h2⟩ := u_known (n := 10) hts iw_X2 (hts _ (by decide +kernel))
  obtain ⟨c3, i3, h3⟩ := u_known (n := 2) hts iw_X4 (hts _ (by decide +kernel))
  obtain ⟨c4, i4, h4⟩ := u_known (n := 2) hts iw_X5 (hts _ (by decide +kernel))
  obtain ⟨c5, i5, h5⟩ := u_known (n := 3) hts iw_X6 (hts _ (by decide +kernel))
  obtain ⟨c6, i6, h6⟩ := u_known (n := 3) hts iw_X8 (hts _ (by decide +kernel))
  obtain ⟨c7, i7, h7⟩ := u_known (n := 11) hts iw_X10 (hts _ (by decide +kernel))
  obtain ⟨c8, i8, h8⟩ := u_known (n := 68) hts iw_X11 (hts _ (by decide +kernel))
  obtain ⟨c9, i9, h9⟩ := u_known (T := TNse) (N := 0) hts (fun w hw => by cases hw) hn
  obtain ⟨a0, b0⟩ := ws_arr (ty := .int) (fun _ h => by cases h) (hts _ (by decide +kernel))
  obtain ⟨a1, b1⟩ := ws_arr (ty := .long) (fun _ h => by cases h) (hts _ (by decide +kernel))
  obtain ⟨a2, b2⟩ := ws_arr (ty := .boolean) (fun _ h => by cases h) (hts _ (by decide +kernel))
  obtain ⟨a3, b3⟩ := ws_arr (ty := .byte) (fun _ h => by cases h) (hts _ (by decide +kernel))
  obtain ⟨a4, b4⟩ := ws_arr (ty := .short) (fun _ h => by cases h) (hts _ (by decide +kernel))
  refine ⟨(fun c => [c0, c1, c2, c3, c4, c5, c6, c7, c8, c9].getD c 0, fun c => [i0, i1, i2, i3, i4, i5, i6, i7, i8, i9].getD c i0), fun t => match t with
    | .int => a0
    | .long => a1
    | .boolean => a2
    | .byte => a3
    | _ => a4, ?_, ?_⟩
  · intro c q hq
    match c, hq with
    | 0, hq => cases hq; exact h0
    | 1, hq => cases hq; exact h1
    | 2, hq => cases hq; exact h2
    | 3, hq => cases hq; exact h3
    | 4, hq => cases hq; exact h4
    | 5, hq => cases hq; exact h5
    | 6, hq => cases hq; exact h6
    | 7, hq => cases hq; exact h7
    | 8, hq => cases hq; exact h8
    | 9, hq => cases hq; exact h9
    | _ + 10, hq => cases hq
  · intro k q hq
    match k, hq with
    | 0, hq => cases hq; exact b0
    | 1, hq => cases hq; exact b1
    | 2, hq => cases hq; exact b2
    | 3, hq => cases hq; exact b3
    | 4, hq => cases hq; exact b4
    | _ + 5, hq => cases hq
theorem ws_N : ∀ q ∈ dm_N, Cond.methodLinkNest q.1 q.2.1 q.2.2.1 q.2.2.2 ∈ lw_tbl := by decide +kernel
theorem fl_nse : Cond.instantiable RNse 6 ∈ lw_tbl := by decide +kernel
theorem fl_start {p : Program} {e : Env} {s : State} {m : MethodId} {below : List Frame} {meth : Method} {c : Code} (l : Launch) {b : Nat} (C0 : lw_At p s m meth c b fl_s.length fl_xs) : W p l e room_1 s m #[Value.ref b] below meth c s.heap [] 0 0 (fl_Z below #[Value.ref b] s) (entryFrame m ([Value.ref b] : List Value).toArray 7) := by
  obtain ⟨hx, hb, hr, hml, hown, hts, hX, hbl, hlk⟩ := C0
  have htw : ∀ w ∈ dm_W, w.before #[Value.ref b] s = true := fun w hw => hts w (List.mem_filter.mp hw).1
  obtain ⟨D, ca, hK⟩ := ws_K htw (hts _ fl_nse)
  have hNs : dm_Nk s := fun q hq => va_Nw.of rfl (hts _ (ws_N q hq))
  have hC : dm_Cx RL cL_law 7 (some .boolean) false (some (fl_s.length, fl_xs)) p room_1 s m #[Value.ref b] meth c D ca s.heap.size b 0 :=
    ⟨hx, hb, hml, hown, htw, hr, hlk, (fun hi => by cases hi), hK, rfl, by decide, by decide, (fun L' xs' h => by cases h; exact ⟨hX, hbl, hbl⟩), hNs⟩
  obtain ⟨M, hrun, hb1, hb2⟩ := fl_end
  have hok : ∀ pc f, dm_fetch fl_C pc = some f → dm_Good dm_tb RL cL_law 7 (some .boolean) false (some (fl_s.length, fl_xs)) pc f := fun pc f hf => by
    rcases dm_rows (tk_L fl_s.length fl_xs dm_no dm_no) pc f hf with h | ⟨rfl, rfl⟩ | ⟨rfl, rfl⟩
    · exact h
    · exact dg_no
    · exact dg_no
  have hat := dm_run_atX (K := dm_ex dm_tb dm_cd 2000000 40) (d := 40) (s0 := 0) (n0 := 0) (e := e) (below := below) (Q := fl_Z below #[Value.ref b] s) (dm_sound dm_all l 2000000 40) (fun pc f hf => (hok pc f hf).X hC) (by decide) (by decide) (show M.length - 0 ≤ 601024 by omega) (show dm_slots M - 0 ≤ 7293034 by omega)
    (fun pc lv st f e1 e2 => by
      intro H locs ls hH hS hl T hT X
      obtain ⟨t, a1, o, b1, b2, ⟨b3, b4, b5⟩, b6⟩ := (hok pc f e1 lv st M _ e2) p l e room_1 s m #[Value.ref b] below meth c D ca s.heap.size b 0 0 hC H locs ls hH hS hl T hT X
      exact ⟨t, a1, o, b1, b2, b3⟩) 2000000 (0, [(0, .float 0)], []) [] (Nat.zero_le _) (Nat.zero_le _) hrun
  have hl := lv_entry ([Value.ref b]) (n := 7) (by show 1 ≤ 7; omega)
  rw [lg_entry_eq]
  exact hat s.heap [] _ ⟨rfl, fun k q hq => by cases hq⟩ va_S.rf hl
def fl_P (args : Array Value) (s : State) : Prop := args = #[.ref 0] ∧ s.IntsAt 0 fl_s
set_option maxHeartbeats 4000000 in
theorem fl_walk (l : Launch) : MetFree l x (headSpec (Jvm.Cond.code x code maxLocals ret :: tables_1) room_1) fl_P (fun _ _ _ _ _ => True) fl_Q := by
  refine MetFree.of_bodyS (code := code) (maxLocals := maxLocals) (ret := ret) (by decide) ?_ ?_
  · intro args s m h hn
    obtain ⟨meth, c, h1, h2, h3, h4, h5, h6, -, -⟩ := Cond.code_spec hn (atoms_spec (ws := Jvm.Cond.code x code maxLocals ret :: tables_1) h _ List.mem_cons_self)
    exact ⟨meth, c, h1, h2, h3, h4, h5, h6⟩
  · intro p e s m args below meth c s₁ B hml0 hP _
    obtain ⟨rfl, hx⟩ := hP
    obtain ⟨scr, harrAt, hlist, hof, hsmall⟩ := hx
    obtain ⟨hcb, hkn, -, -⟩ := State.arrayAt?_spec harrAt
    have hown : s.vm.findClass R_law = some m.cls := findClass_of_methodNamed B.named
    have hts0 : ∀ c ∈ (Jvm.Cond.code x code maxLocals ret :: tables_1), c.before #[Value.ref 0] s = true := atoms_spec (ws := Jvm.Cond.code x code maxLocals ret :: tables_1) B.pre
    have hts : ∀ w ∈ lw_tbl, w.before #[Value.ref 0] s = true := k2_hts_sels lw_privs (fun w hw => hts0 w (List.mem_cons_of_mem _ hw)) lw_privs_ok
    have hml : c.maxLocals = 7 := B.maxLocals_eq (hts0 _ List.mem_cons_self)
    have X₀ : Stand p l e room_1 s m #[Value.ref 0] below meth c s₁ [] 0 0 := Stand.of_body B
    have hh0 : s₁.heap = s.heap := by rw [B.state]; rfl
    have hsz : scr.slots.size = fl_s.length := by rw [← Array.length_toList, hlist, List.length_map]
    have hval : ∀ j : Nat, j < fl_s.length → scr.slots[j]? = some (.int (fl_s.getD j 0)) := fun j hj => by
      rw [← Array.getElem?_toList, hlist]
      simp [hj]
    have hbl : 0 < s.heap.size := (Array.getElem?_eq_some_iff.mp hcb).1
    have hX : va_X 0 fl_s.length fl_xs s s.heap := ⟨scr, hcb, hof, hkn, hsz, hval⟩
    have K : W p l e room_1 s m #[Value.ref 0] below meth c s₁.heap [] 0 0 (fl_Z below #[Value.ref 0] s) (entryFrame m ([Value.ref 0] : List Value).toArray 7) := by
      rw [hh0]
      exact fl_start l ⟨B.exec, B.bytes, B.returns, hml, hown, hts, hX, hbl, B.notSynchronized⟩
    obtain ⟨t, a1, o, b1, b2, b3⟩ := K s₁ rfl X₀
    exact ⟨t, o, a1, b1, b2, b3⟩
/-- the law answers 0 at fl_s: the claim falls there -/
theorem fl_falls : RefutedClaimed_1_2 := by
  obtain ⟨a1, a2, a3, a4, a5, a6, a7, a8, a9, a10, -⟩ := fl_at
  obtain ⟨n, o, h1, h2, h3, hQ⟩ := fl_walk launch0 start1.p0 start1.e0 a3 a5 a6 fl_st ⟨0, 0⟩ start1.args0 Lib.HandBits.below0 a7 ((Spec.applies_iff_loose a7).mp a10).1 ⟨rfl, fl_ints⟩ trivial
  refine ⟨launch0, start1.p0, start1.e0, fl_st, ⟨0, 0⟩, start1.args0, Lib.HandBits.below0, rfl, fl_at, n, o, h1, h2, h3, fun hp => ?_⟩
  cases hQ
  have h := Cond.after_iff.mp hp.1
  rw [show limb_1_2 = Cond.eq .result (.int 1) from rfl, Cond.eq_ints (x := 0) (y := 1) rfl rfl] at h
  revert h
  decide
theorem fl_not : ¬ (Claimed_1_1 ∧ Claimed_1_2) := by
  intro hc
  obtain ⟨l, p, e, s, m, args, below, hf, ⟨a1, a2, a3, a4, a5, a6, a7, a8, a9, a10, a11, a12, a13⟩, n, o, h1, h2, h3, h4⟩ := fl_falls
  obtain ⟨n', o', g1, g2, g3, g4⟩ := hc.2 l hf a1 a2 p e a3 a5 a6 s m args below a7 a8 a9 a10 ⟨a11, a12, a13⟩
  have hn : n = n' := by
    rcases Nat.lt_trichotomy n n' with w | w | w
    · exact absurd (g1 n w) h3.not_within
    · exact w
    · exact absurd (h1 n' w) g3.not_within
  subst hn
  rw [g3.outcome_unique h3] at g4
  exact h4 g4
