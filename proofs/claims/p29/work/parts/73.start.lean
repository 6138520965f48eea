/-! the law from its entry -/
def R_law : String := "SplitClocksLaw"
def lw_P (b : Addr) (xs : List Int32) (args : Array Value) (s : State) : Prop := args = #[.ref b] ∧ s.IntsAt b xs ∧ xs.length ≤ 4608 ∧ (Jvm.Cond.and given_1 narrow_1).before args s = true
def lw_Q (_ : Array Value) (s : State) (o : Outcome) (t : State) : Prop := o = .returned (some (.int 1)) ∧ Framed s o t [] 601024 7293034
def lw_Z (below : List Frame) (a : Array Value) (s : State) : State → Prop := fun t => ∃ o, t.status = .running ∧ Ended t below o ∧ lw_Q a s o t
def lw_At (p : Program) (s : State) (m : MethodId) (meth : Method) (c : Code) (b L : Nat) (xs : Nat → Int32) : Prop :=
  p.tables.exec = Jvm.exec ∧ c.code = code ∧ meth.sig.returnType = ret ∧ c.maxLocals = 7 ∧ s.vm.findClass R_law = some m.cls ∧ (∀ w ∈ lw_tbl, w.before #[Value.ref b] s = true) ∧ va_X b L xs s s.heap ∧ b < s.heap.size ∧ meth.locks = false ∧ (Jvm.Cond.and given_1 narrow_1).before #[Value.ref b] s = true
theorem ws_arr {s : State} {args : Array Value} {ty : FieldType} (hp : ∀ C, ty ≠ .object C) (h : (Cond.arrayClass ty).before args s = true) : ∃ cA : ClassId, ArrOfT s cA ty ∧ va_RA s cA ty := by
  obtain ⟨cA, k, comp, h1, h2, h3⟩ := Cond.arrayClass_spec (idx := []) (o := none) (first := s) h
  refine ⟨cA, fun n z => ⟨(fun _ h9 => by cases h9), k, h2, comp, h3⟩, ?_⟩
  cases ty with
  | object C => exact absurd rfl (hp C)
  | _ => exact h1
theorem ws_K {s : State} {args : Array Value} (hts : ∀ w ∈ dm_W, w.before args s = true) (hn : (Cond.instantiable RNse 6).before args s = true) : ∃ (D : va_G) (ca : FieldType → ClassId), va_K D vwCl (dm_tys ca) s := by
  obtain ⟨c0, i0, h0⟩ := u_known (n := 6) hts iw_X0 (hts _ (by decide +kernel))
  obtain ⟨c1, i1, h1⟩ := u_known (n := 2) hts iw_X1 (hts _ (by decide +kernel))
  obtain ⟨c2, i2, h2⟩ := u_known (n := 10) hts iw_X2 (hts _ (by decide +kernel))
  obtain ⟨c3, i3, h3⟩ := u_known (n := 2) hts iw_X4 (hts _ (by decide +kernel))
  obtain ⟨c4, i4, h4⟩ := u_known (n := 2) hts iw_X5 (hts _ (by decide +kernel))
  obtain ⟨c5, i5, h5⟩ := u_known (n := 3) hts iw_X6 (hts _ (by decide +kernel))
  obtain ⟨c6, i6, h6⟩ := u_known (n := 3) hts iw_X8 (hts _ (by decide +kernel))
  obtain ⟨c7, i7, h7⟩ := u_known (n := 11) hts iw_X10 (hts _ (by decide +kernel))
  obtain ⟨c8, i8, h8⟩ := u_known (n := 68) hts iw_X11 (hts _ (by decide +kernel))
  obtain ⟨c9, i9, h9⟩ := u_known (T := TNse) (N := 0) hts (fun w hw => by cases hw) hn
  obtain ⟨a0, b0⟩ := ws_arr (ty := .int) (fun _ h => by cases h) (hts _ (by decide +kernel))
  obtain ⟨a1, b1⟩ := ws_arr (ty := .long) (fun _ h => by cases h) (hts _ (by decide +kernel))
  obtain ⟨a2, b2⟩ := ws_arr (ty := .boolean) (fun _ h => by cases h) (hts _ (by decide +kernel))
  obtain ⟨a3, b3⟩ := ws_arr (ty := .byte) (fun _ h => by cases h) (hts _ (by decide +kernel))
  obtain ⟨a4, b4⟩ := ws_arr (ty := .short) (fun _ h => by cases h) (hts _ (by decide +kernel))
  refine ⟨(fun c => [c0, c1, c2, c3, c4, c5, c6, c7, c8, c9].getD c 0, fun c => [i0, i1, i2, i3, i4, i5, i6, i7, i8, i9].getD c i0), fun t => match t with
    | .int => a0
    | .long => a1
    | .boolean => a2
    | .byte => a3
    | _ => a4, ?_, ?_⟩
  · intro c q hq
    match c, hq with
    | 0, hq => cases hq; exact h0
    | 1, hq => cases hq; exact h1
    | 2, hq => cases hq; exact h2
    | 3, hq => cases hq; exact h3
    | 4, hq => cases hq; exact h4
    | 5, hq => cases hq; exact h5
    | 6, hq => cases hq; exact h6
    | 7, hq => cases hq; exact h7
    | 8, hq => cases hq; exact h8
    | 9, hq => cases hq; exact h9
    | _ + 10, hq => cases hq
  · intro k q hq
    match k, hq with
    | 0, hq => cases hq; exact b0
    | 1, hq => cases hq; exact b1
    | 2, hq => cases hq; exact b2
    | 3, hq => cases hq; exact b3
    | 4, hq => cases hq; exact b4
    | _ + 5, hq => cases hq
theorem ws_N : ∀ q ∈ dm_N, Cond.methodLinkNest q.1 q.2.1 q.2.2.1 q.2.2.2 ∈ lw_tbl := by decide +kernel
theorem ws_D : ∀ x ∈ tx_Dn, Cond.declares x ∈ lw_tbl := by decide +kernel
theorem ws_T : ∀ w ∈ [Cond.castable RNse RNse, Cond.stringRef RX10 154 tx_t, Cond.laysStatic Bundle.tN "UNASSIGNED_STACK" Bundle.steD, Cond.laysStatic Bundle.tN "SUPPRESSED_SENTINEL" Bundle.listD, Cond.initialized Bundle.tN, Cond.instantiable RNse 6], w ∈ lw_tbl := by decide +kernel
theorem ws_tx {s : State} {b B : Nat} (hts : ∀ w ∈ lw_tbl, w.before #[Value.ref b] s = true) (hgv : (Jvm.Cond.and given_1 narrow_1).before #[Value.ref b] s = true) (hB : s.heap.size ≤ B) : tx_K B s := by
  have hs := flat_of_before _ hgv
  have u1 : (Cond.isRef (.static Bundle.tN "UNASSIGNED_STACK" Bundle.steD)).before #[Value.ref b] s = true := hs _ (by decide +kernel)
  have u2 : (Cond.isRef (.static Bundle.tN "SUPPRESSED_SENTINEL" Bundle.listD)).before #[Value.ref b] s = true := hs _ (by decide +kernel)
  have u3 : (Cond.exactly (.string "SplitClocks" 154) "java/lang/String").before #[Value.ref b] s = true := hs _ (by decide +kernel)
  obtain ⟨sa, _, _, _, e1, _⟩ := Cond.exactly_spec (idx := []) (o := none) (first := s) u3
  have hA : ∀ a : Nat, a < s.heap.size → ¬ B ≤ a := fun a h1 h2 => by omega
  have w := fun w hw => hts w (ws_T w hw)
  exact ⟨vx_Zqof (w _ (by simp)) (w _ (by simp)) u1 hA, vx_Zqof (w _ (by simp)) (w _ (by simp)) u2 hA, fun x hx => va_Nw.of rfl (hts _ (ws_D x hx)), va_Nw.of rfl (w _ (by simp)), sa, vk_R.of (A := #[Value.ref b]) (w _ (by simp)) e1⟩
theorem tl_sX_ret {d : Nat} {G : dm_Mem → dm_Mem → Prop} {o : Bool} {n : Nat} {lv : dm_Lv} {st : List Value} {M : dm_Mem} {r : Option Value} : tl_sX d G o n lv st M ≠ some (.inr (.inr r)) := by
  intro h
  obtain ⟨N, -, k, M', e, -⟩ := tl_sX_i h
  cases e
theorem whole_start {p : Program} {e : Env} {s : State} {m : MethodId} {below : List Frame} {meth : Method} {c : Code} (l : Launch) (hfl : l.flags = flags0) {b L : Nat} {xs : Nat → Int32} (hL : L ≤ 4608) (C0 : lw_At p s m meth c b L xs) : W p l e room_1 s m #[Value.ref b] below meth c s.heap [] 0 0 (lw_Z below #[Value.ref b] s) (entryFrame m ([Value.ref b] : List Value).toArray 7) := by
  obtain ⟨hx, hb, hr, hml, hown, hts, hX, hbl, hlk, hgv⟩ := C0
  have hlt : l.stackTraces = false := by unfold Launch.stackTraces; rw [hfl]; decide +kernel
  have htw : ∀ w ∈ dm_W, w.before #[Value.ref b] s = true := fun w hw => hts w (List.mem_filter.mp hw).1
  obtain ⟨D, ca, hK⟩ := ws_K htw (hts _ (ws_T _ (by simp)))
  have hTs : tx_K s.heap.size s := ws_tx hts hgv (Nat.le_refl _)
  have hNs : dm_Nk s := fun q hq => va_Nw.of rfl (hts _ (ws_N q hq))
  have hC : dm_Cx RL cL_law 7 (some .boolean) false (some (L, xs)) p room_1 s m #[Value.ref b] meth c D ca s.heap.size b 0 :=
    ⟨hx, hb, hml, hown, htw, hr, hlk, (fun hi => by cases hi), hK, rfl, by decide, by decide, (fun L' xs' h => by cases h; exact ⟨hX, hbl, hbl⟩), hNs⟩
  obtain ⟨N, n, r, M, hrun, rfl, hb1, hb2⟩ := lw_begin hL xs
  have hok := dm_rows (tk_L L xs (tl_sX 140 lw_G false 582) (tl_sX 140 lw_G true 666))
  have hat := dm_run_atX (K := dm_ex dm_tb dm_cd N 140) (d := 140) (s0 := 0) (n0 := 0) (e := e) (below := below) (Q := lw_Z below #[Value.ref b] s) (dm_sound dm_all l N 140) (fun pc f hf => by
      rcases hok pc f hf with h | ⟨rfl, rfl⟩ | ⟨rfl, rfl⟩
      · exact h.X hC
      · exact tl_X hlt 140 (by decide) lw_G false dL_law_579 hC hTs (by decide) (by decide)
      · exact tl_X hlt 140 (by decide) lw_G true dL_law_663 hC hTs (by decide) (by decide)) (by decide) (by decide) (show M.length - 0 ≤ 601024 by omega) (show dm_slots M - 0 ≤ 7293034 by omega)
    (fun pc lv st f e1 e2 => by
      rcases hok pc f e1 with h | ⟨rfl, rfl⟩ | ⟨rfl, rfl⟩
      · intro H locs ls hH hS hl T hT X
        obtain ⟨t, a1, o, b1, b2, ⟨b3, b4, b5⟩, Lc, ⟨b6, b7, b8⟩, b9⟩ := (h lv st M _ e2) p l e room_1 s m #[Value.ref b] below meth c D ca s.heap.size b 0 0 hC H locs ls hH hS hl T hT X
        refine ⟨t, a1, o, b1, b2, b3, b6, b7, b8.weaken (fun y hy hlt9 => ?_) (by omega) (by omega)⟩
        exact absurd (b9 y hy) (Nat.not_le.mpr hlt9)
      · exact absurd e2 tl_sX_ret
      · exact absurd e2 tl_sX_ret) n (0, [(0, .float 0)], []) [] (Nat.zero_le _) (Nat.zero_le _) hrun
  have hl := lv_entry ([Value.ref b]) (n := 7) (by show 1 ≤ 7; omega)
  rw [lg_entry_eq]
  exact hat s.heap [] _ ⟨rfl, fun k q hq => by cases hq⟩ va_S.rf hl
