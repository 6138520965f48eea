/-! height and owns: the class's throw, and how the law catches it -/
def tx_t : String := "no such stamp, or no such place"
def tx_x : dm_Cell := .inr (9, [.null, .null, .null, .null, .null, .null])
def tx_at : List Cond := (tx_own RX10 156 RNse "java/lang/RuntimeException" 13 prog_23_method_4_code ["java/lang/Exception"]).filter vx_no
def tx_Dn : List MethodName := [Bundle.initS "java/lang/RuntimeException", Bundle.initS "java/lang/Exception", Bundle.initS Bundle.tN]
theorem tx_at1 : ∀ w ∈ tx_at, goodWord w = true ∨ ∃ x ∈ tx_Dn, w = .declares x := by
  have h : tx_at.all (fun w => goodWord w || tx_Dn.any (fun x => decide (w = .declares x))) = true := by decide +kernel
  intro w hw
  have h1 := List.all_eq_true.mp h w hw
  rw [Bool.or_eq_true, List.any_eq_true] at h1
  rcases h1 with h1 | ⟨x, h1, h2⟩
  · exact Or.inl h1
  · exact Or.inr ⟨x, h1, of_decide_eq_true h2⟩
theorem tx_at2 : ∀ w ∈ tx_at.filter goodWord, w ∈ lw_tbl := by decide +kernel
theorem tx_at3 : ∀ w ∈ Cond.classLink RX10 152 RNse :: Cond.initialized RNse :: tx_at, vx_ot w = true := by decide +kernel
theorem tx_at4 : ∀ w ∈ [Cond.classLink RX10 152 RNse, Cond.initialized RNse], w ∈ lw_tbl ∧ goodWord w = true := by decide +kernel
/-- what a throw wants of the state: two statics of Throwable, the text -/
def tx_K (b : Nat) (U : State) : Prop := vx_Zq Bundle.tN "UNASSIGNED_STACK" Bundle.steD (fun q => b ≤ q) U U.heap ∧ vx_Zq Bundle.tN "SUPPRESSED_SENTINEL" Bundle.listD (fun q => b ≤ q) U U.heap ∧ (∀ x ∈ tx_Dn, va_Nw (.declares x) U) ∧ va_Nw (.castable RNse RNse) U ∧ ∃ sa, vk_R RX10 154 tx_t sa U
theorem tx_K.move {b : Nat} {s U : State} {H : Heap} {locs : List Loc} (hW : s.WarmedH U.vm) (hS : va_S (fun q => b ≤ q) s.heap H locs) (hU : U.heap = H) (h : tx_K b s) : tx_K b U := by
  obtain ⟨h1, h2, h4, h5, sa, h3⟩ := h
  exact ⟨by rw [hU]; exact vx_Zq.moved hW.alike (h1.kept hS.2.1), by rw [hU]; exact vx_Zq.moved hW.alike (h2.kept hS.2.1), fun x hx => va_Nw.warmD hW (h4 x hx), va_Nw.warmC hW h5, sa, vk_R.warm hW h3⟩
theorem tx_K.call {b : Nat} {U : State} {g : JFrame} {mk : MethodId} {a : Array Value} (h : tx_K b U) : tx_K b (U.calling g mk a) := by
  obtain ⟨h1, h2, h4, h5, sa, h3⟩ := h
  exact ⟨vx_Zq.moved (u := U) (U := U.calling g mk a) (Vm.Alike.refl U.vm) h1, vx_Zq.moved (u := U) (U := U.calling g mk a) (Vm.Alike.refl U.vm) h2, fun x hx => va_Nw.same (u := U) (U := U.calling g mk a) rfl rfl (h4 x hx), va_Nw.same (u := U) (U := U.calling g mk a) rfl rfl h5, sa, vk_R.same (u := U) (U := U.calling g mk a) rfl h3⟩
abbrev tx_B (D : va_G) (ca : FieldType → ClassId) (b zb : Nat) (M : dm_Mem) (U : State) : Prop := dm_Hp D ca b zb M U.heap ∧ va_K D vwCl (dm_tys ca) U ∧ dm_Nk U ∧ tx_K b U
theorem tx_blind {D : va_G} {ca : FieldType → ClassId} {b zb : Nat} {M : dm_Mem} {av : List Value} : FrameBlind (va_Pc av (tx_B D ca b zb M)) :=
  fun a U g mk q => ⟨q.1, q.2.1, va_K.moved (u := U) (U := U.calling g mk a) (Vm.Alike.refl U.vm) q.2.2.1, fun w hw => va_Nw.same (u := U) (U := U.calling g mk a) rfl rfl (q.2.2.2.1 w hw), q.2.2.2.2.call⟩
/-- the place where the throw begins -/
def tx_mark : dm_Sem := fun _ st _ => match st with
  | [] => some (.inr (.inr (some (.long 77))))
  | _ => none
/-- a step that doesn't return -/
def tx_nr (f : dm_Sem) : dm_Sem := fun lv st M => match f lv st M with
  | some (.inr (.inr _)) => none
  | o => o
theorem tx_nr_i {f : dm_Sem} {lv : dm_Lv} {st : List Value} {M : dm_Mem} {o : dm_Rs} (h : tx_nr f lv st M = some o) : f lv st M = some o ∧ ∀ v, o ≠ .inr (.inr v) := by
  unfold tx_nr at h
  split at h
  · cases h
  · rename_i hne
    exact ⟨h, fun v hv => hne v (by rw [h, hv])⟩
theorem tx_nr_s {f : dm_Sem} {lv : dm_Lv} {st : List Value} {M : dm_Mem} {q : dm_Fr × dm_Mem} (h : f lv st M = some (.inl q)) : tx_nr f lv st M = some (.inl q) := by
  unfold tx_nr
  rw [h]
theorem tx_nr_c {f : dm_Sem} {lv : dm_Lv} {st : List Value} {M : dm_Mem} {q : Nat × List Value × dm_Fr} (h : f lv st M = some (.inr (.inl q))) : tx_nr f lv st M = some (.inr (.inl q)) := by
  unfold tx_nr
  rw [h]
def tx_ma (t : dm_Code) : dm_Code := t.map (fun r => r.map tx_nr)
def tx_mk (t : dm_Code) : dm_Code := (tx_ma t).set 1 (((tx_ma t).getD 1 []).set 4 tx_mark)
theorem tx_ma_f {t : dm_Code} {pc : Nat} {f : dm_Sem} (h : dm_fetch (tx_ma t) pc = some f) : ∃ f0, dm_fetch t pc = some f0 ∧ f = tx_nr f0 := by
  unfold dm_fetch tx_ma at h
  unfold dm_fetch
  rw [List.getElem?_map] at h
  cases e1 : t[pc / 16]? with
  | none => rw [e1] at h; cases h
  | some r =>
    rw [e1] at h
    simp only [Option.map_some, List.getElem?_map] at h ⊢
    cases e2 : r[pc % 16]? with
    | none => rw [e2] at h; cases h
    | some f0 => rw [e2] at h; exact ⟨f0, rfl, (Option.some.inj h).symm⟩
theorem tx_mk_f {t : dm_Code} {pc : Nat} {f : dm_Sem} (h : dm_fetch (tx_mk t) pc = some f) : (pc = 20 ∧ f = tx_mark) ∨ ∃ f0, dm_fetch t pc = some f0 ∧ f = tx_nr f0 := by
  by_cases h1 : pc / 16 = 1
  · by_cases hl : 1 < (tx_ma t).length
    · by_cases h2 : pc % 16 = 4
      · left
        unfold dm_fetch tx_mk at h
        rw [h1, List.getElem?_set_self hl] at h
        simp only at h
        rw [h2] at h
        have hl2 := (List.getElem?_eq_some_iff.mp h).1
        rw [List.length_set] at hl2
        rw [List.getElem?_set_self hl2] at h
        exact ⟨by omega, (Option.some.inj h).symm⟩
      · right
        refine tx_ma_f ?_
        unfold dm_fetch tx_mk at h
        unfold dm_fetch
        rw [h1, List.getElem?_set_self hl] at h
        have e1 : (tx_ma t)[1]? = some ((tx_ma t).getD 1 []) := by
          rw [List.getD_eq_getElem?_getD, List.getElem?_eq_getElem hl]; rfl
        rw [h1, e1]
        simp only at h ⊢
        rw [List.getElem?_set_ne (Ne.symm h2)] at h
        exact h
    · right
      refine tx_ma_f ?_
      unfold tx_mk at h
      rw [List.set_eq_of_length_le (by omega)] at h
      exact h
  · right
    refine tx_ma_f ?_
    unfold dm_fetch tx_mk at h
    unfold dm_fetch
    rw [List.getElem?_set_ne (Ne.symm h1)] at h
    exact h
/-- what the state is when the exception has left -/
def tx_XC (D : va_G) (ca : FieldType → ClassId) (b zb : Nat) (M : dm_Mem) : String → State → State → Prop := fun E st t => E = RNse ∧ dm_Hp D ca b zb (M ++ [tx_x]) t.heap ∧ va_F (fun q => b ≤ q) st t
theorem tx_throwS {p : Program} {l : Launch} {e : Env} {R : Room} {s : State} {m : MethodId} {args : Array Value} {below : List Frame} {meth : Method} {c : Code} {H : Heap} {locs : List Loc} {cells slots : Nat} {free : Addr → Prop} {ls : Array Slot} {rest : List Value} {Qc : Array Value → State → Outcome → State → Prop} {XC : String → State → State → Prop} {cc : ByteArray} {pc : Nat} (hexec : p.tables.exec = Jvm.exec) (hb : c.code = cc) (hl : l.stackTraces = false) {own cls text Y : String} {r : List String} {ik is ic ix mc ms sa : Nat} {rx : ByteArray} {A : Nat → Prop}
    (x0 : decode rx 0 = .ok (.aload_n 0, 1)) (x1 : decode rx 1 = .ok (.aload_n 1, 1)) (x2 : decode rx 2 = .ok (.invokespecial ix, 3)) (x5 : decode rx 5 = .ok (.return_, 1))
    (hown : s.vm.findClass own = some m.cls) (hcls : Bundle.fit cls = true) (hY : Bundle.fit Y = true) (hr : ∀ n ∈ r, Bundle.fit n = true)
    (hk : (Cond.classLink own ik cls).before args s = true) (hini : (Cond.initialized cls).before args s = true) (hstr : vk_R own is text sa s) (hat : ∀ w ∈ (tx_own own ic cls Y ix rx r).filter vx_no, w.before args s = true)
    (hgood : ∀ w ∈ Cond.classLink own ik cls :: Cond.initialized cls :: (tx_own own ic cls Y ix rx r).filter vx_no, vx_ot w = true)
    (hU : vx_Zq Bundle.tN "UNASSIGNED_STACK" Bundle.steD A s s.heap) (hN : vx_Zq Bundle.tN "SUPPRESSED_SENTINEL" Bundle.listD A s s.heap) (hS : va_S A s.heap H locs) (hsize : ls.size = c.maxLocals)
    (d0 : decode cc pc = .ok (.new ik, 3)) (d3 : decode cc (pc + 3) = .ok (.dup, 1)) (d4 : decode cc (pc + 4) = .ok (.ldc is, 2)) (d6 : decode cc (pc + 6) = .ok (.invokespecial ic, 3)) (d9 : decode cc (pc + 9) = .ok (.athrow, 1))
    (hout : ∀ x ∈ c.exceptionTable.toList, covers x (pc + 9) = false)
    (hRframes : r.length + 4 < R.frames) (hRlocals : (rest.map fun v => v.category).sum + (13 * (r.length + 2) + 43) ≤ R.locals) (hRcells : cells + 1 ≤ R.cells) (hRslots : slots + 6 ≤ R.slots) (hlocks : meth.locks = false)
    (hx : ∀ t : State, s.vm.Alike t.vm → H.size ≤ t.heap.size → (∀ q : Nat, q < H.size → t.heap[q]? = H[q]?) → t.heap.size ≤ H.size + 1 → (∃ ce : Cell, t.heap[H.size]? = some ce ∧ ce.vm = .none ∧ s.vm.findClass cls = some ce.cls) → XC cls s t)
    (hf : ∀ z ∈ locs, free z.base) (hc : cells + 1 ≤ mc) (hs : slots + 6 ≤ ms) :
    W p l e R s m args below meth c H locs cells slots (vx_MQ below Qc XC args s mc ms free) (F0 m pc ls rest) := by
  intro T hT X
  have htr : e.platform.stackTraces = false := (show e.platform.stackTraces = l.stackTraces by rw [X.admits.platform]).trans hl
  have Y9 := vx_rebase X (R' := { frames := R.frames, locals := R.locals, cells := 1, slots := 6 }) (Nat.le_refl _) (Nat.le_refl _) hRcells hRslots
  obtain ⟨s', hA⟩ : ∃ z, z = (T.setVm s.vm).setFrames (.invoking m args :: below) := ⟨_, rfl⟩
  rw [← hA] at Y9
  have hvm : s'.vm = s.vm := by rw [hA]; rfl
  have hhp : s'.heap = H := by rw [hA]; exact hT
  have hW0 : s.WarmedH s'.vm := by rw [hvm]; exact State.WarmedH.refl s
  have hat' : ∀ w ∈ (tx_own own ic cls Y ix rx r).filter vx_no, w.before args s' = true := fun w hw => vx_ot_at hW0 hvm.symm (hgood w (List.mem_cons_of_mem _ (List.mem_cons_of_mem _ hw))) (hat w hw)
  have hk' : (Cond.classLink own ik cls).before args s' = true := vx_ot_at hW0 hvm.symm (hgood _ List.mem_cons_self) hk
  have hini' : (Cond.initialized cls).before args s' = true := vx_ot_at hW0 hvm.symm (hgood _ (List.mem_cons_of_mem _ List.mem_cons_self)) hini
  have hU' : vx_Zq Bundle.tN "UNASSIGNED_STACK" Bundle.steD A s' s'.heap := by rw [hhp]; exact vx_Zq.moved hW0.alike (hU.kept hS.2.1)
  have hN' : vx_Zq Bundle.tN "SUPPRESSED_SENTINEL" Bundle.listD A s' s'.heap := by rw [hhp]; exact vx_Zq.moved hW0.alike (hN.kept hS.2.1)
  have h : ∀ w ∈ tx_own own ic cls Y ix rx r, w.before args s' = true := vx_own hat' (vx_isRefq hU'.1) (vx_isRefq hN'.1) hU'.2.word hN'.2.word
  have hown' : s'.vm.findClass own = some m.cls := by rw [hvm]; exact hown
  have hins : (Cond.instantiable cls 6).before args s' = true := h _ (by simp [tx_own])
  obtain ⟨vm₁, cX, kX, hfX, hkX, -, -, X₁, st1⟩ := Y9.newCold hexec (own := own) (C := cls) (index := ik) (n := 6) hown' hk' hins hini'
    (g := F0 m pc ls rest) rfl (by rw [hb]; exact d0) (Nat.le_refl _) (Nat.le_refl _)
  generalize hT1 : (T.setVm vm₁).pushCell { cls := cX, slots := kX.instanceTypes.map defaultValue, vm := .none } = T1 at X₁ st1
  have hcat : (Value.ref T.heap.size).category = 1 := rfl
  have hcellA : T1.heap[T.heap.size]? = some (freshCell cX kX) := by rw [← hT1]; exact State.heap_pushCell_size _ _
  have d3' : decode c.code (pc + 3) = .ok (.dup, 1) := by rw [hb]; exact d3
  have d4' : decode c.code (pc + 4) = .ok (.ldc is, 2) := by rw [hb]; exact d4
  have hstr' : vk_R own is text sa s' := vk_R.warm hW0 hstr
  obtain ⟨U, hsteps, hrun, hend, hW, hsame, ce, hce, hO⟩ := tx_ctor X₁ hexec htr x0 x1 x2 x5 (own := own) (cls := cls) (Y := Y) (r := r) (ic := ic) hown' hcls hY hr h (fun x hx => nomatch hx) hfX hkX hcellA (by rw [hhp, hT]; exact Nat.le_refl _) (msg := .ref sa) rfl
    (g := { method := m, pc := pc + 6, locals := ls, stack := .ref sa :: .ref T.heap.size :: .ref T.heap.size :: rest, locked := none }) rfl hsize rfl rfl (rest := rest) rfl
    (by rw [hb]; exact d6) (by rw [hb]; exact d9) hout hRframes (by simp only [List.map_cons, List.sum_cons, hcat]; omega) hlocks
  obtain ⟨f1, f2⟩ := vx_frame hsame
  rw [hhp] at f1 f2
  have hWs : s.WarmedH U.vm := State.WarmedH.trans hW0 hW
  have hcl : s.vm.findClass cls = some ce.cls := by
    have h9 := hO.2
    rw [hvm] at h9
    exact h9
  have hall : s.sameButNew ({ U with vm := s.vm } : State) locs mc ms := by
    subst hA
    obtain ⟨e1, e2⟩ := hsame
    rw [State.setFrames_setFrames] at e1
    have h2 : (T.setVm s.vm).sameButNew ({ U with vm := s.vm } : State) [] (0 + 1) (0 + 6) := ⟨e1, e2⟩
    have h3 := X.same.trans h2
    rw [List.append_nil] at h3
    exact h3.mono hc hs
  refine ⟨U, ?_, .threw T.heap.size, hrun, hend, Or.inr ⟨T.heap.size, rfl, cls, ce, locs, hx U hWs.alike f1 (fun q hq => f2 q hq (fun z hz => nomatch hz)) (by have h9 := hsame.2.2.1; rw [hhp] at h9; exact h9) ⟨ce, by rw [← hT]; exact hce, hO.1, hcl⟩, hce, hO.1, hcl, hWs, hall, hf⟩⟩
  refine st1 _ ?_
  show Steps p.tables e below (T1.setTop { method := m, pc := pc + 3, locals := ls, stack := .ref T.heap.size :: rest, locked := none }) _
  jvm_step X₁.here [X₁.here.top, hexec, d3', Value.category]
  exact X₁.ldcString hexec (own := own) (text := text) (index := is) (a := sa) hown' hstr'.1 hstr'.2
    (g := { method := m, pc := pc + 4, locals := ls, stack := .ref T.heap.size :: .ref T.heap.size :: rest, locked := none }) rfl d4' _ hsteps
theorem tx_run_le {K : dm_K} {t : dm_Code} {tb : Nat → dm_Me} {l : Launch} {d : Nat} (hK : ∀ mj as M r M', K mj as M = some (r, M') → dm_Met tb l d mj as M r M') (hG : ∀ pc f, dm_fetch t pc = some f → ∀ lv st M (g' : dm_Fr) (M1 : dm_Mem), f lv st M = some (.inl (g', M1)) → M.length ≤ M1.length ∧ dm_slots M ≤ dm_slots M1) :
    ∀ (n : Nat) (g : dm_Fr) (M : dm_Mem) (r : Option Value) (M' : dm_Mem), dm_run K t n g M = some (r, M') → M.length ≤ M'.length ∧ dm_slots M ≤ dm_slots M' := by
  intro n
  induction n with
  | zero => intro g M r M' h; cases h
  | succ n ih =>
    intro g M r M' h
    rw [dm_run_succ] at h
    obtain ⟨f, e1, h | h | h⟩ := dm_step_cases h
    · obtain ⟨g', M1, e2, e3⟩ := h
      have a1 := hG _ _ e1 _ _ _ _ _ e2
      have a2 := ih _ _ _ _ e3
      exact ⟨Nat.le_trans a1.1 a2.1, Nat.le_trans a1.2 a2.2⟩
    · obtain ⟨mi, as, g', r', M1, e2, e3, e4⟩ := h
      have a1 := (hK _ _ _ _ _ e3).1
      have a2 := ih _ _ _ _ e4
      exact ⟨Nat.le_trans a1.1 a2.1, Nat.le_trans a1.2 a2.2⟩
    · obtain ⟨v, e2, e3⟩ := h
      cases e3
      exact ⟨Nat.le_refl _, Nat.le_refl _⟩
/-- a method that has come to its throw: the exception leaves it -/
theorem tx_met {l : Launch} (hl : l.stackTraces = false) {N d mi : Nat} {as : List Value} {M M' : dm_Mem} (hmi : mi = 108 ∨ mi = 109) (hd : 6 ≤ d) (hlen : (lg_sl as).length ≤ (dm_tb mi).2.2.1)
    (h : dm_run (dm_ex dm_tb dm_cd N d) (tx_mk (dm_cd mi)) N (0, lv_args 0 as, []) M = some (some (.long 77), M')) : (M.length ≤ M'.length ∧ dm_slots M ≤ dm_slots M') ∧ ∀ (D : va_G) (ca : FieldType → ClassId) (b zb : Nat),
    vx_Met l (dm_tb mi).1 (dm_wo (dm_tb mi)) ({ frames := d + 1, cells := M'.length + 1 - M.length, slots := dm_slots M' + 6 - dm_slots M, locals := 64 * (d + 1) }) (va_Pc (as.map (dm_v b zb)) (tx_B D ca b zb M)) (fun _ _ _ _ => False) (tx_XC D ca b zb M') (M'.length + 1 - M.length) (dm_slots M' + 6 - dm_slots M) (fun q => b ≤ q) := by
  have hK : ∀ mj as M r M', dm_ex dm_tb dm_cd N d mj as M = some (r, M') → dm_Met dm_tb l d mj as M r M' := dm_sound dm_all l N d
  obtain ⟨hok, hin, hG⟩ : dm_Mok dm_tb mi ∧ ((dm_tb mi).2.2.2.2 = true → (dm_tb mi).1.name = "<init>") ∧ ∀ pc f, dm_fetch (dm_cd mi) pc = some f → dm_Good dm_tb (dm_tb mi).1.cls (dm_tb mi).2.1 (dm_tb mi).2.2.1 (dm_tb mi).2.2.2.1 (dm_tb mi).2.2.2.2 none pc f := by
    rcases dm_all mi with h0 | h0
    · rw [h0] at h
      cases N with
      | zero => cases h
      | succ N => rw [dm_run_succ] at h; cases h
    · exact h0
  have key : ∀ (p : Program) (e : Env) (R : Room) (s : State) (m : MethodId) (args : Array Value) (below : List Frame) (meth : Method) (c : Code) (D : va_G) (ca : FieldType → ClassId) (b zb : Nat) (Q : State → Prop), dm_Cx (dm_tb mi).1.cls (dm_tb mi).2.1 (dm_tb mi).2.2.1 (dm_tb mi).2.2.2.1 (dm_tb mi).2.2.2.2 none p R s m args meth c D ca b zb M.length → ∀ pc f, dm_fetch (tx_mk (dm_cd mi)) pc = some f → dm_GoodX dm_tb p l e R s m args below meth c D ca b zb M.length (dm_slots M) (dm_tb mi).2.2.1 Q pc f := by
    intro p e R s m args below meth c D ca b zb Q hC pc f hf
    rcases tx_mk_f hf with ⟨_, rfl⟩ | ⟨f0, h0, rfl⟩
    · intro lv st M1 o ho
      unfold tx_mark at ho
      split at ho
      · cases ho; exact trivial
      · cases ho
    · intro lv st M1 o ho
      exact (hG pc f0 h0).X hC lv st M1 o (tx_nr_i ho).1
  have hle : M.length ≤ M'.length ∧ dm_slots M ≤ dm_slots M' := by
    refine tx_run_le hK (fun pc f hf lv st M0 g' M1 e2 => ?_) _ _ _ _ _ h
    rcases tx_mk_f hf with ⟨_, rfl⟩ | ⟨f0, h0, rfl⟩
    · unfold tx_mark at e2
      split at e2
      · cases e2
      · cases e2
    · exact (hG pc f0 h0 _ _ _ _ (tx_nr_i e2).1).1
  refine ⟨hle, fun D ca b zb => ?_⟩
  refine vx_ofW (cc := (dm_tb mi).2.1) (maxL := (dm_tb mi).2.2.1) (ret := (dm_tb mi).2.2.2.1) hok.2.2.2.2 rfl ?_
  intro p e s m args below meth c s₁ B hml htab hv
  obtain ⟨rfl, hH, hKs, hNs, hTs⟩ := hv
  have hts0 := atoms_spec (ws := dm_wo (dm_tb mi)) B.pre
  have hts : ∀ w ∈ dm_W, w.before (as.map (dm_v b zb)).toArray s = true := fun w hw => hts0 w (List.mem_cons_of_mem _ hw)
  have hC : dm_Cx (dm_tb mi).1.cls (dm_tb mi).2.1 (dm_tb mi).2.2.1 (dm_tb mi).2.2.2.1 (dm_tb mi).2.2.2.2 none p (headSpec (dm_wo (dm_tb mi)) { frames := d + 1, cells := M'.length + 1 - M.length, slots := dm_slots M' + 6 - dm_slots M, locals := 64 * (d + 1) }).room s m (as.map (dm_v b zb)).toArray meth c D ca b zb M.length :=
    ⟨B.exec, B.bytes, hml, findClass_of_methodNamed B.named, hts, B.returns, B.notSynchronized, fun hi => by
      rw [(name_of_methodNamed B.named B.method).1]; exact hin hi, hKs, hH.1, by show 1 ≤ d + 1; omega, by show 64 ≤ 64 * (d + 1); omega, (fun _ _ h => by cases h), hNs⟩
  have hat := dm_run_atX (s0 := dm_slots M) (e := e) (below := below) (Q := vx_MQ below (fun _ _ _ _ => False) (tx_XC D ca b zb M') (as.map (dm_v b zb)).toArray s (M'.length + 1 - M.length) (dm_slots M' + 6 - dm_slots M) (fun q => b ≤ q)) hK (key p e _ s m _ below meth c D ca b zb _ hC) (by show d + 1 ≤ d + 1; omega) (by show 64 * d + 64 ≤ 64 * (d + 1); omega) (by show M'.length - M.length ≤ M'.length + 1 - M.length; omega) (by show dm_slots M' - dm_slots M ≤ dm_slots M' + 6 - dm_slots M; omega)
    (fun pc lv st f e1 e2 => by
      rcases tx_mk_f e1 with ⟨rfl, rfl⟩ | ⟨f0, h0, rfl⟩
      · unfold tx_mark at e2
        split at e2
        · intro H locs ls hH1 hS1 hl1
          obtain ⟨hU, hN, hDn, -, sa, hstr⟩ := hTs
          have hat0 : ∀ w ∈ tx_at, w.before (as.map (dm_v b zb)).toArray s = true := fun w hw => by
            rcases tx_at1 w hw with g | ⟨x, hx, rfl⟩
            · exact hts w (dm_in (tx_at2 w (List.mem_filter.mpr ⟨hw, g⟩)) g)
            · exact va_Nw.use rfl (hDn x hx)
          have h4 := tx_at4
          have hcl : (dm_tb mi).1.cls = RX10 := by rcases hmi with rfl | rfl <;> rfl
          have hd0 : decode (dm_tb mi).2.1 20 = .ok (.new 152, 3) ∧ decode (dm_tb mi).2.1 23 = .ok (.dup, 1) ∧ decode (dm_tb mi).2.1 24 = .ok (.ldc 154, 2) ∧ decode (dm_tb mi).2.1 26 = .ok (.invokespecial 156, 3) ∧ decode (dm_tb mi).2.1 29 = .ok (.athrow, 1) := by
            rcases hmi with rfl | rfl
            · exact ⟨dX10_height_20, by decide +kernel, dX10_height_24, dX10_height_26, by decide +kernel⟩
            · exact ⟨dX10_owns_20, by decide +kernel, dX10_owns_24, dX10_owns_26, by decide +kernel⟩
          refine tx_throwS (cc := (dm_tb mi).2.1) (pc := 20) (rest := []) (own := RX10) (cls := RNse) (text := tx_t) (Y := "java/lang/RuntimeException") (r := ["java/lang/Exception"]) (ik := 152) (is := 154) (ic := 156) (ix := 13) (rx := prog_23_method_4_code) (sa := sa) (A := fun q => b ≤ q) B.exec B.bytes hl (by decide +kernel) (by decide +kernel) (by decide +kernel) (by decide +kernel)
            (by rw [← hcl]; exact findClass_of_methodNamed B.named) (by decide +kernel) (by decide +kernel) (by decide +kernel) (hts _ (dm_in (h4 _ (by simp)).1 (h4 _ (by simp)).2)) (hts _ (dm_in (h4 _ (by simp)).1 (h4 _ (by simp)).2)) hstr hat0 tx_at3 hU hN hS1 (by rw [hml]; exact hl1.1)
            hd0.1 hd0.2.1 hd0.2.2.1 hd0.2.2.2.1 hd0.2.2.2.2 (fun x hx => absurd hx (fun h9 => htab x h9)) (by show 1 + 4 < d + 1; omega) (by show 0 + (13 * (1 + 2) + 43) ≤ 64 * (d + 1); omega) (by show M'.length - M.length + 1 ≤ M'.length + 1 - M.length; omega) (by show dm_slots M' - dm_slots M + 6 ≤ dm_slots M' + 6 - dm_slots M; omega) B.notSynchronized
            (fun t a1 a2 a3 a4 a5 => ?_) hS1.2.2 (by omega) (by omega)
          obtain ⟨ce, c1, c2, c3⟩ := a5
          have hlt : H.size < t.heap.size := (Array.getElem?_eq_some_iff.mp c1).1
          have hcls : ce.cls = D.1 9 := by
            have h8 := (hKs.1 9 (RNse, TNse, 0) rfl).2
            exact Option.some.inj (c3.symm.trans h8.1)
          refine ⟨rfl, ⟨by rw [List.length_append, show [tx_x].length = 1 from rfl]; have := hH1.1; omega, ?_⟩, Nat.le_trans hS1.1 a2, fun q q1 q2 => ?_⟩
          · rw [dm_ws_app]
            refine (hH1.2.kept (fun k q hq => a3 q.1 (hH1.2 k q hq).lt)).app (fun k q hq => ?_)
            have hz : k < 1 := (List.getElem?_eq_some_iff.mp hq).1
            rw [show k = 0 by omega] at hq
            cases hq
            exact ⟨(RNse, TNse, 0), rfl, ce, by show t.heap[b + M'.length]? = some ce; rw [← hH1.1]; exact c1, hcls, c2, fun k hk => absurd hk (Nat.not_lt_zero k)⟩
          · rw [a3 q (Nat.lt_of_lt_of_le q1 hS1.1)]
            exact hS1.2.1 q q1 q2
        · cases e2
      · exact absurd rfl ((tx_nr_i e2).2 _)) N (0, lv_args 0 as, []) M (Nat.le_refl _) (Nat.le_refl _) h
  have hl9 := lv_entry (as.map (dm_v b zb)) (n := (dm_tb mi).2.2.1) (by rw [dm_lg_sl]; exact hlen)
  rw [dm_lv_args] at hl9
  rw [lg_entry_eq]
  have h9 := hat s.heap [] _ hH va_S.rf hl9
  rw [Nat.sub_self, Nat.sub_self] at h9
  exact h9
