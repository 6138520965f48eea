/-! calls, returns, what the JDK does -/
/-- behind a call -/
theorem dm_call {p : Program} {l : Launch} {e : Env} {R : Room} {s : State} {m : MethodId} {args : Array Value} {below : List Frame} {meth : Method} {c : Code} {H : Heap} {locs : List Loc} {cells slots mc ms pc : Nat} {Q : State → Prop} {ls : Array Slot} {st0 rest : List Value} {a : Array Value} {D : va_G} {ca : FieldType → ClassId} {b zb : Nat} {r : Option Value} {M' : dm_Mem}
    (hr : va_Run p l e R s m args below meth c H locs cells slots mc ms (F0 m pc ls st0) rest (dm_Qc D ca b zb r M' a) (fun q => b ≤ q)) (hS : va_S (fun q => b ≤ q) s.heap H locs)
    (kk : ∀ (H1 : Heap) (locs1 : List Loc), dm_Hp D ca b zb M' H1 → va_S (fun q => b ≤ q) s.heap H1 locs1 → W p l e R s m args below meth c H1 locs1 (cells + mc) (slots + ms) Q (F0 m (pc + 3) ls ((r.map (dm_v b zb)).toList ++ rest))) : W p l e R s m args below meth c H locs cells slots Q (F0 m pc ls st0) := by
  intro T hT X
  obtain ⟨v, st₀, t, T', L, h0, X', hL, e1, e2, ⟨hv, hp, hz, hk⟩, st⟩ := hr T hT X
  have hv' : v = r.map (dm_v b zb) := Outcome.returned.inj hv
  subst hv'
  rw [h0] at hz hk
  obtain ⟨t2, a1, b1⟩ := kk T'.heap (locs ++ L) (by rw [e1]; exact hp)
    ⟨Nat.le_trans hS.1 (by rw [e1]; exact hz), fun q h1 h2 => by rw [e1, hk q (Nat.lt_of_lt_of_le h1 hS.1) h2]; exact hS.2.1 q h1 h2, fun q hq => by
      rcases List.mem_append.mp hq with h | h
      · exact hS.2.2 q h
      · exact hL q h⟩ T' rfl X'
  exact ⟨t2, st t2 a1, b1⟩
/-- a method of ours that may be called: its words are among the tables' -/
def dm_Mok (tb : Nat → dm_Me) (mi : Nat) : Prop := Cond.code (tb mi).1 (tb mi).2.1 (tb mi).2.2.1 (tb mi).2.2.2.1 ∈ dm_W ∧ Cond.initialized (tb mi).1.cls ∈ dm_W ∧ ((tb mi).1.cls ≠ "java/lang/invoke/MethodHandle" ∧ (tb mi).1.cls ≠ "java/lang/invoke/VarHandle") ∧ (tb mi).2.2.1 ≤ 45 ∧ plainName (tb mi).1.cls = true
theorem dm_wo_good {tb : Nat → dm_Me} {mi : Nat} (h : dm_Mok tb mi) : GoodIn dm_W (dm_wo (tb mi)) := by
  intro w hw
  rcases List.mem_cons.mp hw with rfl | hw
  · exact ⟨h.1, dm_goodW h.1⟩
  · exact ⟨hw, dm_goodW hw⟩
theorem dm_blind {D : va_G} {ca : FieldType → ClassId} {b zb : Nat} {M : dm_Mem} {av : List Value} : FrameBlind (va_Pc av (fun U => dm_Hp D ca b zb M U.heap ∧ va_K D vwCl (dm_tys ca) U ∧ dm_Nk U)) :=
  fun a U g mk q => ⟨q.1, q.2.1, va_K.moved (u := U) (U := U.calling g mk a) (Vm.Alike.refl U.vm) q.2.2.1, fun w hw => va_Nw.same (u := U) (U := U.calling g mk a) rfl rfl (q.2.2.2 w hw)⟩
def dm_inv (n mi na ci : Nat) : dm_Sem := fun lv st M => match st.drop na with
  | .ref a :: r => if (r.map fun v => v.category).sum ≤ 8 then match M[a]? with
      | some (.inr o) => if o.1 = ci then some (.inr (.inl (mi, .ref a :: (st.take na).reverse, (n, lv, r)))) else none
      | _ => none
    else none
  | _ => none
def dm_ini (n mi na : Nat) : dm_Sem := fun lv st _ => match st.drop na with
  | .ref a :: r => if (r.map fun v => v.category).sum ≤ 8 then some (.inr (.inl (mi, .ref a :: (st.take na).reverse, (n, lv, r)))) else none
  | _ => none
def dm_ins (n mi na : Nat) : dm_Sem := fun lv st _ => if na ≤ st.length ∧ ((st.drop na).map fun v => v.category).sum ≤ 8 then some (.inr (.inl (mi, (st.take na).reverse, (n, lv, st.drop na)))) else none
theorem dm_stk {st r : List Value} {na : Nat} {x : Value} (h : st.drop na = x :: r) : st = (st.take na).reverse.reverse ++ x :: r ∧ ((st.take na).reverse).length = na := by
  have h1 : st = st.take na ++ st.drop na := (List.take_append_drop na st).symm
  have h2 : na < st.length := by
    by_cases h3 : na < st.length
    · exact h3
    · rw [List.drop_eq_nil_of_le (by omega)] at h
      cases h
  refine ⟨by rw [List.reverse_reverse, ← h]; exact h1, ?_⟩
  rw [List.length_reverse, List.length_take]
  omega
theorem dm_mapstk {st r : List Value} {na : Nat} {x : Value} (b zb : Nat) (h : st.drop na = x :: r) : st.map (dm_v b zb) = (((st.take na).reverse).map (dm_v b zb)).reverse ++ dm_v b zb x :: r.map (dm_v b zb) := by
  have h1 := (dm_stk h).1
  have h2 : st.map (dm_v b zb) = ((st.take na).reverse.reverse ++ x :: r).map (dm_v b zb) := congrArg (List.map (dm_v b zb)) h1
  rw [h2, List.map_append, List.map_cons, List.map_reverse]
theorem dm_toL (b zb : Nat) (r : Option Value) (st : List Value) : (r.map (dm_v b zb)).toList ++ st.map (dm_v b zb) = (r.toList ++ st).map (dm_v b zb) := by
  cases r <;> rfl
theorem dg_inv {tb : Nat → dm_Me} {own : String} {cc : ByteArray} {nL : Nat} {ret : Option FieldType} {isI : Bool} {sc : Option (Nat × (Nat → Int32))} {pc : Nat} {mi na ci idx : Nat} {q : vw_C} (hd : decode cc pc = .ok (.invokevirtual idx, 3)) (hok : dm_Mok tb mi) (hc : vwCl[ci]? = some q) (hq : (tb mi).1.cls = q.1) (hl1 : Cond.methodLink own idx (tb mi).1 ∈ dm_W) (hl2 : Cond.instanceMethod (tb mi).1 ∈ dm_W) (hl3 : Cond.selects q.1 (tb mi).1 (tb mi).1 ∈ dm_W) (hn : (parseMethodDescriptor (tb mi).1.desc).map (fun d => d.parameters.length) = some na) : dm_Good tb own cc nL ret isI sc pc (dm_inv (pc + 3) mi na ci) := by
  intro lv st M o h
  unfold dm_inv at h
  split at h
  · rename_i a r e1
    split at h
    · rename_i e2
      split at h
      · rename_i ob e3
        split at h
        · rename_i e4
          cases h
          intro p l e R s m args below meth c D ca b zb n0 s0 Q d r' M' hC g1 g2 g3 g4 g5 g6 hM hk H locs ls hH hS hl
          obtain ⟨hx, hb, hml, hown, hts, hr, hlk, hin, hK, hsz, hfr, hlo, hsc⟩ := hC
          obtain ⟨⟨m1, m2⟩, hMet⟩ := hM
          obtain ⟨k1, k2, k3, k4, k5⟩ := id hok
          have hcw := cwV (R := R) (C := q.1) (index := idx) (own := own) (rm := { frames := d, cells := M'.length - M.length, slots := dm_slots M' - dm_slots M, locals := 64 * d }) na hts (ws := dm_wo (tb mi)) (fun w hw => by
              rcases List.mem_append.mp hw with h | h
              · have h9 : w ∈ dm_W := by
                  simp only [List.mem_cons, List.not_mem_nil, or_false] at h
                  rcases h with rfl | rfl | rfl | rfl
                  · exact hl1
                  · exact hl2
                  · exact hl3
                  · rw [← hq]; exact k2
                exact ⟨h9, dm_goodW h9⟩
              · exact dm_wo_good hok w h) rfl rfl rfl ⟨hq, k3.1, k3.2, hn⟩ ⟨g5, by show 8 + ((tb mi).2.2.1 + 11) + 64 * d ≤ R.locals; omega⟩
          have hrun := va_runV (As := ((st.take na).reverse).map (dm_v b zb)) (b := b + a) (rest := r.map (dm_v b zb)) (g := F0 m pc ls (st.map (dm_v b zb))) (locs := locs) (cells := M.length - n0) (slots := dm_slots M - s0) (H := H) (e := e) (p := p) (below := below) (meth := meth) ⟨hx, hb, hml, hown, hts⟩ (hMet D ca b zb) hcw
            ⟨dm_blind, va_recv hK hH.2 (ci := ci) (q0 := a) hc (by rw [dm_ws_get e3, ← e4]; rfl), fun U hU hW => ⟨rfl, by rw [hU]; exact hH, va_K.moved hW.alike hK, dm_Nk.warm hW hsc.2⟩⟩ rfl (by rw [List.length_map]; exact (dm_stk e1).2) hl.1 (dm_mapstk b zb e1) (lv_room (by rw [dm_cats]; exact e2)) hd ⟨by show M.length - n0 + (M'.length - M.length) ≤ _; omega, by show dm_slots M - s0 + (dm_slots M' - dm_slots M) ≤ _; omega⟩
          refine dm_call hrun hS (fun H1 locs1 hH1 hS1 => ?_)
          have h9 := hk H1 locs1 ls hH1 hS1 hl
          rw [show M.length - n0 + (M'.length - M.length) = M'.length - n0 by omega, show dm_slots M - s0 + (dm_slots M' - dm_slots M) = dm_slots M' - s0 by omega, dm_toL]
          exact h9
        · cases h
      · cases h
    · cases h
  · cases h
theorem dg_ini {tb : Nat → dm_Me} {own : String} {cc : ByteArray} {nL : Nat} {ret : Option FieldType} {isI : Bool} {sc : Option (Nat × (Nat → Int32))} {pc : Nat} {mi na idx : Nat} (hd : decode cc pc = .ok (.invokespecial idx, 3)) (hok : dm_Mok tb mi) (hrt : (tb mi).2.2.2.1 = none) (hnm : (tb mi).1.name = "<init>") (hl1 : Cond.methodLink own idx (tb mi).1 ∈ dm_W) (hl2 : Cond.instanceMethod (tb mi).1 ∈ dm_W) (hn : (parseMethodDescriptor (tb mi).1.desc).map (fun d => d.parameters.length) = some na) : dm_Good tb own cc nL ret isI sc pc (dm_ini (pc + 3) mi na) := by
  intro lv st M o h
  unfold dm_ini at h
  split at h
  · rename_i a r e1
    split at h
    · rename_i e2
      cases h
      intro p l e R s m args below meth c D ca b zb n0 s0 Q d r' M' hC g1 g2 g3 g4 g5 g6 hM hk H locs ls hH hS hl
      obtain ⟨hx, hb, hml, hown, hts, hr, hlk, hin, hK, hsz, hfr, hlo, hsc⟩ := hC
      obtain ⟨⟨m1, m2⟩, hMet⟩ := hM
      obtain ⟨k1, k2, k3, k4, k5⟩ := id hok
      have hcw := cwI (R := R) (index := idx) (own := own) (y := (tb mi).1) (bytes := (tb mi).2.1) (maxL := (tb mi).2.2.1) (ws' := dm_W) (rm := { frames := d, cells := M'.length - M.length, slots := dm_slots M' - dm_slots M, locals := 64 * d }) na hts (ws := dm_wo (tb mi)) (dm_wo_good hok) (by unfold dm_wo; rw [hrt]) rfl rfl (hts _ k2) (hts _ hl1) (hts _ hl2) hnm ⟨k3.1, k3.2, hn⟩ ⟨g5, by show 8 + ((tb mi).2.2.1 + 11) + 64 * d ≤ R.locals; omega⟩
      have hrun := va_runI (As := ((st.take na).reverse).map (dm_v b zb)) (b := b + a) (rest := r.map (dm_v b zb)) (g := F0 m pc ls (st.map (dm_v b zb))) (locs := locs) (cells := M.length - n0) (slots := dm_slots M - s0) (H := H) (e := e) (p := p) (below := below) (meth := meth) ⟨hx, hb, hml, hown, hts⟩ (hMet D ca b zb) hcw
        ⟨dm_blind, fun U hU hW => ⟨rfl, by rw [hU]; exact hH, va_K.moved hW.alike hK, dm_Nk.warm hW hsc.2⟩⟩ rfl (by rw [List.length_map]; exact (dm_stk e1).2) hl.1 (dm_mapstk b zb e1) (lv_room (by rw [dm_cats]; exact e2)) hd ⟨by show M.length - n0 + (M'.length - M.length) ≤ _; omega, by show dm_slots M - s0 + (dm_slots M' - dm_slots M) ≤ _; omega⟩
      refine dm_call hrun hS (fun H1 locs1 hH1 hS1 => ?_)
      have h9 := hk H1 locs1 ls hH1 hS1 hl
      rw [show M.length - n0 + (M'.length - M.length) = M'.length - n0 by omega, show dm_slots M - s0 + (dm_slots M' - dm_slots M) = dm_slots M' - s0 by omega, dm_toL]
      exact h9
    · cases h
  · cases h
theorem dg_iniN {tb : Nat → dm_Me} {own host : String} {cc : ByteArray} {nL : Nat} {ret : Option FieldType} {isI : Bool} {sc : Option (Nat × (Nat → Int32))} {pc : Nat} {mi na idx : Nat} (hd : decode cc pc = .ok (.invokespecial idx, 3)) (hok : dm_Mok tb mi) (hrt : (tb mi).2.2.2.1 = none) (hnm : (tb mi).1.name = "<init>") (hl1 : (own, idx, (tb mi).1, host) ∈ dm_N) (hl2 : Cond.instanceMethod (tb mi).1 ∈ dm_W) (hn : (parseMethodDescriptor (tb mi).1.desc).map (fun d => d.parameters.length) = some na) : dm_Good tb own cc nL ret isI sc pc (dm_ini (pc + 3) mi na) := by
  intro lv st M o h
  unfold dm_ini at h
  split at h
  · rename_i a r e1
    split at h
    · rename_i e2
      cases h
      intro p l e R s m args below meth c D ca b zb n0 s0 Q d r' M' hC g1 g2 g3 g4 g5 g6 hM hk H locs ls hH hS hl
      obtain ⟨hx, hb, hml, hown, hts, hr, hlk, hin, hK, hsz, hfr, hlo, hsc⟩ := hC
      obtain ⟨⟨m1, m2⟩, hMet⟩ := hM
      obtain ⟨k1, k2, k3, k4, k5⟩ := id hok
      have hcw := va_cnB (R := R) (index := idx) (own := own) (host := host) (y := (tb mi).1) (bytes := (tb mi).2.1) (maxL := (tb mi).2.2.1) (ret := none) (ws' := dm_W) (rm := { frames := d, cells := M'.length - M.length, slots := dm_slots M' - dm_slots M, locals := 64 * d }) na hts (ws := dm_wo (tb mi)) (dm_wo_good hok) (by unfold dm_wo; rw [hrt]) rfl rfl (hsc.2 _ hl1) (hts _ k2) ⟨k3.1, k3.2, hn⟩ ⟨g5, by show 8 + ((tb mi).2.2.1 + 11) + 64 * d ≤ R.locals; omega⟩
      have hrun := va_runIN (As := ((st.take na).reverse).map (dm_v b zb)) (b := b + a) (rest := r.map (dm_v b zb)) (g := F0 m pc ls (st.map (dm_v b zb))) (locs := locs) (cells := M.length - n0) (slots := dm_slots M - s0) (H := H) (e := e) (p := p) (below := below) (meth := meth) ⟨hx, hb, hml, hown, hts⟩ (hMet D ca b zb) ⟨hcw, hnm, hts _ hl2⟩
        ⟨dm_blind, fun U hU hW => ⟨rfl, by rw [hU]; exact hH, va_K.moved hW.alike hK, dm_Nk.warm hW hsc.2⟩⟩ rfl (by rw [List.length_map]; exact (dm_stk e1).2) hl.1 (dm_mapstk b zb e1) (lv_room (by rw [dm_cats]; exact e2)) hd ⟨by show M.length - n0 + (M'.length - M.length) ≤ _; omega, by show dm_slots M - s0 + (dm_slots M' - dm_slots M) ≤ _; omega⟩
      refine dm_call hrun hS (fun H1 locs1 hH1 hS1 => ?_)
      have h9 := hk H1 locs1 ls hH1 hS1 hl
      rw [show M.length - n0 + (M'.length - M.length) = M'.length - n0 by omega, show dm_slots M - s0 + (dm_slots M' - dm_slots M) = dm_slots M' - s0 by omega, dm_toL]
      exact h9
    · cases h
  · cases h
theorem dm_mapst0 {st : List Value} {na : Nat} (b zb : Nat) : st.map (dm_v b zb) = (((st.take na).reverse).map (dm_v b zb)).reverse ++ (st.drop na).map (dm_v b zb) := by
  rw [List.map_reverse, List.reverse_reverse, ← List.map_append, List.take_append_drop]
theorem dg_ins {tb : Nat → dm_Me} {own : String} {cc : ByteArray} {nL : Nat} {ret : Option FieldType} {isI : Bool} {sc : Option (Nat × (Nat → Int32))} {pc : Nat} {mi na idx : Nat} (hd : decode cc pc = .ok (.invokestatic idx, 3)) (hok : dm_Mok tb mi) (hl1 : Cond.methodLink own idx (tb mi).1 ∈ dm_W) (hl2 : Cond.static (tb mi).1 ∈ dm_W) (hn : (parseMethodDescriptor (tb mi).1.desc).map (fun d => d.parameters.length) = some na) : dm_Good tb own cc nL ret isI sc pc (dm_ins (pc + 3) mi na) := by
  intro lv st M o h
  unfold dm_ins at h
  split at h
  · rename_i e2
    cases h
    intro p l e R s m args below meth c D ca b zb n0 s0 Q d r' M' hC g1 g2 g3 g4 g5 g6 hM hk H locs ls hH hS hl
    obtain ⟨hx, hb, hml, hown, hts, hr, hlk, hin, hK, hsz, hfr, hlo, hsc⟩ := hC
    obtain ⟨⟨m1, m2⟩, hMet⟩ := hM
    obtain ⟨k1, k2, k3, k4, k5⟩ := id hok
    have hcw := callB_of (R := R) (index := idx) (own := own) (rm := { frames := d, cells := M'.length - M.length, slots := dm_slots M' - dm_slots M, locals := 64 * d }) na hts (ws := dm_wo (tb mi)) (dm_wo_good hok) rfl rfl rfl (hts _ k2) (hts _ hl1) ⟨k3.1, k3.2, hn⟩ ⟨g5, by show 8 + ((tb mi).2.2.1 + 11) + 64 * d ≤ R.locals; omega⟩
    have hrun := va_runS (As := ((st.take na).reverse).map (dm_v b zb)) (rest := (st.drop na).map (dm_v b zb)) (g := F0 m pc ls (st.map (dm_v b zb))) (locs := locs) (cells := M.length - n0) (slots := dm_slots M - s0) (H := H) (e := e) (p := p) (below := below) (meth := meth) ⟨hx, hb, hml, hown, hts⟩ (hMet D ca b zb) ⟨hcw, hts _ hl2⟩
      ⟨dm_blind, fun U hU hW => ⟨rfl, by rw [hU]; exact hH, va_K.moved hW.alike hK, dm_Nk.warm hW hsc.2⟩⟩ rfl (by rw [List.length_map, List.length_reverse, List.length_take]; omega) hl.1 (dm_mapst0 b zb) (lv_room (by rw [dm_cats]; exact e2.2)) hd ⟨by show M.length - n0 + (M'.length - M.length) ≤ _; omega, by show dm_slots M - s0 + (dm_slots M' - dm_slots M) ≤ _; omega⟩
    refine dm_call hrun hS (fun H1 locs1 hH1 hS1 => ?_)
    have h9 := hk H1 locs1 ls hH1 hS1 hl
    rw [show M.length - n0 + (M'.length - M.length) = M'.length - n0 by omega, show dm_slots M - s0 + (dm_slots M' - dm_slots M) = dm_slots M' - s0 by omega, dm_toL]
    exact h9
  · cases h
theorem dg_insN {tb : Nat → dm_Me} {own host : String} {cc : ByteArray} {nL : Nat} {ret : Option FieldType} {isI : Bool} {sc : Option (Nat × (Nat → Int32))} {pc : Nat} {mi na idx : Nat} (hd : decode cc pc = .ok (.invokestatic idx, 3)) (hok : dm_Mok tb mi) (hl1 : (own, idx, (tb mi).1, host) ∈ dm_N) (hl2 : Cond.static (tb mi).1 ∈ dm_W) (hn : (parseMethodDescriptor (tb mi).1.desc).map (fun d => d.parameters.length) = some na) : dm_Good tb own cc nL ret isI sc pc (dm_ins (pc + 3) mi na) := by
  intro lv st M o h
  unfold dm_ins at h
  split at h
  · rename_i e2
    cases h
    intro p l e R s m args below meth c D ca b zb n0 s0 Q d r' M' hC g1 g2 g3 g4 g5 g6 hM hk H locs ls hH hS hl
    obtain ⟨hx, hb, hml, hown, hts, hr, hlk, hin, hK, hsz, hfr, hlo, hsc⟩ := hC
    obtain ⟨⟨m1, m2⟩, hMet⟩ := hM
    obtain ⟨k1, k2, k3, k4, k5⟩ := id hok
    have hcw := va_cnB (R := R) (index := idx) (own := own) (host := host) (rm := { frames := d, cells := M'.length - M.length, slots := dm_slots M' - dm_slots M, locals := 64 * d }) na hts (ws := dm_wo (tb mi)) (dm_wo_good hok) rfl rfl rfl (hsc.2 _ hl1) (hts _ k2) ⟨k3.1, k3.2, hn⟩ ⟨g5, by show 8 + ((tb mi).2.2.1 + 11) + 64 * d ≤ R.locals; omega⟩
    have hrun := va_runSN (As := ((st.take na).reverse).map (dm_v b zb)) (rest := (st.drop na).map (dm_v b zb)) (g := F0 m pc ls (st.map (dm_v b zb))) (locs := locs) (cells := M.length - n0) (slots := dm_slots M - s0) (H := H) (e := e) (p := p) (below := below) (meth := meth) ⟨hx, hb, hml, hown, hts⟩ (hMet D ca b zb) ⟨hcw, hts _ hl2, trivial⟩
      ⟨dm_blind, fun U hU hW => ⟨rfl, by rw [hU]; exact hH, va_K.moved hW.alike hK, dm_Nk.warm hW hsc.2⟩⟩ rfl (by rw [List.length_map, List.length_reverse, List.length_take]; omega) hl.1 (dm_mapst0 b zb) (lv_room (by rw [dm_cats]; exact e2.2)) hd ⟨by show M.length - n0 + (M'.length - M.length) ≤ _; omega, by show dm_slots M - s0 + (dm_slots M' - dm_slots M) ≤ _; omega⟩
    refine dm_call hrun hS (fun H1 locs1 hH1 hS1 => ?_)
    have h9 := hk H1 locs1 ls hH1 hS1 hl
    rw [show M.length - n0 + (M'.length - M.length) = M'.length - n0 by omega, show dm_slots M - s0 + (dm_slots M' - dm_slots M) = dm_slots M' - s0 by omega, dm_toL]
    exact h9
  · cases h
-- ===== Object(), Math.max, Math.min, System.arraycopy =====
def dm_oin (n : Nat) : dm_Sem := fun lv st M => match st with
  | .ref _ :: r => if (r.map fun v => v.category).sum ≤ 8 then some (.inl ((n, lv, r), M)) else none
  | _ => none
theorem dg_oin {tb : Nat → dm_Me} {own : String} {cc : ByteArray} {nL : Nat} {ret : Option FieldType} {isI : Bool} {sc : Option (Nat × (Nat → Int32))} {pc : Nat} {idx : Nat} (hd : decode cc pc = .ok (.invokespecial idx, 3)) (hl1 : Cond.methodLink own idx Lib.objectInit ∈ dm_W) (hl2 : Cond.instanceMethod Lib.objectInit ∈ dm_W) (hl3 : Cond.code Lib.objectInit ⟨#[0xb1]⟩ 1 none ∈ dm_W) : dm_Good tb own cc nL ret isI sc pc (dm_oin (pc + 3)) := by
  intro lv st M o h
  unfold dm_oin at h
  split at h
  · split at h
    · rename_i e2
      cases h
      refine dm_pure (fun p l e R s m args below meth c D ca b zb n0 Q H locs ls cells slots hC hH hl h1 h2 hk => ?_)
      obtain ⟨hx, hb, hml, hown, hts, hr, hlk, hin, hK, hsz, hf, hlo, hsc⟩ := hC
      exact W.objInit hx hb hown (hts _ hl1) (hts _ hl2) (hts _ hl3) rfl (by rw [hml]; exact hl.1) rfl hd hf (by rw [dm_cats]; show 2 * 0 + _ + 12 ≤ _; omega) (hk ls hl)
    · cases h
  · cases h
def dm_mx (n : Nat) : dm_Sem := fun lv st M => match st with
  | .int y :: .int x :: r => if (r.map fun v => v.category).sum ≤ 8 then some (.inl ((n, lv, .int (if x < y then y else x) :: r), M)) else none
  | _ => none
def dm_mn (n : Nat) : dm_Sem := fun lv st M => match st with
  | .int y :: .int x :: r => if (r.map fun v => v.category).sum ≤ 8 then some (.inl ((n, lv, .int (if y < x then y else x) :: r), M)) else none
  | _ => none
theorem dg_mx {tb : Nat → dm_Me} {own : String} {cc : ByteArray} {nL : Nat} {ret : Option FieldType} {isI : Bool} {sc : Option (Nat × (Nat → Int32))} {pc : Nat} {idx : Nat} (hd : decode cc pc = .ok (.invokestatic idx, 3)) (hl1 : Cond.methodLink own idx Lib.Math.max.name ∈ dm_W) (hl2 : Cond.static Lib.Math.max.name ∈ dm_W) (hl3 : Cond.initialized "java/lang/Math" ∈ dm_W) (hl4 : Cond.code Lib.Math.max.name Lib.Math.max.code 2 (some .int) ∈ dm_W) : dm_Good tb own cc nL ret isI sc pc (dm_mx (pc + 3)) := by
  intro lv st M o h
  unfold dm_mx at h
  split at h
  · split at h
    · rename_i e2
      cases h
      refine dm_pure (fun p l e R s m args below meth c D ca b zb n0 Q H locs ls cells slots hC hH hl h1 h2 hk => ?_)
      obtain ⟨hx, hb, hml, hown, hts, hr, hlk, hin, hK, hsz, hf, hlo, hsc⟩ := hC
      exact va_mmax hx hb (by rw [hml]; exact hl.1.symm) hown (hts _ hl1) (hts _ hl2) (hts _ hl3) (hts _ hl4) hf (by rw [dm_cats]; omega) h1 h2 hd (hk ls hl)
    · cases h
  · cases h
theorem dg_mn {tb : Nat → dm_Me} {own : String} {cc : ByteArray} {nL : Nat} {ret : Option FieldType} {isI : Bool} {sc : Option (Nat × (Nat → Int32))} {pc : Nat} {idx : Nat} (hd : decode cc pc = .ok (.invokestatic idx, 3)) (hl1 : Cond.methodLink own idx Lib.Math.min.name ∈ dm_W) (hl2 : Cond.static Lib.Math.min.name ∈ dm_W) (hl3 : Cond.initialized "java/lang/Math" ∈ dm_W) (hl4 : Cond.code Lib.Math.min.name Lib.Math.min.code 2 (some .int) ∈ dm_W) : dm_Good tb own cc nL ret isI sc pc (dm_mn (pc + 3)) := by
  intro lv st M o h
  unfold dm_mn at h
  split at h
  · split at h
    · rename_i e2
      cases h
      refine dm_pure (fun p l e R s m args below meth c D ca b zb n0 Q H locs ls cells slots hC hH hl h1 h2 hk => ?_)
      obtain ⟨hx, hb, hml, hown, hts, hr, hlk, hin, hK, hsz, hf, hlo, hsc⟩ := hC
      exact va_mmin hx hb (by rw [hml]; exact hl.1.symm) hown (hts _ hl1) (hts _ hl2) (hts _ hl3) (hts _ hl4) hf (by rw [dm_cats]; omega) h1 h2 hd (hk ls hl)
    · cases h
  · cases h
def dm_acp (n : Nat) : dm_Sem := fun lv st M => match st with
  | .int k :: .int dp :: .ref a1 :: .int sp :: .ref a0 :: r => match M[a0]? with
    | some (.inl (.int, n0, .inl f)) => match M[a1]? with
      | some (.inl (.int, n1, .inl g)) => if (r.map fun v => v.category).sum ≤ 8 ∧ ¬ sp < 0 ∧ ¬ dp < 0 ∧ ¬ k < 0 ∧ sp.toNatClampNeg + k.toNatClampNeg ≤ n0 ∧ dp.toNatClampNeg + k.toNatClampNeg ≤ n1 then some (.inl ((n, lv, r), M.set a1 (.inl (.int, n1, .inl (va_cpy f g sp.toNatClampNeg dp.toNatClampNeg k.toNatClampNeg))))) else none
      | _ => none
    | _ => none
  | _ => none
theorem dg_acp {tb : Nat → dm_Me} {own : String} {cc : ByteArray} {nL : Nat} {ret : Option FieldType} {isI : Bool} {sc : Option (Nat × (Nat → Int32))} {pc : Nat} {idx : Nat} (hd : decode cc pc = .ok (.invokestatic idx, 3)) (hl1 : Cond.methodLink own idx arraycopyName ∈ dm_W) (hl2 : Cond.native arraycopyName ∈ dm_W) (hl3 : Cond.static arraycopyName ∈ dm_W) (hl4 : Cond.initialized "java/lang/System" ∈ dm_W) : dm_Good tb own cc nL ret isI sc pc (dm_acp (pc + 3)) := by
  intro lv st M o h
  unfold dm_acp at h
  split at h
  · rename_i k dp a1 sp a0 r
    split at h
    · rename_i n0 f e0
      split at h
      · rename_i n1 g e1
        split at h
        · rename_i e2
          obtain ⟨c0, c1, c2, c3, c4, c5⟩ := e2
          cases h
          refine dm_putc e1 rfl (fun p l e R s m args below meth c D ca b zb n0' Q H locs ls cells slots hC hH hS hD hl hk9 => ?_) rfl
          obtain ⟨hx, hb, hml, hown, hts, hr, hlk, hin, hK, hsz, hfr, hlo, hsc⟩ := hC
          obtain ⟨t0, ht0⟩ := dm_tys_at (ty := .int) ca rfl
          have hnw : nativeFrameWords "java/lang/System" "arraycopy" 5 = 7 := by decide
          exact va_copyi hx hb (by rw [hml]; exact hl.1.symm) hown (hts _ hl1) (hts _ hl2) (hts _ hl3) (hts _ hl4) hK hH.2 hD hS a0 a1 t0 t0 (dm_ws_get e0) (dm_ws_get e1) ht0 ht0 rfl c1 c2 c3 c4 c5 (fun _ _ => rfl) hfr (by rw [dm_cats, hnw]; omega) hd (fun H1 locs1 hP1 _ hS1 => hk9 H1 locs1 hP1 hS1)
        · cases h
      · cases h
    · cases h
  · cases h
-- ===== returns =====
def dm_rfit : FieldType → Int32 → Bool
  | .int, _ => true
  | .boolean, v => v == 0 || v == 1
  | _, _ => false
def dm_ret (ty : FieldType) : dm_Sem := fun _ st _ => match st with
  | [.int v] => if dm_rfit ty v = true then some (.inr (.inr (some (.int v)))) else none
  | _ => none
theorem dm_SF {b n0 : Nat} {s t : State} {H : Heap} {locs : List Loc} (hS : va_S (fun q => b ≤ q) s.heap H locs) (ht : t.heap = H) : va_F (fun q => b ≤ q) s t := hS.F ht
theorem dg_ret {tb : Nat → dm_Me} {own : String} {cc : ByteArray} {nL : Nat} {isI : Bool} {sc : Option (Nat × (Nat → Int32))} {pc : Nat} {ty : FieldType} (hd : decode cc pc = .ok (.ireturn, 1)) : dm_Good tb own cc nL (some ty) isI sc pc (dm_ret ty) := by
  intro lv st M o h
  unfold dm_ret at h
  split at h
  · rename_i v
    split at h
    · rename_i e1
      cases h
      intro p l e R s m args below meth c D ca b zb n0 s0 hC H locs ls hH hS hl
      obtain ⟨hx, hb, hml, hown, hts, hr, hlk, hin, hK, hsz, hf, hlo, hsc⟩ := hC
      have hn : narrow ty (.int v) = .int v := by
        cases ty <;> first | (cases e1; done) | rfl | skip
        have h2 : v = 0 ∨ v = 1 := by simpa [dm_rfit] using e1
        rcases h2 with rfl | rfl <;> decide
      exact W.zret (v := v) hx hb hr hn (fun t ht hW => ⟨rfl, by rw [ht]; exact hH, hS.F ht⟩) hS.2.2 hd
    · cases h
  · cases h
def dm_lret : dm_Sem := fun _ st _ => match st with
  | [.long v] => some (.inr (.inr (some (.long v))))
  | _ => none
theorem dg_lret {tb : Nat → dm_Me} {own : String} {cc : ByteArray} {nL : Nat} {isI : Bool} {sc : Option (Nat × (Nat → Int32))} {pc : Nat} (hd : decode cc pc = .ok (.lreturn, 1)) : dm_Good tb own cc nL (some .long) isI sc pc dm_lret := by
  intro lv st M o h
  unfold dm_lret at h
  split at h
  · rename_i v
    cases h
    intro p l e R s m args below meth c D ca b zb n0 s0 hC H locs ls hH hS hl
    obtain ⟨hx, hb, hml, hown, hts, hr, hlk, hin, hK, hsz, hf, hlo, hsc⟩ := hC
    exact W.lret (v := v) hx hb hr (fun t ht hW => ⟨rfl, by rw [ht]; exact hH, hS.F ht⟩) hS.2.2 hd
  · cases h
def dm_vret : dm_Sem := fun _ st _ => match st with
  | [] => some (.inr (.inr none))
  | _ => none
theorem dg_vret {tb : Nat → dm_Me} {own : String} {cc : ByteArray} {nL : Nat} {isI : Bool} {sc : Option (Nat × (Nat → Int32))} {pc : Nat} (hd : decode cc pc = .ok (.return_, 1)) : dm_Good tb own cc nL none isI sc pc dm_vret := by
  intro lv st M o h
  unfold dm_vret at h
  split at h
  · cases h
    intro p l e R s m args below meth c D ca b zb n0 s0 hC H locs ls hH hS hl
    obtain ⟨hx, hb, hml, hown, hts, hr, hlk, hin, hK, hsz, hf, hlo, hsc⟩ := hC
    exact W.vret hx hb hr (fun t ht hW => ⟨rfl, by rw [ht]; exact hH, hS.F ht⟩) hS.2.2 hd
  · cases h
def dm_aret : dm_Sem := fun _ st _ => match st with
  | [.ref v] => some (.inr (.inr (some (.ref v))))
  | _ => none
theorem dg_aret {tb : Nat → dm_Me} {own : String} {cc : ByteArray} {nL : Nat} {isI : Bool} {sc : Option (Nat × (Nat → Int32))} {pc : Nat} {ty : FieldType} (hd : decode cc pc = .ok (.areturn, 1)) : dm_Good tb own cc nL (some (.array ty)) isI sc pc dm_aret := by
  intro lv st M o h
  unfold dm_aret at h
  split at h
  · rename_i v
    cases h
    intro p l e R s m args below meth c D ca b zb n0 s0 hC H locs ls hH hS hl
    obtain ⟨hx, hb, hml, hown, hts, hr, hlk, hin, hK, hsz, hf, hlo, hsc⟩ := hC
    exact W.aret (v := .ref (b + v)) hx hb hr (Or.inr ⟨_, rfl⟩) (Or.inr ⟨_, rfl⟩) (fun t ht hW => ⟨rfl, by rw [ht]; exact hH, hS.F ht⟩) hS.2.2 hd
  · cases h
-- ===== the law's script =====
def dm_sld (n L : Nat) (xs : Nat → Int32) : dm_Sem := fun lv st M => match st with
  | .int i :: .float _ :: r => if i < 0 ∨ L ≤ i.toNatClampNeg then none else some (.inl ((n, lv, .int (xs i.toNatClampNeg) :: r), M))
  | _ => none
def dm_sln (n L : Nat) : dm_Sem := fun lv st M => match st with
  | .float _ :: r => some (.inl ((n, lv, .int (Int32.ofNat L) :: r), M))
  | _ => none
theorem dm_pureS {own : String} {cc : ByteArray} {nL : Nat} {ret : Option FieldType} {isI : Bool} {sc : Option (Nat × (Nat → Int32))} {pc : Nat} {lv : dm_Lv} {st : List Value} {M : dm_Mem} {g : dm_Fr}
    (h : ∀ (p : Program) (l : Launch) (e : Env) (R : Room) (s : State) (m : MethodId) (args : Array Value) (below : List Frame) (meth : Method) (c : Code) (D : va_G) (ca : FieldType → ClassId) (b zb n0 : Nat) (Q : State → Prop) (H : Heap) (locs : List Loc) (ls : Array Slot) (cells slots : Nat),
      dm_Cx own cc nL ret isI sc p R s m args meth c D ca b zb n0 → va_S (fun q => b ≤ q) s.heap H locs → lv_has ls nL (dm_lv b zb lv) →
      (∀ ls' : Array Slot, lv_has ls' nL (dm_lv b zb g.2.1) → W p l e R s m args below meth c H locs cells slots Q (F0 m g.1 ls' (g.2.2.map (dm_v b zb)))) → W p l e R s m args below meth c H locs cells slots Q (F0 m pc ls (st.map (dm_v b zb)))) :
    dm_Nx own cc nL ret isI sc pc lv st M g M := by
  refine ⟨⟨Nat.le_refl _, Nat.le_refl _⟩, ?_⟩
  intro p l e R s m args below meth c D ca b zb n0 s0 Q hC _ _ h1 h2 hk H locs ls hH hS hl
  exact h p l e R s m args below meth c D ca b zb n0 Q H locs ls _ _ hC hS hl (fun ls' hl' => hk H locs ls' hH hS hl')
theorem dg_sld {tb : Nat → dm_Me} {own : String} {cc : ByteArray} {nL : Nat} {ret : Option FieldType} {isI : Bool} {pc L : Nat} {xs : Nat → Int32} (hd : decode cc pc = .ok (.iaload, 1)) : dm_Good tb own cc nL ret isI (some (L, xs)) pc (dm_sld (pc + 1) L xs) := by
  intro lv st M o h
  unfold dm_sld at h
  split at h
  · rename_i i z r
    split at h
    · cases h
    · rename_i hc
      cases h
      refine dm_pureS (fun p l e R s m args below meth c D ca b zb n0 Q H locs ls cells slots hC hS hl hk => ?_)
      obtain ⟨hx, hb, hml, hown, hts, hr, hlk, hin, hK, hsz, hf, hlo, hsc⟩ := hC
      obtain ⟨x1, x2, x3⟩ := hsc.1 L xs rfl
      exact va_sld hx hb x1 x2 (Nat.not_le.mpr x3) hS hc hd (hk ls hl)
  · cases h
theorem dg_sln {tb : Nat → dm_Me} {own : String} {cc : ByteArray} {nL : Nat} {ret : Option FieldType} {isI : Bool} {pc L : Nat} {xs : Nat → Int32} (hd : decode cc pc = .ok (.arraylength, 1)) : dm_Good tb own cc nL ret isI (some (L, xs)) pc (dm_sln (pc + 1) L) := by
  intro lv st M o h
  unfold dm_sln at h
  split at h
  · cases h
    refine dm_pureS (fun p l e R s m args below meth c D ca b zb n0 Q H locs ls cells slots hC hS hl hk => ?_)
    obtain ⟨hx, hb, hml, hown, hts, hr, hlk, hin, hK, hsz, hf, hlo, hsc⟩ := hC
    obtain ⟨x1, x2, x3⟩ := hsc.1 L xs rfl
    exact va_slen hx hb x1 x2 (Nat.not_le.mpr x3) hS hd (hk ls hl)
  · cases h
