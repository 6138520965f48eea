/-! Law.height and Law.owns: their contracts, without a throw and with one -/
def tl_y : Bool → MethodName | false => yL_height | true => yL_owns
def tl_c : Bool → ByteArray | false => cL_height | true => cL_owns
def tl_h : Bool → List (Nat × Nat × Nat × Nat) | false => [(0, 13, 16, 13)] | true => [(0, 20, 23, 13)]
def tl_cd : Bool → dm_Code | false => cdLH | true => cdLO
def tl_mi : Bool → Nat | false => 108 | true => 109
def tl_ws (o : Bool) : List Cond := Cond.codeWith (tl_y o) (tl_c o) 7 (some .int) (tl_h o) :: dm_W
theorem tl_G (o : Bool) : ∀ pc f, dm_fetch (tl_cd o) pc = some f → dm_Good dm_tb RL (tl_c o) 7 (some .int) false none pc f := by
  cases o
  · exact dm_rows tk_LH
  · exact dm_rows tk_LO
theorem tl_pl (o : Bool) : plainName (tl_y o).cls = true := by cases o <;> decide
/-- nothing is thrown -/
theorem tl_N {l : Launch} {N d : Nat} {as : List Value} {M M' : dm_Mem} {r : Option Value} (o : Bool) (hlen : (lg_sl as).length ≤ 7)
    (h : dm_run (dm_ex dm_tb dm_cd N d) (tl_cd o) N (0, lv_args 0 as, []) M = some (r, M')) : (M.length ≤ M'.length ∧ dm_slots M ≤ dm_slots M') ∧ ∀ (D : va_G) (ca : FieldType → ClassId) (b zb : Nat),
    Met l (tl_y o) (tl_ws o) ({ frames := d + 1, cells := M'.length - M.length, slots := dm_slots M' - dm_slots M, locals := 64 * (d + 1) }) (va_Pc (as.map (dm_v b zb)) (tx_B D ca b zb M)) (dm_Qc D ca b zb r M') (M'.length - M.length) (dm_slots M' - dm_slots M) (fun q => b ≤ q) := by
  have hK : ∀ mj as M r M', dm_ex dm_tb dm_cd N d mj as M = some (r, M') → dm_Met dm_tb l d mj as M r M' := dm_sound dm_all l N d
  have hG := tl_G o
  have hle := dm_run_le hK hG _ _ _ _ _ h
  refine ⟨hle, fun D ca b zb => ?_⟩
  refine va_MetW (cc := tl_c o) (maxL := 7) (ret := some .int) (hh := tl_h o) (tl_pl o) rfl ?_
  intro p e s m args below meth c s₁ B hml hv
  obtain ⟨rfl, hH, hKs, hNs, hTs⟩ := hv
  have hts0 := atoms_spec (ws := tl_ws o) B.pre
  have hcl : (tl_y o).cls = RL := by cases o <;> rfl
  have hC : dm_Cx RL (tl_c o) 7 (some .int) false none p (headSpec (tl_ws o) { frames := d + 1, cells := M'.length - M.length, slots := dm_slots M' - dm_slots M, locals := 64 * (d + 1) }).room s m (as.map (dm_v b zb)).toArray meth c D ca b zb M.length :=
    ⟨B.exec, B.bytes, hml, by rw [← hcl]; exact findClass_of_methodNamed B.named, fun w hw => hts0 w (List.mem_cons_of_mem _ hw), B.returns, B.notSynchronized, (fun hi => by cases hi), hKs, hH.1, by show 1 ≤ d + 1; omega, by show 64 ≤ 64 * (d + 1); omega, (fun _ _ h => by cases h), hNs⟩
  have hat := dm_run_at (s0 := dm_slots M) (e := e) (below := below) (Q := MQ below (dm_Qc D ca b zb r M') (as.map (dm_v b zb)).toArray s (M'.length - M.length) (dm_slots M' - dm_slots M) (fun q => b ≤ q)) hK hG hC (by show d + 1 ≤ d + 1; omega) (by show 64 * d + 64 ≤ 64 * (d + 1); omega) (Nat.le_refl _) (Nat.le_refl _)
    (fun pc lv st f e1 e2 => (hG pc f e1 lv st M' _ e2) p l e _ s m _ below meth c D ca b zb M.length (dm_slots M) hC) N (0, lv_args 0 as, []) M (Nat.le_refl _) (Nat.le_refl _) h
  have hl := lv_entry (as.map (dm_v b zb)) (n := 7) (by rw [dm_lg_sl]; exact hlen)
  rw [dm_lv_args] at hl
  rw [lg_entry_eq]
  have h9 := hat s.heap [] _ hH va_S.rf hl
  rw [Nat.sub_self, Nat.sub_self] at h9
  exact h9
/-- one step that leaves the memory as it is -/
theorem tl_go {own : String} {cc : ByteArray} {nL : Nat} {ret : Option FieldType} {isI : Bool} {sc : Option (Nat × (Nat → Int32))} {pc : Nat} {f : dm_Sem} {lv : dm_Lv} {st : List Value} {M : dm_Mem} {g : dm_Fr} (hG : dm_Good dm_tb own cc nL ret isI sc pc f) (hs : f lv st M = some (.inl (g, M)))
    {p : Program} {l : Launch} {e : Env} {R : Room} {s : State} {m : MethodId} {args : Array Value} {below : List Frame} {meth : Method} {c : Code} {D : va_G} {ca : FieldType → ClassId} {b zb n0 s0 : Nat} {Q : State → Prop} (hC : dm_Cx own cc nL ret isI sc p R s m args meth c D ca b zb n0) (h1 : n0 ≤ M.length) (h2 : s0 ≤ dm_slots M) (h3 : M.length - n0 ≤ R.cells) (h4 : dm_slots M - s0 ≤ R.slots)
    (hk : dm_At p l e R s m args below meth c D ca b zb n0 s0 nL Q M g) : dm_At p l e R s m args below meth c D ca b zb n0 s0 nL Q M (pc, lv, st) :=
  (hG lv st M _ hs).2 p l e R s m args below meth c D ca b zb n0 s0 Q hC h1 h2 h3 h4 hk
def tl_k : Bool → Nat | false => 16 | true => 23
def tl_ix : Bool → Nat | false => 7 | true => 15
theorem tl_w : Cond.classLink RL 13 RNse ∈ dm_W := by
  have h : Cond.classLink RL 13 RNse ∈ lw_tbl := by decide +kernel
  exact dm_in h (by decide +kernel)
theorem tl_inv (o : Bool) : decode (tl_c o) 8 = .ok (.invokevirtual (tl_ix o), 3) ∧ decode (tl_c o) (tl_k o) = .ok (.astore 6, 2) ∧ dm_Mok dm_tb (tl_mi o) ∧ (dm_tb (tl_mi o)).1.cls = RX10 ∧ Cond.methodLink RL (tl_ix o) (dm_tb (tl_mi o)).1 ∈ dm_W ∧ Cond.instanceMethod (dm_tb (tl_mi o)).1 ∈ dm_W ∧ Cond.selects RX10 (dm_tb (tl_mi o)).1 (dm_tb (tl_mi o)).1 ∈ dm_W ∧ (parseMethodDescriptor (dm_tb (tl_mi o)).1.desc).map (fun d => d.parameters.length) = some 3 ∧ (dm_tb (tl_mi o)).2.2.1 = 5 := by
  cases o
  · exact ⟨dL_height_8, dL_height_16, mo_108, rfl, wd_831, wd_832, wd_833, pd_108, rfl⟩
  · exact ⟨dL_owns_8, dL_owns_23, mo_109, rfl, wd_904, wd_905, wd_906, pd_109, rfl⟩
/-- the exception comes, and is caught -/
theorem tl_T {l : Launch} (hlt : l.stackTraces = false) {N d : Nat} {a x : Nat} {sI nI : Int32} {pL : Int64} {fs : List Value} {M M' : dm_Mem} (o : Bool) (hd : 6 ≤ d) (ha : M[a]? = some (.inr (7, fs)))
    (h : dm_run (dm_ex dm_tb dm_cd N d) (tx_mk (dm_cd (tl_mi o))) N (0, lv_args 0 [.ref a, .int sI, .long pL, .int nI], []) M = some (some (.long 77), M')) : (M.length ≤ M'.length ∧ dm_slots M ≤ dm_slots M') ∧ ∀ (D : va_G) (ca : FieldType → ClassId) (b zb : Nat),
    Met l (tl_y o) (tl_ws o) ({ frames := d + 2, cells := M'.length + 1 - M.length, slots := dm_slots M' + 6 - dm_slots M, locals := 64 * (d + 2) }) (va_Pc ([Value.ref a, .int sI, .long pL, .int nI, .ref x].map (dm_v b zb)) (tx_B D ca b zb M)) (dm_Qc D ca b zb (some (.int 1)) (M' ++ [tx_x])) (M'.length + 1 - M.length) (dm_slots M' + 6 - dm_slots M) (fun q => b ≤ q) := by
  have hmi : tl_mi o = 108 ∨ tl_mi o = 109 := by cases o <;> simp [tl_mi]
  obtain ⟨i1, i2, i3, i4, i5, i6, i7, i8, i9⟩ := tl_inv o
  obtain ⟨hle, hMx⟩ := tx_met hlt hmi hd (by rw [i9]; exact Nat.le_refl 5) h
  refine ⟨hle, fun D ca b zb => ?_⟩
  refine va_MetW (cc := tl_c o) (maxL := 7) (ret := some .int) (hh := tl_h o) (tl_pl o) rfl ?_
  intro p e s m args below meth c s₁ B hml hv
  obtain ⟨rfl, hH, hKs, hNs, hTs⟩ := hv
  have hts0 := atoms_spec (ws := tl_ws o) B.pre
  have hts : ∀ w ∈ dm_W, w.before _ s = true := fun w hw => hts0 w (List.mem_cons_of_mem _ hw)
  have hcl : (tl_y o).cls = RL := by cases o <;> rfl
  have hown : s.vm.findClass RL = some m.cls := by rw [← hcl]; exact findClass_of_methodNamed B.named
  have hC : dm_Cx RL (tl_c o) 7 (some .int) false none p (headSpec (tl_ws o) { frames := d + 2, cells := M'.length + 1 - M.length, slots := dm_slots M' + 6 - dm_slots M, locals := 64 * (d + 2) }).room s m ([Value.ref a, .int sI, .long pL, .int nI, .ref x].map (dm_v b zb)).toArray meth c D ca b zb M.length :=
    ⟨B.exec, B.bytes, hml, hown, hts, B.returns, B.notSynchronized, (fun hi => by cases hi), hKs, hH.1, by show 1 ≤ d + 2; omega, by show 64 ≤ 64 * (d + 2); omega, (fun _ _ h => by cases h), hNs⟩
  have hG := tl_G o
  have htab := vx_table (x := tl_y o) B (hts0 _ List.mem_cons_self)
  have key : dm_At p l e (headSpec (tl_ws o) { frames := d + 2, cells := M'.length + 1 - M.length, slots := dm_slots M' + 6 - dm_slots M, locals := 64 * (d + 2) }).room s m ([Value.ref a, .int sI, .long pL, .int nI, .ref x].map (dm_v b zb)).toArray below meth c D ca b zb M.length (dm_slots M) 7 (MQ below (dm_Qc D ca b zb (some (.int 1)) (M' ++ [tx_x])) ([Value.ref a, .int sI, .long pL, .int nI, .ref x].map (dm_v b zb)).toArray s (M'.length + 1 - M.length) (dm_slots M' + 6 - dm_slots M) (fun q => b ≤ q)) M (8, lv_args 0 [.ref a, .int sI, .long pL, .int nI, .ref x], [.int nI, .long pL, .int sI, .ref a, .int 0, .ref x]) := by
    intro H locs ls hH1 hS1 hl1
    obtain ⟨k1, k2, k3, k4, k5⟩ := id i3
    have hlen1 : (M' ++ [tx_x]).length = M'.length + 1 := by simp
    have hsl : dm_slots (M' ++ [tx_x]) = dm_slots M' + 6 := dm_slots_app M' tx_x
    have q1 : (M' ++ [tx_x]).length - M.length = M'.length + 1 - M.length := by rw [hlen1]
    have q2 : dm_slots (M' ++ [tx_x]) - dm_slots M = dm_slots M' + 6 - dm_slots M := by rw [hsl]
    have hcw := cwV (R := (headSpec (tl_ws o) { frames := d + 2, cells := M'.length + 1 - M.length, slots := dm_slots M' + 6 - dm_slots M, locals := 64 * (d + 2) }).room) (C := RX10) (index := tl_ix o) (own := RL) (rm := { frames := d + 1, cells := M'.length + 1 - M.length, slots := dm_slots M' + 6 - dm_slots M, locals := 64 * (d + 1) }) 3 hts (ws := dm_wo (dm_tb (tl_mi o))) (fun w hw => by
        rcases List.mem_append.mp hw with h | h
        · have h9 : w ∈ dm_W := by
            simp only [List.mem_cons, List.not_mem_nil, or_false] at h
            rcases h with rfl | rfl | rfl | rfl
            · exact i5
            · exact i6
            · exact i7
            · rw [← i4]; exact k2
          exact ⟨h9, dm_goodW h9⟩
        · exact dm_wo_good i3 w h) rfl rfl rfl ⟨i4, k3.1, k3.2, i8⟩ ⟨by show d + 1 + 1 ≤ d + 2; omega, by show 8 + ((dm_tb (tl_mi o)).2.2.1 + 11) + 64 * (d + 1) ≤ 64 * (d + 2); rw [i9]; omega⟩
    have hrun := vx_runV (As := [Value.int sI, .long pL, .int nI]) (b := b + a) (rest := [Value.int 0, .ref (b + x)]) (g := F0 m 8 ls [Value.int nI, .long pL, .int sI, .ref (b + a), .int 0, .ref (b + x)]) (locs := locs) (cells := M.length - M.length) (slots := dm_slots M - dm_slots M) (H := H) (e := e) (p := p) (below := below) (meth := meth) ⟨B.exec, B.bytes, hml, hown, hts⟩ (hMx D ca b zb) hcw
      ⟨tx_blind, va_recv hKs hH1.2 (ci := 7) (q0 := a) rfl (by rw [dm_ws_get ha]; rfl), fun U hU hW => ⟨rfl, by rw [hU]; exact hH1, va_K.moved hW.alike hKs, dm_Nk.warm hW hNs, tx_K.move hW hS1 hU hTs⟩⟩ rfl rfl hl1.1 rfl (by show 2 * 0 + 2 ≤ 8; omega) i1 ⟨by show M.length - M.length + (M'.length + 1 - M.length) ≤ M'.length + 1 - M.length; omega, by show dm_slots M - dm_slots M + (dm_slots M' + 6 - dm_slots M) ≤ dm_slots M' + 6 - dm_slots M; omega⟩
    intro T hT X
    rcases hrun T hT X with ⟨v, st₀, t, T', L, h0, X', hL, e1, e2, hq, st⟩ | ⟨q, st₀, t, T', L, E, ce, h0, X', hL, e1, e2, ⟨hE, hp, hz, hk⟩, hce, hcv, hcc, st⟩
    · exact hq.elim
    · subst hE
      rw [h0] at hz hk
      have hS2 : va_S (fun q => b ≤ q) s.heap T'.heap (locs ++ L) := ⟨Nat.le_trans hS1.1 (by rw [e1]; exact hz), fun q h1 h2 => by rw [e1, hk q (Nat.lt_of_lt_of_le h1 hS1.1) h2]; exact hS1.2.1 q h1 h2, fun q hq => by
        rcases List.mem_append.mp hq with h | h
        · exact hS1.2.2 q h
        · exact hL q h⟩
      have r19 := (hG (tl_k o + 3) (dm_ret .int) (by cases o <;> rfl)) [] [.int 1] (M' ++ [tx_x]) (.inr (.inr (some (.int 1)))) rfl p l e (headSpec (tl_ws o) { frames := d + 2, cells := M'.length + 1 - M.length, slots := dm_slots M' + 6 - dm_slots M, locals := 64 * (d + 2) }).room s m _ below meth c D ca b zb M.length (dm_slots M) hC
      rw [q1, q2] at r19
      have r18 := tl_go (hG (tl_k o + 2) (dm_push (tl_k o + 3) (.int 1)) (by cases o <;> rfl)) (lv := []) (st := []) rfl hC (by rw [hlen1]; omega) (by rw [hsl]; omega) (by rw [q1]; exact Nat.le_refl _) (by rw [q2]; exact Nat.le_refl _) r19
      have kk : W p l e (headSpec (tl_ws o) { frames := d + 2, cells := M'.length + 1 - M.length, slots := dm_slots M' + 6 - dm_slots M, locals := 64 * (d + 2) }).room s m ([Value.ref a, .int sI, .long pL, .int nI, .ref x].map (dm_v b zb)).toArray below meth c T'.heap (locs ++ L) (M.length - M.length + (M'.length + 1 - M.length)) (dm_slots M - dm_slots M + (dm_slots M' + 6 - dm_slots M)) (MQ below (dm_Qc D ca b zb (some (.int 1)) (M' ++ [tx_x])) ([Value.ref a, .int sI, .long pL, .int nI, .ref x].map (dm_v b zb)).toArray s (M'.length + 1 - M.length) (dm_slots M' + 6 - dm_slots M) (fun q => b ≤ q)) (F0 m (tl_k o) ls [.ref q]) := by
        refine lv_astore B.exec B.bytes i2 hl1 (by decide) rfl (fun ls' hl' => ?_)
        have h9 := r18 T'.heap (locs ++ L) ls' (by rw [e1]; exact hp) hS2 ⟨hl'.1, hl'.2.1, fun q hq => nomatch hq⟩
        rw [q1, q2] at h9
        rw [show M.length - M.length + (M'.length + 1 - M.length) = M'.length + 1 - M.length by omega, show dm_slots M - dm_slots M + (dm_slots M' + 6 - dm_slots M) = dm_slots M' + 6 - dm_slots M by omega]
        exact h9
      have hvx := vx_catch (own := RL) (name := RNse) (E := RNse) (ce := ce) (q := q) (pc := 8) (ls := ls) (rest := [Value.int 0, .ref (b + x)]) hown [] ⟨0, (tl_h o).head!.2.1, tl_k o, 13⟩ [] (htab.trans (by cases o <;> rfl)) (fun z hz => nomatch hz) (by cases o <;> rfl) (by show 13 ≠ 0; omega) (hts _ tl_w) (va_Nw.use rfl hTs.2.2.2.1) (by rw [e1]; exact hce) hcv hcc kk
      obtain ⟨t2, a1, b1⟩ := hvx T' rfl X'
      exact ⟨t2, st.trans a1, b1⟩
  have n1 : M.length - M.length ≤ (headSpec (tl_ws o) { frames := d + 2, cells := M'.length + 1 - M.length, slots := dm_slots M' + 6 - dm_slots M, locals := 64 * (d + 2) }).room.cells := by rw [Nat.sub_self]; exact Nat.zero_le _
  have n2 : dm_slots M - dm_slots M ≤ (headSpec (tl_ws o) { frames := d + 2, cells := M'.length + 1 - M.length, slots := dm_slots M' + 6 - dm_slots M, locals := 64 * (d + 2) }).room.slots := by rw [Nat.sub_self]; exact Nat.zero_le _
  have hat : dm_At p l e (headSpec (tl_ws o) { frames := d + 2, cells := M'.length + 1 - M.length, slots := dm_slots M' + 6 - dm_slots M, locals := 64 * (d + 2) }).room s m ([Value.ref a, .int sI, .long pL, .int nI, .ref x].map (dm_v b zb)).toArray below meth c D ca b zb M.length (dm_slots M) 7 (MQ below (dm_Qc D ca b zb (some (.int 1)) (M' ++ [tx_x])) ([Value.ref a, .int sI, .long pL, .int nI, .ref x].map (dm_v b zb)).toArray s (M'.length + 1 - M.length) (dm_slots M' + 6 - dm_slots M) (fun q => b ≤ q)) M (0, lv_args 0 [.ref a, .int sI, .long pL, .int nI, .ref x], []) := by
    refine tl_go (hG 0 (dm_ald 2 5) (by cases o <;> rfl)) rfl hC (Nat.le_refl _) (Nat.le_refl _) n1 n2 ?_
    refine tl_go (hG 2 (dm_push 3 (.int 0)) (by cases o <;> rfl)) rfl hC (Nat.le_refl _) (Nat.le_refl _) n1 n2 ?_
    refine tl_go (hG 3 (dm_ald 4 0) (by cases o <;> rfl)) rfl hC (Nat.le_refl _) (Nat.le_refl _) n1 n2 ?_
    refine tl_go (hG 4 (dm_ild 5 1) (by cases o <;> rfl)) rfl hC (Nat.le_refl _) (Nat.le_refl _) n1 n2 ?_
    refine tl_go (hG 5 (dm_lld 6 2) (by cases o <;> rfl)) rfl hC (Nat.le_refl _) (Nat.le_refl _) n1 n2 ?_
    refine tl_go (hG 6 (dm_ild 8 4) (by cases o <;> rfl)) rfl hC (Nat.le_refl _) (Nat.le_refl _) n1 n2 ?_
    exact key
  have hl := lv_entry ([Value.ref a, .int sI, .long pL, .int nI, .ref x].map (dm_v b zb)) (n := 7) (by rw [dm_lg_sl]; show 6 ≤ 7; omega)
  rw [dm_lv_args] at hl
  rw [lg_entry_eq]
  have h9 := hat s.heap [] _ hH va_S.rf hl
  rw [Nat.sub_self, Nat.sub_self] at h9
  exact h9
