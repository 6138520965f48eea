/-! the law's calls of height and owns as steps -/
def tl_idx : Bool → Nat | false => 82 | true => 88
theorem tl_words : ∀ o : Bool, ∀ w ∈ [Cond.methodLink RL (tl_idx o) (tl_y o), Cond.static (tl_y o), Cond.initialized RL, Cond.codeWith (tl_y o) (tl_c o) 7 (some .int) (tl_h o)], w ∈ lw_tbl ∧ goodWord w = true := by decide +kernel
theorem tl_wd (o : Bool) : ∀ w ∈ [Cond.methodLink RL (tl_idx o) (tl_y o), Cond.static (tl_y o), Cond.initialized RL, Cond.codeWith (tl_y o) (tl_c o) 7 (some .int) (tl_h o)], w ∈ dm_W := fun w hw => dm_in (tl_words o w hw).1 (tl_words o w hw).2
theorem tl_in (o : Bool) : GoodIn dm_W (va_wsS RL (tl_idx o) (tl_y o) (tl_ws o)) := by
  have hcl : (tl_y o).cls = RL := by cases o <;> rfl
  intro w hw
  have h9 : w ∈ dm_W := by
    rcases List.mem_append.mp hw with h | h
    · rw [hcl] at h
      exact tl_wd o w (by simp only [List.mem_cons, List.not_mem_nil, or_false] at h ⊢; rcases h with h | h | h <;> simp [h])
    · rcases List.mem_cons.mp h with h | h
      · exact tl_wd o w (by simp [h])
      · exact h
  exact ⟨h9, dm_goodW h9⟩
theorem tl_call {p : Program} {l : Launch} {e : Env} {R : Room} {s : State} {m : MethodId} {args : Array Value} {below : List Frame} {meth : Method} {c : Code} {D : va_G} {ca : FieldType → ClassId} {b zb n0 s0 pc : Nat} {Q : State → Prop} {sc : Option (Nat × (Nat → Int32))} {rm : Room} {as rest : List Value} {v : Value} {M M' : dm_Mem} {lv : dm_Lv} (o : Bool)
    (hd : decode cL_law pc = .ok (.invokestatic (tl_idx o), 3)) (hC : dm_Cx RL cL_law 7 (some .boolean) false sc p R s m args meth c D ca b zb n0) (hTs : tx_K b s) (hf : rm.frames + 1 ≤ R.frames) (hlo : 26 + rm.locals ≤ R.locals) (hn : as.length = 5) (hcat : (rest.map fun v => v.category).sum ≤ 8)
    (hrc : rm.cells = M'.length - M.length) (hrs : rm.slots = dm_slots M' - dm_slots M) (hle : M.length ≤ M'.length ∧ dm_slots M ≤ dm_slots M')
    (hM : Met l (tl_y o) (tl_ws o) rm (va_Pc (as.map (dm_v b zb)) (tx_B D ca b zb M)) (dm_Qc D ca b zb (some v) M') (M'.length - M.length) (dm_slots M' - dm_slots M) (fun q => b ≤ q))
    (g1 : n0 ≤ M.length) (g2 : s0 ≤ dm_slots M) (g3 : M'.length - n0 ≤ R.cells) (g4 : dm_slots M' - s0 ≤ R.slots)
    (hk : dm_At p l e R s m args below meth c D ca b zb n0 s0 7 Q M' (pc + 3, lv, v :: rest)) : dm_At p l e R s m args below meth c D ca b zb n0 s0 7 Q M (pc, lv, as.reverse ++ rest) := by
  intro H locs ls hH hS hl
  obtain ⟨hx, hb, hml, hown, hts, hr, hlk, hin, hK, hsz, hfr, hlo9, hsc⟩ := hC
  have hcl : (tl_y o).cls = RL := by cases o <;> rfl
  have hcw := vx_cwSW (R := R) (args := args) (s := s) (own := RL) (index := tl_idx o) (y := tl_y o) (bytes := tl_c o) (maxL := 7) (ret := some .int) (hh := tl_h o) (ws := tl_ws o) (ws' := dm_W) (rm := rm) 5 hts (tl_in o) rfl hrc hrs ⟨by rw [hcl]; decide, by rw [hcl]; decide, by cases o <;> decide +kernel⟩ ⟨hf, by omega⟩
  have hrun := vx_runSW (As := as.map (dm_v b zb)) (rest := rest.map (dm_v b zb)) (g := F0 m pc ls ((as.reverse ++ rest).map (dm_v b zb))) (locs := locs) (cells := M.length - n0) (slots := dm_slots M - s0) (H := H) (e := e) (p := p) (below := below) (meth := meth) ⟨hx, hb, hml, hown, hts⟩ hM hcw
    ⟨tx_blind, fun U hU hW => ⟨rfl, by rw [hU]; exact hH, va_K.moved hW.alike hK, dm_Nk.warm hW hsc.2, tx_K.move hW hS hU hTs⟩⟩ rfl (by rw [List.length_map]; exact hn) hl.1 (by show (as.reverse ++ rest).map (dm_v b zb) = _; rw [List.map_append, List.map_reverse]) (lv_room (by rw [dm_cats]; exact hcat)) hd ⟨by show M.length - n0 + (M'.length - M.length) ≤ _; omega, by show dm_slots M - s0 + (dm_slots M' - dm_slots M) ≤ _; omega⟩
  refine dm_call hrun hS (fun H1 locs1 hH1 hS1 => ?_)
  have h9 := hk H1 locs1 ls hH1 hS1 hl
  rw [show M.length - n0 + (M'.length - M.length) = M'.length - n0 by omega, show dm_slots M - s0 + (dm_slots M' - dm_slots M) = dm_slots M' - s0 by omega]
  exact h9
/-- the step without a throw -/
noncomputable def tl_sN (N d : Nat) (o : Bool) (n : Nat) : dm_Sem := fun lv st M => match st with
  | .ref x :: .int nI :: .long pL :: .int sI :: .ref a :: r => if (r.map fun v => v.category).sum ≤ 8 then
      match dm_run (dm_ex dm_tb dm_cd N d) (tl_cd o) N (0, lv_args 0 [.ref a, .int sI, .long pL, .int nI, .ref x], []) M with
      | some (some v, M') => some (.inl ((n, lv, v :: r), M'))
      | _ => none
    else none
  | _ => none
/-- the step with one -/
noncomputable def tl_sT (N d : Nat) (o : Bool) (n : Nat) : dm_Sem := fun lv st M => match st with
  | .ref _ :: .int nI :: .long pL :: .int sI :: .ref a :: r => if (r.map fun v => v.category).sum ≤ 8 ∧ dm_isO M a 7 = true then
      match dm_run (dm_ex dm_tb dm_cd N d) (tx_mk (dm_cd (tl_mi o))) N (0, lv_args 0 [.ref a, .int sI, .long pL, .int nI], []) M with
      | some (some (.long 77), M') => some (.inl ((n, lv, .int 1 :: r), M' ++ [tx_x]))
      | _ => none
    else none
  | _ => none
/-- the step, whichever way it goes: one whose memories stand to each other as G says -/
noncomputable def tl_sX (d : Nat) (G : dm_Mem → dm_Mem → Prop) (o : Bool) (n : Nat) : dm_Sem := fun lv st M => @dite (Option dm_Rs) (∃ q : Nat × dm_Rs, (tl_sN q.1 d o n lv st M = some q.2 ∨ tl_sT q.1 d o n lv st M = some q.2) ∧ ∃ k M', q.2 = .inl ((n, lv, .int k :: st.drop 5), M') ∧ G M M') (Classical.propDecidable _) (fun h => some h.choose.2) (fun _ => none)
theorem tl_sX_i {d : Nat} {G : dm_Mem → dm_Mem → Prop} {o : Bool} {n : Nat} {lv : dm_Lv} {st : List Value} {M : dm_Mem} {oo : dm_Rs} (h : tl_sX d G o n lv st M = some oo) : ∃ N, (tl_sN N d o n lv st M = some oo ∨ tl_sT N d o n lv st M = some oo) ∧ ∃ k M', oo = .inl ((n, lv, .int k :: st.drop 5), M') ∧ G M M' := by
  unfold tl_sX at h
  split at h
  · rename_i hx
    cases h
    exact ⟨hx.choose.1, hx.choose_spec⟩
  · cases h
theorem tl_sX_o {d : Nat} {G : dm_Mem → dm_Mem → Prop} {o : Bool} {n N : Nat} {lv : dm_Lv} {st : List Value} {M M1 : dm_Mem} {k1 : Int32} (h : tl_sN N d o n lv st M = some (.inl ((n, lv, .int k1 :: st.drop 5), M1)) ∨ tl_sT N d o n lv st M = some (.inl ((n, lv, .int k1 :: st.drop 5), M1))) (hG : G M M1) : ∃ k M', tl_sX d G o n lv st M = some (.inl ((n, lv, .int k :: st.drop 5), M')) ∧ G M M' := by
  have hx : ∃ q : Nat × dm_Rs, (tl_sN q.1 d o n lv st M = some q.2 ∨ tl_sT q.1 d o n lv st M = some q.2) ∧ ∃ k M', q.2 = .inl ((n, lv, .int k :: st.drop 5), M') ∧ G M M' := ⟨(N, _), h, k1, M1, rfl, hG⟩
  obtain ⟨k, M', e, g⟩ := hx.choose_spec.2
  refine ⟨k, M', ?_, g⟩
  unfold tl_sX
  rw [dif_pos hx, e]
theorem tl_X {p : Program} {l : Launch} (hlt : l.stackTraces = false) {e : Env} {R : Room} {s : State} {m : MethodId} {args : Array Value} {below : List Frame} {meth : Method} {c : Code} {D : va_G} {ca : FieldType → ClassId} {b zb n0 s0 pc : Nat} {Q : State → Prop} {sc : Option (Nat × (Nat → Int32))} (d : Nat) (hd6 : 6 ≤ d) (G : dm_Mem → dm_Mem → Prop) (o : Bool)
    (hd : decode cL_law pc = .ok (.invokestatic (tl_idx o), 3)) (hC : dm_Cx RL cL_law 7 (some .boolean) false sc p R s m args meth c D ca b zb n0) (hTs : tx_K b s) (hf : d + 3 ≤ R.frames) (hlo : 26 + 64 * (d + 2) ≤ R.locals) : dm_GoodX dm_tb p l e R s m args below meth c D ca b zb n0 s0 7 Q pc (tl_sX d G o (pc + 3)) := by
  intro lv st M oo h0
  obtain ⟨N, h | h, -⟩ := tl_sX_i h0
  · skip
    unfold tl_sN at h
    split at h
    · rename_i x nI pL sI a r
      split at h
      · rename_i hcat
        split at h
        · rename_i v M' h1
          cases h
          obtain ⟨hle, hM⟩ := tl_N (l := l) (N := N) (d := d) (as := [.ref a, .int sI, .long pL, .int nI, .ref x]) o (show 6 ≤ 7 by omega) h1
          exact ⟨hle, fun g1 g2 g3 g4 hk => tl_call o hd hC hTs (by show d + 1 + 1 ≤ _; omega) (by show 26 + 64 * (d + 1) ≤ _; omega) rfl hcat rfl rfl hle (hM D ca b zb) g1 g2 g3 g4 hk⟩
        · cases h
      · cases h
    · cases h
  · skip
    unfold tl_sT at h
    split at h
    · rename_i x nI pL sI a r
      split at h
      · rename_i hcat
        obtain ⟨hcat, h7⟩ := hcat
        split at h
        · rename_i M' h1
          cases h
          obtain ⟨fs, ha⟩ : ∃ fs, M[a]? = some (.inr (7, fs)) := by
            unfold dm_isO at h7
            split at h7
            · rename_i q ha
              obtain ⟨c7, fs⟩ := q
              have h8 : c7 = 7 := by simpa using h7
              subst h8
              exact ⟨fs, ha⟩
            · cases h7
          obtain ⟨hle, hM⟩ := tl_T (l := l) hlt (N := N) (d := d) (x := x) o hd6 ha h1
          have hlen1 : (M' ++ [tx_x]).length = M'.length + 1 := by simp
          have hsl : dm_slots (M' ++ [tx_x]) = dm_slots M' + 6 := dm_slots_app M' tx_x
          have hM9 := hM D ca b zb
          rw [← hlen1, ← hsl] at hM9
          have hle9 : M.length ≤ (M' ++ [tx_x]).length ∧ dm_slots M ≤ dm_slots (M' ++ [tx_x]) := ⟨by omega, by omega⟩
          exact ⟨hle9, fun g1 g2 g3 g4 hk => tl_call o hd hC hTs (by show d + 2 + 1 ≤ _; omega) (by show 26 + 64 * (d + 2) ≤ _; omega) rfl hcat rfl rfl hle9 hM9 g1 g2 g3 g4 hk⟩
        · cases h
      · cases h
    · cases h
