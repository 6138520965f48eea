/-! A START with the script fl_s: the start of the witness, its script another one -/
def fl_s : List Int32 := [20, 0, 0, 0, 0, 0, 0, 0, 0, 0, 0, 0, 0, 0, 0, 0, 0, 0, 24, 0, 0, 0, 0, 0, 0, 0, 0, 19, 0, 1, 0, 0, 0, 0, 0, 0]
def fl_st : State := start1.aboutOf (fl_s.map Value.int).toArray
theorem fl_wm : start1.about.WarmedH fl_st.vm := State.WarmedH.refl start1.about
set_option maxRecDepth 16384 in
theorem fl_rest : tables_1.all (fun c => (c.onTables && c.keeps) || c.before start1.args0 fl_st) = true := by decide +kernel
theorem fl_words : ∀ c ∈ (Cond.code x code maxLocals ret :: tables_1), c.before start1.args0 fl_st = true := by
  intro c hc
  have h0 := start1.words c hc
  cases hk : (c.onTables && c.keeps) with
  | true => exact word_at fl_wm (Or.inl hk) h0
  | false =>
    rcases List.mem_cons.mp hc with rfl | h
    · cases hk
    · have h1 := List.all_eq_true.mp fl_rest c h
      simpa [hk] using h1
theorem fl_ints : fl_st.IntsAt 0 fl_s := ⟨_, rfl, rfl, ⟨(fun _ h => by cases h), _, rfl, _, rfl⟩, by decide⟩
set_option maxRecDepth 16384 in
theorem fl_pre : (Jvm.Cond.and given_1 narrow_1).before start1.args0 fl_st = true := by decide +kernel
set_option maxRecDepth 16384 in
theorem fl_at : AtStart classFile x code maxLocals ret World_1 tables_1 room_1 Calls_1 rest_1 Pre_1 launch0 start1.p0 start1.e0 fl_st ⟨0, 0⟩ start1.args0 Lib.HandBits.below0 := by
  obtain ⟨a1, a2, a3, a4, a5, a6, -, a8, -, -, a11, -, -⟩ := start1.atStart
  refine ⟨a1, a2, a3, a4, a5, a6, rfl, a8, by decide +kernel, ?_, a11, (show rest_1_c.before start1.args0 fl_st = true by decide +kernel), fl_pre⟩
  exact (Spec.applies_iff rfl).mpr ⟨rfl, rfl, rfl, by decide +kernel, by decide +kernel, by decide +kernel, launch0.hasRoom_least _ room_1 (by decide +kernel) (by decide +kernel) (by decide +kernel) (by decide +kernel) (by decide +kernel) (by decide +kernel), atoms_intro fl_words⟩
