/-! the law's run on the script fl_s, by the kernel: it answers 0, in the room -/
def fl_xs : Nat → Int32 := fun j => fl_s.getD j 0
noncomputable abbrev fl_C : dm_Code := cdL fl_s.length fl_xs dm_no dm_no
noncomputable def fl_o : Option (Option Value × dm_Mem) := dm_run (dm_ex dm_tb dm_cd 2000000 40) fl_C 2000000 (0, [(0, .float 0)], []) []
set_option maxRecDepth 100000 in
theorem fl_run : fl_o.map (fun q => (q.1, Nat.ble q.2.length 601024 && Nat.ble (dm_slots q.2) 7293034)) = some (some (.int 0), true) := by decide +kernel
theorem fl_end : ∃ M, dm_run (dm_ex dm_tb dm_cd 2000000 40) fl_C 2000000 (0, [(0, .float 0)], []) [] = some (some (.int 0), M) ∧ M.length ≤ 601024 ∧ dm_slots M ≤ 7293034 := by
  have h := fl_run
  show ∃ M, fl_o = some (some (.int 0), M) ∧ _
  cases e : fl_o with
  | none => rw [e] at h; cases h
  | some q =>
    rw [e] at h
    have h1 := Option.some.inj h
    have h2 := congrArg Prod.fst h1
    have h3 := congrArg Prod.snd h1
    simp only [Bool.and_eq_true] at h3
    refine ⟨q.2, ?_, Nat.le_of_ble_eq_true h3.1, Nat.le_of_ble_eq_true h3.2⟩
    rw [← (show q.1 = some (.int 0) from h2)]
