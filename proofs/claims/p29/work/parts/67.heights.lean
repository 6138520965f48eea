/-! height and owns of the class: an answer, or the throw -/
theorem lw_7 : iv_ty 0 = some 7 := rfl
theorem mk_s {d : Nat} {t : dm_Code} {f : dm_Sem} {pc pc' : Nat} {lv lv' : dm_Lv} {st st' : List Value} {M M' : dm_Mem} {Q : Option Value → dm_Mem → Prop} (hf : dm_fetch t pc = some (tx_nr f)) (h1 : f lv st M = some (.inl ((pc', lv', st'), M'))) (h : hG d t pc' lv' st' M' Q) : hG d t pc lv st M Q := hs hf (tx_nr_s h1) h
theorem mk_c {d : Nat} {t : dm_Code} {f : dm_Sem} {pc pc' : Nat} {lv lv' : dm_Lv} {st st' : List Value} {M : dm_Mem} {mj : Nat} {as : List Value} {Q : Option Value → dm_Mem → Prop} (hf : dm_fetch t pc = some (tx_nr f)) (h1 : f lv st M = some (.inr (.inl (mj, as, (pc', lv', st'))))) (h : hT d mj as M (fun r M1 => hG d t pc' lv' (r.toList ++ st') M1 Q)) : hG d t pc lv st M Q := hc hf (tx_nr_c h1) h
theorem hh_T {p : iv_P} {M : dm_Mem} (hM : Iv p M) (s : Int32) (w : Int64) (n : Int32) {b : Nat} (hb : iv_ty b = some 2) (hfl : dm_fld M 0 7 0 = some (.ref b)) {x y : Int32} (hx : hT 1 17 [.ref b, .int s] M (fun r M' => r = some (.int x) ∧ M' = M)) (hy : hT 1 133 [.long w, .int n] M (fun r M' => r = some (.int y) ∧ M' = M)) (hxy : x = 0 ∨ y = 0) (o : Bool) :
    hG 7 (tx_mk (dm_cd (tl_mi o))) 0 (lv_args 0 [.ref 0, .int s, .long w, .int n]) [] M (fun r M' => r = some (.long 77) ∧ M' = M) := by
  have e20 : ∀ lv, hG 7 (tx_mk (dm_cd (tl_mi o))) 20 lv [] M (fun r M' => r = some (.long 77) ∧ M' = M) := fun lv => hr (f := tx_mark) (by cases o <;> rfl) rfl ⟨rfl, rfl⟩
  refine mk_s (f := dm_ald 1 0) (by cases o <;> rfl) rfl ?_
  refine mk_s (f := dm_getf 4 7 0) (by cases o <;> rfl) (dm_getf_ok hfl) ?_
  refine mk_s (f := dm_ild 5 1) (by cases o <;> rfl) rfl ?_
  refine mk_c (f := dm_inv 8 17 1 2) (by cases o <;> rfl) (dm_inv_ok (iv_isO hM hb) rfl (Nat.le_of_ble_eq_true rfl)) (hT_mono (by decide) hx (fun r1 M1 q => ?_))
  obtain ⟨rfl, rfl⟩ := q
  by_cases hx0 : x = 0
  · refine mk_s (f := dm_if_eq 11 20) (pc' := 20) (by cases o <;> rfl) (by unfold dm_if_eq; simp only [Option.toList_some, List.singleton_append, if_pos hx0]; rfl) ?_
    exact e20 _
  · refine mk_s (f := dm_if_eq 11 20) (pc' := 11) (by cases o <;> rfl) (by unfold dm_if_eq; simp only [Option.toList_some, List.singleton_append, if_neg hx0]; rfl) ?_
    refine mk_s (f := dm_lld 12 2) (by cases o <;> rfl) rfl ?_
    refine mk_s (f := dm_ild 14 4) (by cases o <;> rfl) rfl ?_
    refine mk_c (f := dm_ins 17 133 2) (by cases o <;> rfl) rfl (hT_mono (by decide) hy (fun r1 M1 q => ?_))
    obtain ⟨rfl, rfl⟩ := q
    have hy0 : y = 0 := hxy.resolve_left hx0
    refine mk_s (f := dm_if_ne 20 30) (pc' := 20) (by cases o <;> rfl) (by unfold dm_if_ne; simp only [Option.toList_some, List.singleton_append, if_neg (show ¬ ¬ y = 0 from fun z => z hy0)]; rfl) ?_
    exact e20 _
theorem h_108 {p : iv_P} {M : dm_Mem} (hM : Iv p M) (s : Int32) (w : Int64) (n : Int32) : hT 8 108 [.ref 0, .int s, .long w, .int n] M (qI M) ∨ hG 7 (tx_mk (dm_cd 108)) 0 (lv_args 0 [.ref 0, .int s, .long w, .int n]) [] M (fun r M' => r = some (.long 77) ∧ M' = M) := by
  obtain ⟨Ls, hW⟩ := id hM
  obtain ⟨v, hfl, b, rfl, hb⟩ := iv_fld hW lw_7 (k := 0) (c := 10) rfl
  obtain ⟨N1, r1, M1, e1, x, -, rfl, q1⟩ := sp_17 hM hb s
  rw [q1] at e1
  obtain ⟨N2, r2, M2, e2, y, -, rfl, q2, hok⟩ := sp_133f (M := M) w n
  rw [q2] at e2
  have hX0 : hT 1 17 [.ref b, .int s] M (fun r M' => r = some (.int x) ∧ M' = M) := ⟨N1, _, _, e1, rfl, rfl⟩
  have hY0 : hT 1 133 [.long w, .int n] M (fun r M' => r = some (.int y) ∧ M' = M) := ⟨N2, _, _, e2, rfl, rfl⟩
  by_cases hxy : x = 0 ∨ y = 0
  · exact Or.inr (hh_T hM s w n hb hfl hX0 hY0 hxy false)
  · have x0 : ¬ x = 0 := fun z => hxy (Or.inl z)
    have y0 : ¬ y = 0 := fun z => hxy (Or.inr z)
    left
    refine hx (t := cd_108) rfl (Nat.le_of_ble_eq_true rfl) (lv := [(0, .ref 0), (1, .int s), (2, .long w), (4, .int n)]) rfl ?_
    refine hs (f := dm_ald 1 0) rfl rfl ?_
    refine hs (f := dm_getf 4 7 0) rfl (dm_getf_ok hfl) ?_
    refine hs (f := dm_ild 5 1) rfl rfl ?_
    refine hc (f := dm_inv 8 17 1 2) rfl (dm_inv_ok (iv_isO hM hb) rfl (Nat.le_of_ble_eq_true rfl)) (hT_mono (by decide) hX0 (fun r1 M1 q => ?_))
    obtain ⟨rfl, rfl⟩ := q
    refine h_if_eq (n := 11) (tt := 20) rfl (fun z => absurd z x0) (fun _ => ?_)
    refine hs (f := dm_lld 12 2) rfl rfl ?_
    refine hs (f := dm_ild 14 4) rfl rfl ?_
    refine hc (f := dm_ins 17 133 2) rfl rfl (hT_mono (by decide) hY0 (fun r1 M1 q => ?_))
    obtain ⟨rfl, rfl⟩ := q
    refine h_if_ne (n := 20) (tt := 30) rfl (fun _ => ?_) (fun z => absurd y0 z)
    refine hs (f := dm_ald 31 0) rfl rfl ?_
    refine hs (f := dm_getf 34 7 0) rfl (dm_getf_ok hfl) ?_
    refine v_geto (m := 6) (n := 37) (ci := 2) (k := 0) rfl hM hb rfl (fun c hc9 => ?_)
    refine hs (f := dm_ald 38 0) rfl rfl ?_
    refine hs (f := dm_getf 41 7 0) rfl (dm_getf_ok hfl) ?_
    refine hs (f := dm_ild 42 1) rfl rfl ?_
    refine v_inv rfl rfl rfl (Nat.le_of_ble_eq_true rfl) hM hb (w_I (by decide) (sp_19 hM hb s) (fun z => ?_))
    refine hs (f := dm_lld 46 2) rfl rfl ?_
    refine hs (f := dm_ild 48 4) rfl rfl ?_
    refine v_inv rfl rfl rfl (Nat.le_of_ble_eq_true rfl) hM hc9 (w_I (by decide) (sp_87 hM hc9 z w n (hok y0)) (fun z2 => ?_))
    exact hr (f := dm_ret .int) rfl rfl ⟨z2, rfl, rfl⟩
theorem h_109 {p : iv_P} {M : dm_Mem} (hM : Iv p M) (s : Int32) (w : Int64) (n : Int32) : hT 8 109 [.ref 0, .int s, .long w, .int n] M (qI M) ∨ hG 7 (tx_mk (dm_cd 109)) 0 (lv_args 0 [.ref 0, .int s, .long w, .int n]) [] M (fun r M' => r = some (.long 77) ∧ M' = M) := by
  obtain ⟨Ls, hW⟩ := id hM
  obtain ⟨v, hfl, b, rfl, hb⟩ := iv_fld hW lw_7 (k := 0) (c := 10) rfl
  obtain ⟨N1, r1, M1, e1, x, -, rfl, q1⟩ := sp_17 hM hb s
  rw [q1] at e1
  obtain ⟨N2, r2, M2, e2, y, -, rfl, q2, hok⟩ := sp_133f (M := M) w n
  rw [q2] at e2
  have hX0 : hT 1 17 [.ref b, .int s] M (fun r M' => r = some (.int x) ∧ M' = M) := ⟨N1, _, _, e1, rfl, rfl⟩
  have hY0 : hT 1 133 [.long w, .int n] M (fun r M' => r = some (.int y) ∧ M' = M) := ⟨N2, _, _, e2, rfl, rfl⟩
  by_cases hxy : x = 0 ∨ y = 0
  · exact Or.inr (hh_T hM s w n hb hfl hX0 hY0 hxy true)
  · have x0 : ¬ x = 0 := fun z => hxy (Or.inl z)
    have y0 : ¬ y = 0 := fun z => hxy (Or.inr z)
    left
    refine hx (t := cd_109) rfl (Nat.le_of_ble_eq_true rfl) (lv := [(0, .ref 0), (1, .int s), (2, .long w), (4, .int n)]) rfl ?_
    refine hs (f := dm_ald 1 0) rfl rfl ?_
    refine hs (f := dm_getf 4 7 0) rfl (dm_getf_ok hfl) ?_
    refine hs (f := dm_ild 5 1) rfl rfl ?_
    refine hc (f := dm_inv 8 17 1 2) rfl (dm_inv_ok (iv_isO hM hb) rfl (Nat.le_of_ble_eq_true rfl)) (hT_mono (by decide) hX0 (fun r1 M1 q => ?_))
    obtain ⟨rfl, rfl⟩ := q
    refine h_if_eq (n := 11) (tt := 20) rfl (fun z => absurd z x0) (fun _ => ?_)
    refine hs (f := dm_lld 12 2) rfl rfl ?_
    refine hs (f := dm_ild 14 4) rfl rfl ?_
    refine hc (f := dm_ins 17 133 2) rfl rfl (hT_mono (by decide) hY0 (fun r1 M1 q => ?_))
    obtain ⟨rfl, rfl⟩ := q
    refine h_if_ne (n := 20) (tt := 30) rfl (fun _ => ?_) (fun z => absurd y0 z)
    refine hs (f := dm_ald 31 0) rfl rfl ?_
    refine hs (f := dm_getf 34 7 0) rfl (dm_getf_ok hfl) ?_
    refine v_geto (m := 6) (n := 37) (ci := 2) (k := 0) rfl hM hb rfl (fun c hc9 => ?_)
    refine hs (f := dm_ald 38 0) rfl rfl ?_
    refine hs (f := dm_getf 41 7 0) rfl (dm_getf_ok hfl) ?_
    refine hs (f := dm_ild 42 1) rfl rfl ?_
    refine v_inv rfl rfl rfl (Nat.le_of_ble_eq_true rfl) hM hb (w_I (by decide) (sp_18 hM hb s) (fun z => ?_))
    refine hs (f := dm_lld 46 2) rfl rfl ?_
    refine hs (f := dm_ild 48 4) rfl rfl ?_
    refine v_inv rfl rfl rfl (Nat.le_of_ble_eq_true rfl) hM hc9 (w_I (by decide) (sp_87 hM hc9 z w n (hok y0)) (fun z2 => ?_))
    refine hs (f := dm_push 52 (.int 1)) rfl rfl ?_
    refine h_ic_ne (n := 55) (tt := 59) rfl (fun _ => ?_) (fun _ => ?_)
    · refine hs (f := dm_push 60 (.int 0)) rfl rfl ?_
      exact h_retB rfl isB_0 ⟨0, rfl, rfl⟩
    · refine hs (f := dm_push 56 (.int 1)) rfl rfl ?_
      refine hs (f := dm_goto 60) rfl rfl ?_
      exact h_retB rfl isB_1 ⟨1, rfl, rfl⟩
