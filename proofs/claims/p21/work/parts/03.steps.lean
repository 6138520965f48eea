def dm_push (n : Nat) (v : Value) : dm_Sem := fun lv st M => some (.inl ((n, lv, v :: st), M))
theorem dg_iconst {tb : Nat → dm_Me} {own : String} {cc : ByteArray} {nL : Nat} {ret : Option FieldType} {isI : Bool} {sc : Option (Nat × (Nat → Int32))} {pc : Nat} {n : Int} {v : Int32} (hv : Int32.ofInt n = v) (hd : decode cc pc = .ok (.iconst n, 1)) : dm_Good tb own cc nL ret isI sc pc (dm_push (pc + 1) (.int v)) := by
  intro lv st M o h
  cases h
  refine dm_pure (fun p l e R s m args below meth c D ca b zb n0 Q H locs ls cells slots hC hH hl h1 h2 hk => ?_)
  obtain ⟨hx, hb, hml, hown, hts, hr, hlk, hin, hK, hsz, hf, hlo, hsc⟩ := hC
  exact lv_iconst hx hb hd hv (hk ls hl)
theorem dg_bipush {tb : Nat → dm_Me} {own : String} {cc : ByteArray} {nL : Nat} {ret : Option FieldType} {isI : Bool} {sc : Option (Nat × (Nat → Int32))} {pc : Nat} {n : Int} {v : Int32} (hv : (Int8.ofInt n).toInt32 = v) (hd : decode cc pc = .ok (.bipush n, 2)) : dm_Good tb own cc nL ret isI sc pc (dm_push (pc + 2) (.int v)) := by
  intro lv st M o h
  cases h
  refine dm_pure (fun p l e R s m args below meth c D ca b zb n0 Q H locs ls cells slots hC hH hl h1 h2 hk => ?_)
  obtain ⟨hx, hb, hml, hown, hts, hr, hlk, hin, hK, hsz, hf, hlo, hsc⟩ := hC
  exact lv_bipush hx hb hd hv (hk ls hl)
theorem dg_sipush {tb : Nat → dm_Me} {own : String} {cc : ByteArray} {nL : Nat} {ret : Option FieldType} {isI : Bool} {sc : Option (Nat × (Nat → Int32))} {pc : Nat} {n : Int} {v : Int32} (hv : (Int16.ofInt n).toInt32 = v) (hd : decode cc pc = .ok (.sipush n, 3)) : dm_Good tb own cc nL ret isI sc pc (dm_push (pc + 3) (.int v)) := by
  intro lv st M o h
  cases h
  refine dm_pure (fun p l e R s m args below meth c D ca b zb n0 Q H locs ls cells slots hC hH hl h1 h2 hk => ?_)
  obtain ⟨hx, hb, hml, hown, hts, hr, hlk, hin, hK, hsz, hf, hlo, hsc⟩ := hC
  exact lv_sipush hx hb hd hv (hk ls hl)
theorem dg_lconst {tb : Nat → dm_Me} {own : String} {cc : ByteArray} {nL : Nat} {ret : Option FieldType} {isI : Bool} {sc : Option (Nat × (Nat → Int32))} {pc : Nat} {n : Fin 2} {v : Int64} (hv : Int64.ofNat (n : Nat) = v) (hd : decode cc pc = .ok (.lconst n, 1)) : dm_Good tb own cc nL ret isI sc pc (dm_push (pc + 1) (.long v)) := by
  intro lv st M o h
  cases h
  refine dm_pure (fun p l e R s m args below meth c D ca b zb n0 Q H locs ls cells slots hC hH hl h1 h2 hk => ?_)
  obtain ⟨hx, hb, hml, hown, hts, hr, hlk, hin, hK, hsz, hf, hlo, hsc⟩ := hC
  exact lv_lconst hx hb hd hv (hk ls hl)
theorem dg_ldc {tb : Nat → dm_Me} {own : String} {cc : ByteArray} {nL : Nat} {ret : Option FieldType} {isI : Bool} {sc : Option (Nat × (Nat → Int32))} {pc : Nat} {n : Nat} {v : Int32} (hv : Cond.constant own n v ∈ dm_W) (hd : decode cc pc = .ok (.ldc n, 2)) : dm_Good tb own cc nL ret isI sc pc (dm_push (pc + 2) (.int v)) := by
  intro lv st M o h
  cases h
  refine dm_pure (fun p l e R s m args below meth c D ca b zb n0 Q H locs ls cells slots hC hH hl h1 h2 hk => ?_)
  obtain ⟨hx, hb, hml, hown, hts, hr, hlk, hin, hK, hsz, hf, hlo, hsc⟩ := hC
  exact lv_ldc hx hb hown (hts _ hv) hd (hk ls hl)
theorem dg_ldc2 {tb : Nat → dm_Me} {own : String} {cc : ByteArray} {nL : Nat} {ret : Option FieldType} {isI : Bool} {sc : Option (Nat × (Nat → Int32))} {pc : Nat} {n : Nat} {v : Int64} (hv : Cond.constantLong own n v ∈ dm_W) (hd : decode cc pc = .ok (.ldc2_w n, 3)) : dm_Good tb own cc nL ret isI sc pc (dm_push (pc + 3) (.long v)) := by
  intro lv st M o h
  cases h
  refine dm_pure (fun p l e R s m args below meth c D ca b zb n0 Q H locs ls cells slots hC hH hl h1 h2 hk => ?_)
  obtain ⟨hx, hb, hml, hown, hts, hr, hlk, hin, hK, hsz, hf, hlo, hsc⟩ := hC
  exact lv_ldc2 hx hb hown (hts _ hv) hd (hk ls hl)
def dm_ild (n i : Nat) : dm_Sem := fun lv st M => match dm_lget lv i with
  | some (.int x) => some (.inl ((n, lv, .int x :: st), M))
  | _ => none
theorem dg_iload_n {tb : Nat → dm_Me} {own : String} {cc : ByteArray} {nL : Nat} {ret : Option FieldType} {isI : Bool} {sc : Option (Nat × (Nat → Int32))} {pc : Nat} {k : Fin 4} {i : Nat} (hi : (k : Nat) = i) (hd : decode cc pc = .ok (.iload_n k, 1)) : dm_Good tb own cc nL ret isI sc pc (dm_ild (pc + 1) i) := by
  intro lv st M o h
  unfold dm_ild at h
  split at h
  · rename_i x e1
    cases h
    refine dm_pure (fun p l e R s m args below meth c D ca b zb n0 Q H locs ls cells slots hC hH hl h1 h2 hk => ?_)
    obtain ⟨hx, hb, hml, hown, hts, hr, hlk, hin, hK, hsz, hf, hlo, hsc⟩ := hC
    exact lv_iload_n hx hb hd hi (dm_lget_at hl e1) (hk ls hl)
  · cases h
theorem dg_iload {tb : Nat → dm_Me} {own : String} {cc : ByteArray} {nL : Nat} {ret : Option FieldType} {isI : Bool} {sc : Option (Nat × (Nat → Int32))} {pc : Nat} {i : Nat} (hd : decode cc pc = .ok (.iload i, 2)) : dm_Good tb own cc nL ret isI sc pc (dm_ild (pc + 2) i) := by
  intro lv st M o h
  unfold dm_ild at h
  split at h
  · rename_i x e1
    cases h
    refine dm_pure (fun p l e R s m args below meth c D ca b zb n0 Q H locs ls cells slots hC hH hl h1 h2 hk => ?_)
    obtain ⟨hx, hb, hml, hown, hts, hr, hlk, hin, hK, hsz, hf, hlo, hsc⟩ := hC
    exact lv_iload hx hb hd (dm_lget_at hl e1) (hk ls hl)
  · cases h
def dm_lld (n i : Nat) : dm_Sem := fun lv st M => match dm_lget lv i with
  | some (.long x) => some (.inl ((n, lv, .long x :: st), M))
  | _ => none
theorem dg_lload_n {tb : Nat → dm_Me} {own : String} {cc : ByteArray} {nL : Nat} {ret : Option FieldType} {isI : Bool} {sc : Option (Nat × (Nat → Int32))} {pc : Nat} {k : Fin 4} {i : Nat} (hi : (k : Nat) = i) (hd : decode cc pc = .ok (.lload_n k, 1)) : dm_Good tb own cc nL ret isI sc pc (dm_lld (pc + 1) i) := by
  intro lv st M o h
  unfold dm_lld at h
  split at h
  · rename_i x e1
    cases h
    refine dm_pure (fun p l e R s m args below meth c D ca b zb n0 Q H locs ls cells slots hC hH hl h1 h2 hk => ?_)
    obtain ⟨hx, hb, hml, hown, hts, hr, hlk, hin, hK, hsz, hf, hlo, hsc⟩ := hC
    exact lv_lload_n hx hb hd hi (dm_lget_at hl e1) (hk ls hl)
  · cases h
theorem dg_lload {tb : Nat → dm_Me} {own : String} {cc : ByteArray} {nL : Nat} {ret : Option FieldType} {isI : Bool} {sc : Option (Nat × (Nat → Int32))} {pc : Nat} {i : Nat} (hd : decode cc pc = .ok (.lload i, 2)) : dm_Good tb own cc nL ret isI sc pc (dm_lld (pc + 2) i) := by
  intro lv st M o h
  unfold dm_lld at h
  split at h
  · rename_i x e1
    cases h
    refine dm_pure (fun p l e R s m args below meth c D ca b zb n0 Q H locs ls cells slots hC hH hl h1 h2 hk => ?_)
    obtain ⟨hx, hb, hml, hown, hts, hr, hlk, hin, hK, hsz, hf, hlo, hsc⟩ := hC
    exact lv_lload hx hb hd (dm_lget_at hl e1) (hk ls hl)
  · cases h
def dm_ald (n i : Nat) : dm_Sem := fun lv st M => match dm_lget lv i with
  | some (.ref x) => some (.inl ((n, lv, .ref x :: st), M))
  | some (.float x) => some (.inl ((n, lv, .float x :: st), M))
  | _ => none
theorem dg_aload_n {tb : Nat → dm_Me} {own : String} {cc : ByteArray} {nL : Nat} {ret : Option FieldType} {isI : Bool} {sc : Option (Nat × (Nat → Int32))} {pc : Nat} {k : Fin 4} {i : Nat} (hi : (k : Nat) = i) (hd : decode cc pc = .ok (.aload_n k, 1)) : dm_Good tb own cc nL ret isI sc pc (dm_ald (pc + 1) i) := by
  intro lv st M o h
  unfold dm_ald at h
  split at h
  · rename_i x e1
    cases h
    refine dm_pure (fun p l e R s m args below meth c D ca b zb n0 Q H locs ls cells slots hC hH hl h1 h2 hk => ?_)
    obtain ⟨hx, hb, hml, hown, hts, hr, hlk, hin, hK, hsz, hf, hlo, hsc⟩ := hC
    exact lv_aload_n hx hb hd hi (dm_lget_at hl e1) (hk ls hl)
  · rename_i x e1
    cases h
    refine dm_pure (fun p l e R s m args below meth c D ca b zb n0 Q H locs ls cells slots hC hH hl h1 h2 hk => ?_)
    obtain ⟨hx, hb, hml, hown, hts, hr, hlk, hin, hK, hsz, hf, hlo, hsc⟩ := hC
    exact lv_aload_n hx hb hd hi (dm_lget_at hl e1) (hk ls hl)
  · cases h
theorem dg_aload {tb : Nat → dm_Me} {own : String} {cc : ByteArray} {nL : Nat} {ret : Option FieldType} {isI : Bool} {sc : Option (Nat × (Nat → Int32))} {pc : Nat} {i : Nat} (hd : decode cc pc = .ok (.aload i, 2)) : dm_Good tb own cc nL ret isI sc pc (dm_ald (pc + 2) i) := by
  intro lv st M o h
  unfold dm_ald at h
  split at h
  · rename_i x e1
    cases h
    refine dm_pure (fun p l e R s m args below meth c D ca b zb n0 Q H locs ls cells slots hC hH hl h1 h2 hk => ?_)
    obtain ⟨hx, hb, hml, hown, hts, hr, hlk, hin, hK, hsz, hf, hlo, hsc⟩ := hC
    exact lv_aload hx hb hd (dm_lget_at hl e1) (hk ls hl)
  · rename_i x e1
    cases h
    refine dm_pure (fun p l e R s m args below meth c D ca b zb n0 Q H locs ls cells slots hC hH hl h1 h2 hk => ?_)
    obtain ⟨hx, hb, hml, hown, hts, hr, hlk, hin, hK, hsz, hf, hlo, hsc⟩ := hC
    exact lv_aload hx hb hd (dm_lget_at hl e1) (hk ls hl)
  · cases h
def dm_ist (n i : Nat) : dm_Sem := fun lv st M => match st with
  | .int x :: r => some (.inl ((n, dm_set1 lv i (.int x), r), M))
  | _ => none
theorem dg_istore_n {tb : Nat → dm_Me} {own : String} {cc : ByteArray} {nL : Nat} {ret : Option FieldType} {isI : Bool} {sc : Option (Nat × (Nat → Int32))} {pc : Nat} {k : Fin 4} {i : Nat} (hi : (k : Nat) = i) (hn : i < nL) (hd : decode cc pc = .ok (.istore_n k, 1)) : dm_Good tb own cc nL ret isI sc pc (dm_ist (pc + 1) i) := by
  intro lv st M o h
  unfold dm_ist at h
  split at h
  · rename_i x r
    cases h
    refine dm_pure (fun p l e R s m args below meth c D ca b zb n0 Q H locs ls cells slots hC hH hl h1 h2 hk => ?_)
    obtain ⟨hx, hb, hml, hown, hts, hr, hlk, hin, hK, hsz, hf, hlo, hsc⟩ := hC
    exact lv_istore_n hx hb hd hi hl hn (dm_set1_lv b zb lv i (.int x)) (fun ls' hl' => hk ls' hl')
  · cases h
theorem dg_istore {tb : Nat → dm_Me} {own : String} {cc : ByteArray} {nL : Nat} {ret : Option FieldType} {isI : Bool} {sc : Option (Nat × (Nat → Int32))} {pc : Nat} {i : Nat} (hn : i < nL) (hd : decode cc pc = .ok (.istore i, 2)) : dm_Good tb own cc nL ret isI sc pc (dm_ist (pc + 2) i) := by
  intro lv st M o h
  unfold dm_ist at h
  split at h
  · rename_i x r
    cases h
    refine dm_pure (fun p l e R s m args below meth c D ca b zb n0 Q H locs ls cells slots hC hH hl h1 h2 hk => ?_)
    obtain ⟨hx, hb, hml, hown, hts, hr, hlk, hin, hK, hsz, hf, hlo, hsc⟩ := hC
    exact lv_istore hx hb hd hl hn (dm_set1_lv b zb lv i (.int x)) (fun ls' hl' => hk ls' hl')
  · cases h
def dm_lst (n i : Nat) : dm_Sem := fun lv st M => match st with
  | .long x :: r => some (.inl ((n, dm_set2 lv i (.long x), r), M))
  | _ => none
theorem dg_lstore_n {tb : Nat → dm_Me} {own : String} {cc : ByteArray} {nL : Nat} {ret : Option FieldType} {isI : Bool} {sc : Option (Nat × (Nat → Int32))} {pc : Nat} {k : Fin 4} {i : Nat} (hi : (k : Nat) = i) (hn : i + 1 < nL) (hd : decode cc pc = .ok (.lstore_n k, 1)) : dm_Good tb own cc nL ret isI sc pc (dm_lst (pc + 1) i) := by
  intro lv st M o h
  unfold dm_lst at h
  split at h
  · rename_i x r
    cases h
    refine dm_pure (fun p l e R s m args below meth c D ca b zb n0 Q H locs ls cells slots hC hH hl h1 h2 hk => ?_)
    obtain ⟨hx, hb, hml, hown, hts, hr, hlk, hin, hK, hsz, hf, hlo, hsc⟩ := hC
    exact lv_lstore_n hx hb hd hi hl hn (dm_set2_lv b zb lv i (.long x)) (fun ls' hl' => hk ls' hl')
  · cases h
theorem dg_lstore {tb : Nat → dm_Me} {own : String} {cc : ByteArray} {nL : Nat} {ret : Option FieldType} {isI : Bool} {sc : Option (Nat × (Nat → Int32))} {pc : Nat} {i : Nat} (hn : i + 1 < nL) (hd : decode cc pc = .ok (.lstore i, 2)) : dm_Good tb own cc nL ret isI sc pc (dm_lst (pc + 2) i) := by
  intro lv st M o h
  unfold dm_lst at h
  split at h
  · rename_i x r
    cases h
    refine dm_pure (fun p l e R s m args below meth c D ca b zb n0 Q H locs ls cells slots hC hH hl h1 h2 hk => ?_)
    obtain ⟨hx, hb, hml, hown, hts, hr, hlk, hin, hK, hsz, hf, hlo, hsc⟩ := hC
    exact lv_lstore hx hb hd hl hn (dm_set2_lv b zb lv i (.long x)) (fun ls' hl' => hk ls' hl')
  · cases h
def dm_ast (n i : Nat) : dm_Sem := fun lv st M => match st with
  | .ref x :: r => some (.inl ((n, dm_set1 lv i (.ref x), r), M))
  | _ => none
theorem dg_astore_n {tb : Nat → dm_Me} {own : String} {cc : ByteArray} {nL : Nat} {ret : Option FieldType} {isI : Bool} {sc : Option (Nat × (Nat → Int32))} {pc : Nat} {k : Fin 4} {i : Nat} (hi : (k : Nat) = i) (hn : i < nL) (hd : decode cc pc = .ok (.astore_n k, 1)) : dm_Good tb own cc nL ret isI sc pc (dm_ast (pc + 1) i) := by
  intro lv st M o h
  unfold dm_ast at h
  split at h
  · rename_i x r
    cases h
    refine dm_pure (fun p l e R s m args below meth c D ca b zb n0 Q H locs ls cells slots hC hH hl h1 h2 hk => ?_)
    obtain ⟨hx, hb, hml, hown, hts, hr, hlk, hin, hK, hsz, hf, hlo, hsc⟩ := hC
    exact lv_astore_n hx hb hd hi hl hn (dm_set1_lv b zb lv i (.ref x)) (fun ls' hl' => hk ls' hl')
  · cases h
theorem dg_astore {tb : Nat → dm_Me} {own : String} {cc : ByteArray} {nL : Nat} {ret : Option FieldType} {isI : Bool} {sc : Option (Nat × (Nat → Int32))} {pc : Nat} {i : Nat} (hn : i < nL) (hd : decode cc pc = .ok (.astore i, 2)) : dm_Good tb own cc nL ret isI sc pc (dm_ast (pc + 2) i) := by
  intro lv st M o h
  unfold dm_ast at h
  split at h
  · rename_i x r
    cases h
    refine dm_pure (fun p l e R s m args below meth c D ca b zb n0 Q H locs ls cells slots hC hH hl h1 h2 hk => ?_)
    obtain ⟨hx, hb, hml, hown, hts, hr, hlk, hin, hK, hsz, hf, hlo, hsc⟩ := hC
    exact lv_astore hx hb hd hl hn (dm_set1_lv b zb lv i (.ref x)) (fun ls' hl' => hk ls' hl')
  · cases h
def dm_iinc (n i : Nat) (d : Int32) : dm_Sem := fun lv st M => match dm_lget lv i with
  | some (.int x) => some (.inl ((n, dm_set1 lv i (.int (x + d)), st), M))
  | _ => none
theorem dg_iinc {tb : Nat → dm_Me} {own : String} {cc : ByteArray} {nL : Nat} {ret : Option FieldType} {isI : Bool} {sc : Option (Nat × (Nat → Int32))} {pc : Nat} {i : Nat} {n : Int} {d : Int32} (hv : Int32.ofInt n = d) (hn : i < nL) (hd : decode cc pc = .ok (.iinc i n, 3)) : dm_Good tb own cc nL ret isI sc pc (dm_iinc (pc + 3) i d) := by
  intro lv st M o h
  unfold dm_iinc at h
  split at h
  · rename_i x e1
    cases h
    refine dm_pure (fun p l e R s m args below meth c D ca b zb n0 Q H locs ls cells slots hC hH hl h1 h2 hk => ?_)
    obtain ⟨hx, hb, hml, hown, hts, hr, hlk, hin, hK, hsz, hf, hlo, hsc⟩ := hC
    obtain ⟨k, hk1⟩ := List.getElem?_of_mem (List.mem_map.mpr ⟨(i, Value.int x), dm_lget_mem e1, rfl⟩ : ((i, Value.int x) : Nat × Value) ∈ dm_lv b zb lv)
    exact lv_iinc (v := x + d) hx hb hd hl hk1 (by rw [hv]) hn (dm_set1_lv b zb lv i (.int (x + d))) (fun ls' hl' => hk ls' hl')
  · cases h
def dm_ii (n : Nat) (f : Int32 → Int32 → Int32) : dm_Sem := fun lv st M => match st with
  | .int y :: .int x :: r => some (.inl ((n, lv, .int (f x y) :: r), M))
  | _ => none
def dm_ll (n : Nat) (f : Int64 → Int64 → Int64) : dm_Sem := fun lv st M => match st with
  | .long y :: .long x :: r => some (.inl ((n, lv, .long (f x y) :: r), M))
  | _ => none
def dm_li (n : Nat) (f : Int64 → Int32 → Int64) : dm_Sem := fun lv st M => match st with
  | .int y :: .long x :: r => some (.inl ((n, lv, .long (f x y) :: r), M))
  | _ => none
def dm_lq (n : Nat) (f : Int64 → Int64 → Int64) : dm_Sem := fun lv st M => match st with
  | .long y :: .long x :: r => if y = 0 then none else some (.inl ((n, lv, .long (f x y) :: r), M))
  | _ => none
def dm_iq (n : Nat) (f : Int32 → Int32 → Int32) : dm_Sem := fun lv st M => match st with
  | .int y :: .int x :: r => if y = 0 then none else some (.inl ((n, lv, .int (f x y) :: r), M))
  | _ => none
def dm_lc (n : Nat) : dm_Sem := fun lv st M => match st with
  | .long y :: .long x :: r => some (.inl ((n, lv, .int (lg_cmp x y) :: r), M))
  | _ => none
theorem dg_iadd {tb : Nat → dm_Me} {own : String} {cc : ByteArray} {nL : Nat} {ret : Option FieldType} {isI : Bool} {sc : Option (Nat × (Nat → Int32))} {pc : Nat} (hd : decode cc pc = .ok (.iadd, 1)) : dm_Good tb own cc nL ret isI sc pc (dm_ii (pc + 1) (fun x y => x + y)) := by
  intro lv st M o h
  unfold dm_ii at h
  split at h
  · cases h
    refine dm_pure (fun p l e R s m args below meth c D ca b zb n0 Q H locs ls cells slots hC hH hl h1 h2 hk => ?_)
    obtain ⟨hx, hb, hml, hown, hts, hr, hlk, hin, hK, hsz, hf, hlo, hsc⟩ := hC
    exact lv_iadd hx hb hd (hk ls hl)
  · cases h
theorem dg_isub {tb : Nat → dm_Me} {own : String} {cc : ByteArray} {nL : Nat} {ret : Option FieldType} {isI : Bool} {sc : Option (Nat × (Nat → Int32))} {pc : Nat} (hd : decode cc pc = .ok (.isub, 1)) : dm_Good tb own cc nL ret isI sc pc (dm_ii (pc + 1) (fun x y => x - y)) := by
  intro lv st M o h
  unfold dm_ii at h
  split at h
  · cases h
    refine dm_pure (fun p l e R s m args below meth c D ca b zb n0 Q H locs ls cells slots hC hH hl h1 h2 hk => ?_)
    obtain ⟨hx, hb, hml, hown, hts, hr, hlk, hin, hK, hsz, hf, hlo, hsc⟩ := hC
    exact lv_isub hx hb hd (hk ls hl)
  · cases h
theorem dg_imul {tb : Nat → dm_Me} {own : String} {cc : ByteArray} {nL : Nat} {ret : Option FieldType} {isI : Bool} {sc : Option (Nat × (Nat → Int32))} {pc : Nat} (hd : decode cc pc = .ok (.imul, 1)) : dm_Good tb own cc nL ret isI sc pc (dm_ii (pc + 1) (fun x y => x * y)) := by
  intro lv st M o h
  unfold dm_ii at h
  split at h
  · cases h
    refine dm_pure (fun p l e R s m args below meth c D ca b zb n0 Q H locs ls cells slots hC hH hl h1 h2 hk => ?_)
    obtain ⟨hx, hb, hml, hown, hts, hr, hlk, hin, hK, hsz, hf, hlo, hsc⟩ := hC
    exact lv_imul hx hb hd (hk ls hl)
  · cases h
theorem dg_iand {tb : Nat → dm_Me} {own : String} {cc : ByteArray} {nL : Nat} {ret : Option FieldType} {isI : Bool} {sc : Option (Nat × (Nat → Int32))} {pc : Nat} (hd : decode cc pc = .ok (.iand, 1)) : dm_Good tb own cc nL ret isI sc pc (dm_ii (pc + 1) (fun x y => x &&& y)) := by
  intro lv st M o h
  unfold dm_ii at h
  split at h
  · cases h
    refine dm_pure (fun p l e R s m args below meth c D ca b zb n0 Q H locs ls cells slots hC hH hl h1 h2 hk => ?_)
    obtain ⟨hx, hb, hml, hown, hts, hr, hlk, hin, hK, hsz, hf, hlo, hsc⟩ := hC
    exact lv_iand hx hb hd (hk ls hl)
  · cases h
theorem dg_ishl {tb : Nat → dm_Me} {own : String} {cc : ByteArray} {nL : Nat} {ret : Option FieldType} {isI : Bool} {sc : Option (Nat × (Nat → Int32))} {pc : Nat} (hd : decode cc pc = .ok (.ishl, 1)) : dm_Good tb own cc nL ret isI sc pc (dm_ii (pc + 1) (fun x y => x <<< (y &&& 31))) := by
  intro lv st M o h
  unfold dm_ii at h
  split at h
  · cases h
    refine dm_pure (fun p l e R s m args below meth c D ca b zb n0 Q H locs ls cells slots hC hH hl h1 h2 hk => ?_)
    obtain ⟨hx, hb, hml, hown, hts, hr, hlk, hin, hK, hsz, hf, hlo, hsc⟩ := hC
    exact lv_ishl hx hb hd (hk ls hl)
  · cases h
theorem dg_ishr {tb : Nat → dm_Me} {own : String} {cc : ByteArray} {nL : Nat} {ret : Option FieldType} {isI : Bool} {sc : Option (Nat × (Nat → Int32))} {pc : Nat} (hd : decode cc pc = .ok (.ishr, 1)) : dm_Good tb own cc nL ret isI sc pc (dm_ii (pc + 1) (fun x y => x >>> (y &&& 31))) := by
  intro lv st M o h
  unfold dm_ii at h
  split at h
  · cases h
    refine dm_pure (fun p l e R s m args below meth c D ca b zb n0 Q H locs ls cells slots hC hH hl h1 h2 hk => ?_)
    obtain ⟨hx, hb, hml, hown, hts, hr, hlk, hin, hK, hsz, hf, hlo, hsc⟩ := hC
    exact lv_ishr hx hb hd (hk ls hl)
  · cases h
theorem dg_ladd {tb : Nat → dm_Me} {own : String} {cc : ByteArray} {nL : Nat} {ret : Option FieldType} {isI : Bool} {sc : Option (Nat × (Nat → Int32))} {pc : Nat} (hd : decode cc pc = .ok (.ladd, 1)) : dm_Good tb own cc nL ret isI sc pc (dm_ll (pc + 1) (fun x y => x + y)) := by
  intro lv st M o h
  unfold dm_ll at h
  split at h
  · cases h
    refine dm_pure (fun p l e R s m args below meth c D ca b zb n0 Q H locs ls cells slots hC hH hl h1 h2 hk => ?_)
    obtain ⟨hx, hb, hml, hown, hts, hr, hlk, hin, hK, hsz, hf, hlo, hsc⟩ := hC
    exact lv_ladd hx hb hd (hk ls hl)
  · cases h
theorem dg_lsub {tb : Nat → dm_Me} {own : String} {cc : ByteArray} {nL : Nat} {ret : Option FieldType} {isI : Bool} {sc : Option (Nat × (Nat → Int32))} {pc : Nat} (hd : decode cc pc = .ok (.lsub, 1)) : dm_Good tb own cc nL ret isI sc pc (dm_ll (pc + 1) (fun x y => x - y)) := by
  intro lv st M o h
  unfold dm_ll at h
  split at h
  · cases h
    refine dm_pure (fun p l e R s m args below meth c D ca b zb n0 Q H locs ls cells slots hC hH hl h1 h2 hk => ?_)
    obtain ⟨hx, hb, hml, hown, hts, hr, hlk, hin, hK, hsz, hf, hlo, hsc⟩ := hC
    exact lv_lsub hx hb hd (hk ls hl)
  · cases h
theorem dg_lmul {tb : Nat → dm_Me} {own : String} {cc : ByteArray} {nL : Nat} {ret : Option FieldType} {isI : Bool} {sc : Option (Nat × (Nat → Int32))} {pc : Nat} (hd : decode cc pc = .ok (.lmul, 1)) : dm_Good tb own cc nL ret isI sc pc (dm_ll (pc + 1) (fun x y => x * y)) := by
  intro lv st M o h
  unfold dm_ll at h
  split at h
  · cases h
    refine dm_pure (fun p l e R s m args below meth c D ca b zb n0 Q H locs ls cells slots hC hH hl h1 h2 hk => ?_)
    obtain ⟨hx, hb, hml, hown, hts, hr, hlk, hin, hK, hsz, hf, hlo, hsc⟩ := hC
    exact lv_lmul hx hb hd (hk ls hl)
  · cases h
theorem dg_land {tb : Nat → dm_Me} {own : String} {cc : ByteArray} {nL : Nat} {ret : Option FieldType} {isI : Bool} {sc : Option (Nat × (Nat → Int32))} {pc : Nat} (hd : decode cc pc = .ok (.land, 1)) : dm_Good tb own cc nL ret isI sc pc (dm_ll (pc + 1) (fun x y => x &&& y)) := by
  intro lv st M o h
  unfold dm_ll at h
  split at h
  · cases h
    refine dm_pure (fun p l e R s m args below meth c D ca b zb n0 Q H locs ls cells slots hC hH hl h1 h2 hk => ?_)
    obtain ⟨hx, hb, hml, hown, hts, hr, hlk, hin, hK, hsz, hf, hlo, hsc⟩ := hC
    exact lv_land hx hb hd (hk ls hl)
  · cases h
theorem dg_lor {tb : Nat → dm_Me} {own : String} {cc : ByteArray} {nL : Nat} {ret : Option FieldType} {isI : Bool} {sc : Option (Nat × (Nat → Int32))} {pc : Nat} (hd : decode cc pc = .ok (.lor, 1)) : dm_Good tb own cc nL ret isI sc pc (dm_ll (pc + 1) (fun x y => x ||| y)) := by
  intro lv st M o h
  unfold dm_ll at h
  split at h
  · cases h
    refine dm_pure (fun p l e R s m args below meth c D ca b zb n0 Q H locs ls cells slots hC hH hl h1 h2 hk => ?_)
    obtain ⟨hx, hb, hml, hown, hts, hr, hlk, hin, hK, hsz, hf, hlo, hsc⟩ := hC
    exact lv_lor hx hb hd (hk ls hl)
  · cases h
theorem dg_lxor {tb : Nat → dm_Me} {own : String} {cc : ByteArray} {nL : Nat} {ret : Option FieldType} {isI : Bool} {sc : Option (Nat × (Nat → Int32))} {pc : Nat} (hd : decode cc pc = .ok (.lxor, 1)) : dm_Good tb own cc nL ret isI sc pc (dm_ll (pc + 1) (fun x y => x ^^^ y)) := by
  intro lv st M o h
  unfold dm_ll at h
  split at h
  · cases h
    refine dm_pure (fun p l e R s m args below meth c D ca b zb n0 Q H locs ls cells slots hC hH hl h1 h2 hk => ?_)
    obtain ⟨hx, hb, hml, hown, hts, hr, hlk, hin, hK, hsz, hf, hlo, hsc⟩ := hC
    exact lv_lxor hx hb hd (hk ls hl)
  · cases h
theorem dg_lshl {tb : Nat → dm_Me} {own : String} {cc : ByteArray} {nL : Nat} {ret : Option FieldType} {isI : Bool} {sc : Option (Nat × (Nat → Int32))} {pc : Nat} (hd : decode cc pc = .ok (.lshl, 1)) : dm_Good tb own cc nL ret isI sc pc (dm_li (pc + 1) (fun x y => x <<< (y.toInt64 &&& 63))) := by
  intro lv st M o h
  unfold dm_li at h
  split at h
  · cases h
    refine dm_pure (fun p l e R s m args below meth c D ca b zb n0 Q H locs ls cells slots hC hH hl h1 h2 hk => ?_)
    obtain ⟨hx, hb, hml, hown, hts, hr, hlk, hin, hK, hsz, hf, hlo, hsc⟩ := hC
    exact lv_lshl hx hb hd rfl (hk ls hl)
  · cases h
theorem dg_lshr {tb : Nat → dm_Me} {own : String} {cc : ByteArray} {nL : Nat} {ret : Option FieldType} {isI : Bool} {sc : Option (Nat × (Nat → Int32))} {pc : Nat} (hd : decode cc pc = .ok (.lshr, 1)) : dm_Good tb own cc nL ret isI sc pc (dm_li (pc + 1) (fun x y => x >>> (y.toInt64 &&& 63))) := by
  intro lv st M o h
  unfold dm_li at h
  split at h
  · cases h
    refine dm_pure (fun p l e R s m args below meth c D ca b zb n0 Q H locs ls cells slots hC hH hl h1 h2 hk => ?_)
    obtain ⟨hx, hb, hml, hown, hts, hr, hlk, hin, hK, hsz, hf, hlo, hsc⟩ := hC
    exact lv_lshr hx hb hd rfl (hk ls hl)
  · cases h
theorem dg_lushr {tb : Nat → dm_Me} {own : String} {cc : ByteArray} {nL : Nat} {ret : Option FieldType} {isI : Bool} {sc : Option (Nat × (Nat → Int32))} {pc : Nat} (hd : decode cc pc = .ok (.lushr, 1)) : dm_Good tb own cc nL ret isI sc pc (dm_li (pc + 1) (fun x y => (x.toUInt64 >>> (y.toInt64.toUInt64 &&& Int64.toUInt64 63)).toInt64)) := by
  intro lv st M o h
  unfold dm_li at h
  split at h
  · cases h
    refine dm_pure (fun p l e R s m args below meth c D ca b zb n0 Q H locs ls cells slots hC hH hl h1 h2 hk => ?_)
    obtain ⟨hx, hb, hml, hown, hts, hr, hlk, hin, hK, hsz, hf, hlo, hsc⟩ := hC
    exact lv_lushr hx hb hd rfl (hk ls hl)
  · cases h
theorem dg_lcmp {tb : Nat → dm_Me} {own : String} {cc : ByteArray} {nL : Nat} {ret : Option FieldType} {isI : Bool} {sc : Option (Nat × (Nat → Int32))} {pc : Nat} (hd : decode cc pc = .ok (.lcmp, 1)) : dm_Good tb own cc nL ret isI sc pc (dm_lc (pc + 1)) := by
  intro lv st M o h
  unfold dm_lc at h
  split at h
  · cases h
    refine dm_pure (fun p l e R s m args below meth c D ca b zb n0 Q H locs ls cells slots hC hH hl h1 h2 hk => ?_)
    obtain ⟨hx, hb, hml, hown, hts, hr, hlk, hin, hK, hsz, hf, hlo, hsc⟩ := hC
    exact W.lcmp hx hb hd (hk ls hl)
  · cases h
theorem dg_ldiv {tb : Nat → dm_Me} {own : String} {cc : ByteArray} {nL : Nat} {ret : Option FieldType} {isI : Bool} {sc : Option (Nat × (Nat → Int32))} {pc : Nat} (hd : decode cc pc = .ok (.ldiv, 1)) : dm_Good tb own cc nL ret isI sc pc (dm_lq (pc + 1) (fun x y => x / y)) := by
  intro lv st M o h
  unfold dm_lq at h
  split at h
  · split at h
    · cases h
    · rename_i hne
      cases h
      refine dm_pure (fun p l e R s m args below meth c D ca b zb n0 Q H locs ls cells slots hC hH hl h1 h2 hk => ?_)
      obtain ⟨hx, hb, hml, hown, hts, hr, hlk, hin, hK, hsz, hf, hlo, hsc⟩ := hC
      exact lv_ldiv hx hb hd hne (hk ls hl)
  · cases h
theorem dg_lrem {tb : Nat → dm_Me} {own : String} {cc : ByteArray} {nL : Nat} {ret : Option FieldType} {isI : Bool} {sc : Option (Nat × (Nat → Int32))} {pc : Nat} (hd : decode cc pc = .ok (.lrem, 1)) : dm_Good tb own cc nL ret isI sc pc (dm_lq (pc + 1) (fun x y => x - x / y * y)) := by
  intro lv st M o h
  unfold dm_lq at h
  split at h
  · split at h
    · cases h
    · rename_i hne
      cases h
      refine dm_pure (fun p l e R s m args below meth c D ca b zb n0 Q H locs ls cells slots hC hH hl h1 h2 hk => ?_)
      obtain ⟨hx, hb, hml, hown, hts, hr, hlk, hin, hK, hsz, hf, hlo, hsc⟩ := hC
      exact lv_lrem hx hb hd hne (hk ls hl)
  · cases h
theorem dg_idiv {tb : Nat → dm_Me} {own : String} {cc : ByteArray} {nL : Nat} {ret : Option FieldType} {isI : Bool} {sc : Option (Nat × (Nat → Int32))} {pc : Nat} (hd : decode cc pc = .ok (.idiv, 1)) : dm_Good tb own cc nL ret isI sc pc (dm_iq (pc + 1) (fun x y => x / y)) := by
  intro lv st M o h
  unfold dm_iq at h
  split at h
  · split at h
    · cases h
    · rename_i hne
      cases h
      refine dm_pure (fun p l e R s m args below meth c D ca b zb n0 Q H locs ls cells slots hC hH hl h1 h2 hk => ?_)
      obtain ⟨hx, hb, hml, hown, hts, hr, hlk, hin, hK, hsz, hf, hlo, hsc⟩ := hC
      exact lv_idiv hx hb hd hne (hk ls hl)
  · cases h
def dm_i1 (n : Nat) (f : Int32 → Value) : dm_Sem := fun lv st M => match st with
  | .int x :: r => some (.inl ((n, lv, f x :: r), M))
  | _ => none
def dm_l1 (n : Nat) (f : Int64 → Value) : dm_Sem := fun lv st M => match st with
  | .long x :: r => some (.inl ((n, lv, f x :: r), M))
  | _ => none
theorem dg_i2l {tb : Nat → dm_Me} {own : String} {cc : ByteArray} {nL : Nat} {ret : Option FieldType} {isI : Bool} {sc : Option (Nat × (Nat → Int32))} {pc : Nat} (hd : decode cc pc = .ok (.i2l, 1)) : dm_Good tb own cc nL ret isI sc pc (dm_i1 (pc + 1) (fun x => .long x.toInt64)) := by
  intro lv st M o h
  unfold dm_i1 at h
  split at h
  · cases h
    refine dm_pure (fun p l e R s m args below meth c D ca b zb n0 Q H locs ls cells slots hC hH hl h1 h2 hk => ?_)
    obtain ⟨hx, hb, hml, hown, hts, hr, hlk, hin, hK, hsz, hf, hlo, hsc⟩ := hC
    exact lv_i2l hx hb hd rfl (hk ls hl)
  · cases h
theorem dg_i2b {tb : Nat → dm_Me} {own : String} {cc : ByteArray} {nL : Nat} {ret : Option FieldType} {isI : Bool} {sc : Option (Nat × (Nat → Int32))} {pc : Nat} (hd : decode cc pc = .ok (.i2b, 1)) : dm_Good tb own cc nL ret isI sc pc (dm_i1 (pc + 1) (fun x => .int x.toInt8.toInt32)) := by
  intro lv st M o h
  unfold dm_i1 at h
  split at h
  · cases h
    refine dm_pure (fun p l e R s m args below meth c D ca b zb n0 Q H locs ls cells slots hC hH hl h1 h2 hk => ?_)
    obtain ⟨hx, hb, hml, hown, hts, hr, hlk, hin, hK, hsz, hf, hlo, hsc⟩ := hC
    exact lv_i2b hx hb hd rfl (hk ls hl)
  · cases h
theorem dg_i2s {tb : Nat → dm_Me} {own : String} {cc : ByteArray} {nL : Nat} {ret : Option FieldType} {isI : Bool} {sc : Option (Nat × (Nat → Int32))} {pc : Nat} (hd : decode cc pc = .ok (.i2s, 1)) : dm_Good tb own cc nL ret isI sc pc (dm_i1 (pc + 1) (fun x => .int x.toInt16.toInt32)) := by
  intro lv st M o h
  unfold dm_i1 at h
  split at h
  · cases h
    refine dm_pure (fun p l e R s m args below meth c D ca b zb n0 Q H locs ls cells slots hC hH hl h1 h2 hk => ?_)
    obtain ⟨hx, hb, hml, hown, hts, hr, hlk, hin, hK, hsz, hf, hlo, hsc⟩ := hC
    exact lv_i2s hx hb hd rfl (hk ls hl)
  · cases h
theorem dg_l2i {tb : Nat → dm_Me} {own : String} {cc : ByteArray} {nL : Nat} {ret : Option FieldType} {isI : Bool} {sc : Option (Nat × (Nat → Int32))} {pc : Nat} (hd : decode cc pc = .ok (.l2i, 1)) : dm_Good tb own cc nL ret isI sc pc (dm_l1 (pc + 1) (fun x => .int x.toInt32)) := by
  intro lv st M o h
  unfold dm_l1 at h
  split at h
  · cases h
    refine dm_pure (fun p l e R s m args below meth c D ca b zb n0 Q H locs ls cells slots hC hH hl h1 h2 hk => ?_)
    obtain ⟨hx, hb, hml, hown, hts, hr, hlk, hin, hK, hsz, hf, hlo, hsc⟩ := hC
    exact lv_l2i hx hb hd rfl (hk ls hl)
  · cases h
def dm_dup (n : Nat) : dm_Sem := fun lv st M => match st with
  | v :: r => if v.category = 1 then some (.inl ((n, lv, v :: v :: r), M)) else none
  | _ => none
theorem dg_dup {tb : Nat → dm_Me} {own : String} {cc : ByteArray} {nL : Nat} {ret : Option FieldType} {isI : Bool} {sc : Option (Nat × (Nat → Int32))} {pc : Nat} (hd : decode cc pc = .ok (.dup, 1)) : dm_Good tb own cc nL ret isI sc pc (dm_dup (pc + 1)) := by
  intro lv st M o h
  unfold dm_dup at h
  split at h
  · split at h
    · rename_i hc
      cases h
      refine dm_pure (fun p l e R s m args below meth c D ca b zb n0 Q H locs ls cells slots hC hH hl h1 h2 hk => ?_)
      obtain ⟨hx, hb, hml, hown, hts, hr, hlk, hin, hK, hsz, hf, hlo, hsc⟩ := hC
      exact lv_dup hx hb hd (by rw [dm_cat]; exact hc) (hk ls hl)
    · cases h
  · cases h
def dm_pop (n : Nat) : dm_Sem := fun lv st M => match st with
  | v :: r => if v.category = 1 then some (.inl ((n, lv, r), M)) else none
  | _ => none
theorem dg_pop {tb : Nat → dm_Me} {own : String} {cc : ByteArray} {nL : Nat} {ret : Option FieldType} {isI : Bool} {sc : Option (Nat × (Nat → Int32))} {pc : Nat} (hd : decode cc pc = .ok (.pop, 1)) : dm_Good tb own cc nL ret isI sc pc (dm_pop (pc + 1)) := by
  intro lv st M o h
  unfold dm_pop at h
  split at h
  · split at h
    · rename_i hc
      cases h
      refine dm_pure (fun p l e R s m args below meth c D ca b zb n0 Q H locs ls cells slots hC hH hl h1 h2 hk => ?_)
      obtain ⟨hx, hb, hml, hown, hts, hr, hlk, hin, hK, hsz, hf, hlo, hsc⟩ := hC
      exact lv_pop hx hb hd (by rw [dm_cat]; exact hc) (hk ls hl)
    · cases h
  · cases h
def dm_dup2 (n : Nat) : dm_Sem := fun lv st M => match st with
  | v :: w :: r => if v.category = 1 ∧ w.category = 1 then some (.inl ((n, lv, v :: w :: v :: w :: r), M)) else none
  | _ => none
theorem dg_dup2 {tb : Nat → dm_Me} {own : String} {cc : ByteArray} {nL : Nat} {ret : Option FieldType} {isI : Bool} {sc : Option (Nat × (Nat → Int32))} {pc : Nat} (hd : decode cc pc = .ok (.dup2, 1)) : dm_Good tb own cc nL ret isI sc pc (dm_dup2 (pc + 1)) := by
  intro lv st M o h
  unfold dm_dup2 at h
  split at h
  · split at h
    · rename_i hc
      cases h
      refine dm_pure (fun p l e R s m args below meth c D ca b zb n0 Q H locs ls cells slots hC hH hl h1 h2 hk => ?_)
      obtain ⟨hx, hb, hml, hown, hts, hr, hlk, hin, hK, hsz, hf, hlo, hsc⟩ := hC
      exact lv_dup2_11 hx hb hd (by rw [dm_cat]; exact hc.1) (by rw [dm_cat]; exact hc.2) (hk ls hl)
    · cases h
  · cases h
def dm_if_eq (n t : Nat) : dm_Sem := fun lv st M => match st with
  | .int x :: r => some (.inl ((if x = 0 then t else n, lv, r), M))
  | _ => none
def dm_if_ne (n t : Nat) : dm_Sem := fun lv st M => match st with
  | .int x :: r => some (.inl ((if ¬ x = 0 then t else n, lv, r), M))
  | _ => none
def dm_if_lt (n t : Nat) : dm_Sem := fun lv st M => match st with
  | .int x :: r => some (.inl ((if x < 0 then t else n, lv, r), M))
  | _ => none
def dm_if_ge (n t : Nat) : dm_Sem := fun lv st M => match st with
  | .int x :: r => some (.inl ((if 0 ≤ x then t else n, lv, r), M))
  | _ => none
def dm_if_gt (n t : Nat) : dm_Sem := fun lv st M => match st with
  | .int x :: r => some (.inl ((if 0 < x then t else n, lv, r), M))
  | _ => none
def dm_if_le (n t : Nat) : dm_Sem := fun lv st M => match st with
  | .int x :: r => some (.inl ((if x ≤ 0 then t else n, lv, r), M))
  | _ => none
def dm_ic_eq (n t : Nat) : dm_Sem := fun lv st M => match st with
  | .int y :: .int x :: r => some (.inl ((if x = y then t else n, lv, r), M))
  | _ => none
def dm_ic_ne (n t : Nat) : dm_Sem := fun lv st M => match st with
  | .int y :: .int x :: r => some (.inl ((if ¬ x = y then t else n, lv, r), M))
  | _ => none
def dm_ic_lt (n t : Nat) : dm_Sem := fun lv st M => match st with
  | .int y :: .int x :: r => some (.inl ((if x < y then t else n, lv, r), M))
  | _ => none
def dm_ic_ge (n t : Nat) : dm_Sem := fun lv st M => match st with
  | .int y :: .int x :: r => some (.inl ((if y ≤ x then t else n, lv, r), M))
  | _ => none
def dm_ic_gt (n t : Nat) : dm_Sem := fun lv st M => match st with
  | .int y :: .int x :: r => some (.inl ((if y < x then t else n, lv, r), M))
  | _ => none
def dm_ic_le (n t : Nat) : dm_Sem := fun lv st M => match st with
  | .int y :: .int x :: r => some (.inl ((if x ≤ y then t else n, lv, r), M))
  | _ => none
theorem dg_if_eq {tb : Nat → dm_Me} {own : String} {cc : ByteArray} {nL : Nat} {ret : Option FieldType} {isI : Bool} {sc : Option (Nat × (Nat → Int32))} {pc : Nat} {off : Int} {t : Nat} (ht : (pc : Int) + off = (t : Int)) (hd : decode cc pc = .ok (.ifCond .eq off, 3)) : dm_Good tb own cc nL ret isI sc pc (dm_if_eq (pc + 3) t) := by
  intro lv st M o h
  unfold dm_if_eq at h
  split at h
  · cases h
    refine dm_pure (fun p l e R s m args below meth c D ca b zb n0 Q H locs ls cells slots hC hH hl h1 h2 hk => ?_)
    obtain ⟨hx, hb, hml, hown, hts, hr, hlk, hin, hK, hsz, hf, hlo, hsc⟩ := hC
    have h9 := hk ls hl
    dsimp only at h9
    refine lv_if_eq hx hb hd ht (fun q => ?_) (fun q => ?_)
    · rw [if_pos q] at h9
      exact h9
    · rw [if_neg (by first | exact q | exact fun z => z q)] at h9
      exact h9
  · cases h
theorem dg_if_ne {tb : Nat → dm_Me} {own : String} {cc : ByteArray} {nL : Nat} {ret : Option FieldType} {isI : Bool} {sc : Option (Nat × (Nat → Int32))} {pc : Nat} {off : Int} {t : Nat} (ht : (pc : Int) + off = (t : Int)) (hd : decode cc pc = .ok (.ifCond .ne off, 3)) : dm_Good tb own cc nL ret isI sc pc (dm_if_ne (pc + 3) t) := by
  intro lv st M o h
  unfold dm_if_ne at h
  split at h
  · cases h
    refine dm_pure (fun p l e R s m args below meth c D ca b zb n0 Q H locs ls cells slots hC hH hl h1 h2 hk => ?_)
    obtain ⟨hx, hb, hml, hown, hts, hr, hlk, hin, hK, hsz, hf, hlo, hsc⟩ := hC
    have h9 := hk ls hl
    dsimp only at h9
    refine lv_if_ne hx hb hd ht (fun q => ?_) (fun q => ?_)
    · rw [if_pos q] at h9
      exact h9
    · rw [if_neg (by first | exact q | exact fun z => z q)] at h9
      exact h9
  · cases h
theorem dg_if_lt {tb : Nat → dm_Me} {own : String} {cc : ByteArray} {nL : Nat} {ret : Option FieldType} {isI : Bool} {sc : Option (Nat × (Nat → Int32))} {pc : Nat} {off : Int} {t : Nat} (ht : (pc : Int) + off = (t : Int)) (hd : decode cc pc = .ok (.ifCond .lt off, 3)) : dm_Good tb own cc nL ret isI sc pc (dm_if_lt (pc + 3) t) := by
  intro lv st M o h
  unfold dm_if_lt at h
  split at h
  · cases h
    refine dm_pure (fun p l e R s m args below meth c D ca b zb n0 Q H locs ls cells slots hC hH hl h1 h2 hk => ?_)
    obtain ⟨hx, hb, hml, hown, hts, hr, hlk, hin, hK, hsz, hf, hlo, hsc⟩ := hC
    have h9 := hk ls hl
    dsimp only at h9
    refine lv_if_lt hx hb hd ht (fun q => ?_) (fun q => ?_)
    · rw [if_pos q] at h9
      exact h9
    · rw [if_neg (by first | exact q | exact fun z => z q)] at h9
      exact h9
  · cases h
theorem dg_if_ge {tb : Nat → dm_Me} {own : String} {cc : ByteArray} {nL : Nat} {ret : Option FieldType} {isI : Bool} {sc : Option (Nat × (Nat → Int32))} {pc : Nat} {off : Int} {t : Nat} (ht : (pc : Int) + off = (t : Int)) (hd : decode cc pc = .ok (.ifCond .ge off, 3)) : dm_Good tb own cc nL ret isI sc pc (dm_if_ge (pc + 3) t) := by
  intro lv st M o h
  unfold dm_if_ge at h
  split at h
  · cases h
    refine dm_pure (fun p l e R s m args below meth c D ca b zb n0 Q H locs ls cells slots hC hH hl h1 h2 hk => ?_)
    obtain ⟨hx, hb, hml, hown, hts, hr, hlk, hin, hK, hsz, hf, hlo, hsc⟩ := hC
    have h9 := hk ls hl
    dsimp only at h9
    refine lv_if_ge hx hb hd ht (fun q => ?_) (fun q => ?_)
    · rw [if_pos q] at h9
      exact h9
    · rw [if_neg (by first | exact q | exact fun z => z q)] at h9
      exact h9
  · cases h
theorem dg_if_gt {tb : Nat → dm_Me} {own : String} {cc : ByteArray} {nL : Nat} {ret : Option FieldType} {isI : Bool} {sc : Option (Nat × (Nat → Int32))} {pc : Nat} {off : Int} {t : Nat} (ht : (pc : Int) + off = (t : Int)) (hd : decode cc pc = .ok (.ifCond .gt off, 3)) : dm_Good tb own cc nL ret isI sc pc (dm_if_gt (pc + 3) t) := by
  intro lv st M o h
  unfold dm_if_gt at h
  split at h
  · cases h
    refine dm_pure (fun p l e R s m args below meth c D ca b zb n0 Q H locs ls cells slots hC hH hl h1 h2 hk => ?_)
    obtain ⟨hx, hb, hml, hown, hts, hr, hlk, hin, hK, hsz, hf, hlo, hsc⟩ := hC
    have h9 := hk ls hl
    dsimp only at h9
    refine lv_if_gt hx hb hd ht (fun q => ?_) (fun q => ?_)
    · rw [if_pos q] at h9
      exact h9
    · rw [if_neg (by first | exact q | exact fun z => z q)] at h9
      exact h9
  · cases h
theorem dg_if_le {tb : Nat → dm_Me} {own : String} {cc : ByteArray} {nL : Nat} {ret : Option FieldType} {isI : Bool} {sc : Option (Nat × (Nat → Int32))} {pc : Nat} {off : Int} {t : Nat} (ht : (pc : Int) + off = (t : Int)) (hd : decode cc pc = .ok (.ifCond .le off, 3)) : dm_Good tb own cc nL ret isI sc pc (dm_if_le (pc + 3) t) := by
  intro lv st M o h
  unfold dm_if_le at h
  split at h
  · cases h
    refine dm_pure (fun p l e R s m args below meth c D ca b zb n0 Q H locs ls cells slots hC hH hl h1 h2 hk => ?_)
    obtain ⟨hx, hb, hml, hown, hts, hr, hlk, hin, hK, hsz, hf, hlo, hsc⟩ := hC
    have h9 := hk ls hl
    dsimp only at h9
    refine lv_if_le hx hb hd ht (fun q => ?_) (fun q => ?_)
    · rw [if_pos q] at h9
      exact h9
    · rw [if_neg (by first | exact q | exact fun z => z q)] at h9
      exact h9
  · cases h
theorem dg_ic_eq {tb : Nat → dm_Me} {own : String} {cc : ByteArray} {nL : Nat} {ret : Option FieldType} {isI : Bool} {sc : Option (Nat × (Nat → Int32))} {pc : Nat} {off : Int} {t : Nat} (ht : (pc : Int) + off = (t : Int)) (hd : decode cc pc = .ok (.if_icmp .eq off, 3)) : dm_Good tb own cc nL ret isI sc pc (dm_ic_eq (pc + 3) t) := by
  intro lv st M o h
  unfold dm_ic_eq at h
  split at h
  · cases h
    refine dm_pure (fun p l e R s m args below meth c D ca b zb n0 Q H locs ls cells slots hC hH hl h1 h2 hk => ?_)
    obtain ⟨hx, hb, hml, hown, hts, hr, hlk, hin, hK, hsz, hf, hlo, hsc⟩ := hC
    have h9 := hk ls hl
    dsimp only at h9
    refine lv_icmp_eq hx hb hd ht (fun q => ?_) (fun q => ?_)
    · rw [if_pos q] at h9
      exact h9
    · rw [if_neg (by first | exact q | exact fun z => z q)] at h9
      exact h9
  · cases h
theorem dg_ic_ne {tb : Nat → dm_Me} {own : String} {cc : ByteArray} {nL : Nat} {ret : Option FieldType} {isI : Bool} {sc : Option (Nat × (Nat → Int32))} {pc : Nat} {off : Int} {t : Nat} (ht : (pc : Int) + off = (t : Int)) (hd : decode cc pc = .ok (.if_icmp .ne off, 3)) : dm_Good tb own cc nL ret isI sc pc (dm_ic_ne (pc + 3) t) := by
  intro lv st M o h
  unfold dm_ic_ne at h
  split at h
  · cases h
    refine dm_pure (fun p l e R s m args below meth c D ca b zb n0 Q H locs ls cells slots hC hH hl h1 h2 hk => ?_)
    obtain ⟨hx, hb, hml, hown, hts, hr, hlk, hin, hK, hsz, hf, hlo, hsc⟩ := hC
    have h9 := hk ls hl
    dsimp only at h9
    refine lv_icmp_ne hx hb hd ht (fun q => ?_) (fun q => ?_)
    · rw [if_pos q] at h9
      exact h9
    · rw [if_neg (by first | exact q | exact fun z => z q)] at h9
      exact h9
  · cases h
theorem dg_ic_lt {tb : Nat → dm_Me} {own : String} {cc : ByteArray} {nL : Nat} {ret : Option FieldType} {isI : Bool} {sc : Option (Nat × (Nat → Int32))} {pc : Nat} {off : Int} {t : Nat} (ht : (pc : Int) + off = (t : Int)) (hd : decode cc pc = .ok (.if_icmp .lt off, 3)) : dm_Good tb own cc nL ret isI sc pc (dm_ic_lt (pc + 3) t) := by
  intro lv st M o h
  unfold dm_ic_lt at h
  split at h
  · cases h
    refine dm_pure (fun p l e R s m args below meth c D ca b zb n0 Q H locs ls cells slots hC hH hl h1 h2 hk => ?_)
    obtain ⟨hx, hb, hml, hown, hts, hr, hlk, hin, hK, hsz, hf, hlo, hsc⟩ := hC
    have h9 := hk ls hl
    dsimp only at h9
    refine lv_icmp_lt hx hb hd ht (fun q => ?_) (fun q => ?_)
    · rw [if_pos q] at h9
      exact h9
    · rw [if_neg (by first | exact q | exact fun z => z q)] at h9
      exact h9
  · cases h
theorem dg_ic_ge {tb : Nat → dm_Me} {own : String} {cc : ByteArray} {nL : Nat} {ret : Option FieldType} {isI : Bool} {sc : Option (Nat × (Nat → Int32))} {pc : Nat} {off : Int} {t : Nat} (ht : (pc : Int) + off = (t : Int)) (hd : decode cc pc = .ok (.if_icmp .ge off, 3)) : dm_Good tb own cc nL ret isI sc pc (dm_ic_ge (pc + 3) t) := by
  intro lv st M o h
  unfold dm_ic_ge at h
  split at h
  · cases h
    refine dm_pure (fun p l e R s m args below meth c D ca b zb n0 Q H locs ls cells slots hC hH hl h1 h2 hk => ?_)
    obtain ⟨hx, hb, hml, hown, hts, hr, hlk, hin, hK, hsz, hf, hlo, hsc⟩ := hC
    have h9 := hk ls hl
    dsimp only at h9
    refine lv_icmp_ge hx hb hd ht (fun q => ?_) (fun q => ?_)
    · rw [if_pos q] at h9
      exact h9
    · rw [if_neg (by first | exact q | exact fun z => z q)] at h9
      exact h9
  · cases h
theorem dg_ic_gt {tb : Nat → dm_Me} {own : String} {cc : ByteArray} {nL : Nat} {ret : Option FieldType} {isI : Bool} {sc : Option (Nat × (Nat → Int32))} {pc : Nat} {off : Int} {t : Nat} (ht : (pc : Int) + off = (t : Int)) (hd : decode cc pc = .ok (.if_icmp .gt off, 3)) : dm_Good tb own cc nL ret isI sc pc (dm_ic_gt (pc + 3) t) := by
  intro lv st M o h
  unfold dm_ic_gt at h
  split at h
  · cases h
    refine dm_pure (fun p l e R s m args below meth c D ca b zb n0 Q H locs ls cells slots hC hH hl h1 h2 hk => ?_)
    obtain ⟨hx, hb, hml, hown, hts, hr, hlk, hin, hK, hsz, hf, hlo, hsc⟩ := hC
    have h9 := hk ls hl
    dsimp only at h9
    refine lv_icmp_gt hx hb hd ht (fun q => ?_) (fun q => ?_)
    · rw [if_pos q] at h9
      exact h9
    · rw [if_neg (by first | exact q | exact fun z => z q)] at h9
      exact h9
  · cases h
theorem dg_ic_le {tb : Nat → dm_Me} {own : String} {cc : ByteArray} {nL : Nat} {ret : Option FieldType} {isI : Bool} {sc : Option (Nat × (Nat → Int32))} {pc : Nat} {off : Int} {t : Nat} (ht : (pc : Int) + off = (t : Int)) (hd : decode cc pc = .ok (.if_icmp .le off, 3)) : dm_Good tb own cc nL ret isI sc pc (dm_ic_le (pc + 3) t) := by
  intro lv st M o h
  unfold dm_ic_le at h
  split at h
  · cases h
    refine dm_pure (fun p l e R s m args below meth c D ca b zb n0 Q H locs ls cells slots hC hH hl h1 h2 hk => ?_)
    obtain ⟨hx, hb, hml, hown, hts, hr, hlk, hin, hK, hsz, hf, hlo, hsc⟩ := hC
    have h9 := hk ls hl
    dsimp only at h9
    refine lv_icmp_le hx hb hd ht (fun q => ?_) (fun q => ?_)
    · rw [if_pos q] at h9
      exact h9
    · rw [if_neg (by first | exact q | exact fun z => z q)] at h9
      exact h9
  · cases h
def dm_goto (t : Nat) : dm_Sem := fun lv st M => some (.inl ((t, lv, st), M))
theorem dg_goto {tb : Nat → dm_Me} {own : String} {cc : ByteArray} {nL : Nat} {ret : Option FieldType} {isI : Bool} {sc : Option (Nat × (Nat → Int32))} {pc : Nat} {off : Int} {t : Nat} (ht : (pc : Int) + off = (t : Int)) (hd : decode cc pc = .ok (.goto off, 3)) : dm_Good tb own cc nL ret isI sc pc (dm_goto t) := by
  intro lv st M o h
  cases h
  refine dm_pure (fun p l e R s m args below meth c D ca b zb n0 Q H locs ls cells slots hC hH hl h1 h2 hk => ?_)
  obtain ⟨hx, hb, hml, hown, hts, hr, hlk, hin, hK, hsz, hf, hlo, hsc⟩ := hC
  exact lv_goto hx hb hd ht (hk ls hl)
def dm_tsw (lo hi : Int) (d : Nat) (ts : List Nat) : dm_Sem := fun lv st M => match st with
  | .int x :: r => if x.toInt < lo ∨ hi < x.toInt then some (.inl ((d, lv, r), M)) else match ts[(x.toInt - lo).toNat]? with
    | some t => some (.inl ((t, lv, r), M))
    | none => none
  | _ => none
theorem dg_tsw {tb : Nat → dm_Me} {own : String} {cc : ByteArray} {nL : Nat} {ret : Option FieldType} {isI : Bool} {sc : Option (Nat × (Nat → Int32))} {pc : Nat} {dflt lo hi : Int} {offs : Array Int} {len d : Nat} {ts : List Nat} (hd : decode cc pc = .ok (.tableswitch dflt lo hi offs, len)) (h0 : (pc : Int) + dflt = (d : Int)) (h1 : offs.toList.map (fun q => (pc : Int) + q) = ts.map (fun q : Nat => (q : Int))) : dm_Good tb own cc nL ret isI sc pc (dm_tsw lo hi d ts) := by
  intro lv st M o h
  unfold dm_tsw at h
  split at h
  · rename_i x r
    split at h
    · rename_i hc
      cases h
      refine dm_pure (fun p l e R s m args below meth c D ca b zb n0 Q H locs ls cells slots hC hH hl g1 g2 hk => ?_)
      obtain ⟨hx, hb, hml, hown, hts, hr, hlk, hin, hK, hsz, hf, hlo, hsc⟩ := hC
      exact lv_tableOut hx hb hd hc h0 (hk ls hl)
    · rename_i hc
      have hc1 : ¬ x.toInt < lo := fun q => hc (Or.inl q)
      have hc2 : ¬ hi < x.toInt := fun q => hc (Or.inr q)
      split at h
      · rename_i t e1
        cases h
        have e2 : (ts.map (fun q : Nat => (q : Int)))[(x.toInt - lo).toNat]? = some (t : Int) := by rw [List.getElem?_map, e1]; rfl
        rw [← h1, List.getElem?_map] at e2
        cases e3 : offs.toList[(x.toInt - lo).toNat]? with
        | none => rw [e3] at e2; cases e2
        | some q =>
          rw [e3] at e2
          have e4 : (pc : Int) + q = (t : Int) := Option.some.inj e2
          refine dm_pure (fun p l e R s m args below meth c D ca b zb n0 Q H locs ls cells slots hC hH hl g1 g2 hk => ?_)
          obtain ⟨hx, hb, hml, hown, hts, hr, hlk, hin, hK, hsz, hf, hlo, hsc⟩ := hC
          exact lv_tableIn hx hb hd hc1 hc2 (by rw [← Array.getElem?_toList]; exact e3) e4 (hk ls hl)
      · cases h
  · cases h
