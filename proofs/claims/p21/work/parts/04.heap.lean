/-! steps over the memory -/
def dm_isT : FieldType → Bool
  | .int => true
  | .long => true
  | .boolean => true
  | .byte => true
  | .short => true
  | _ => false
theorem dm_tys_at {ty : FieldType} (ca : FieldType → ClassId) (h : dm_isT ty = true) : ∃ t0 : Nat, (dm_tys ca)[t0]? = some (ca ty, ty) := by
  cases ty <;> first | exact ⟨0, rfl⟩ | exact ⟨1, rfl⟩ | exact ⟨2, rfl⟩ | exact ⟨3, rfl⟩ | exact ⟨4, rfl⟩ | cases h
def dm_getf (n ci k : Nat) : dm_Sem := fun lv st M => match st with
  | .ref a :: r => match M[a]? with
    | some (.inr o) => if o.1 = ci then match o.2[k]? with
        | some v => some (.inl ((n, lv, v :: r), M))
        | none => none
      else none
    | _ => none
  | _ => none
theorem dg_getf {tb : Nat → dm_Me} {own : String} {cc : ByteArray} {nL : Nat} {ret : Option FieldType} {isI : Bool} {sc : Option (Nat × (Nat → Int32))} {pc : Nat} {C : String} {T : u_T} {N ci k idx : Nat} (hd : decode cc pc = .ok (.getfield idx, 3)) (hc : vwCl[ci]? = some (C, T, N)) (hk : k < N) (hw : ∀ w ∈ u_ws C T N, w ∈ dm_W) (hf : Cond.fieldLink own idx (T k).1 (T k).2.1 (T k).2.2.1 ∈ dm_W) : dm_Good tb own cc nL ret isI sc pc (dm_getf (pc + 3) ci k) := by
  intro lv st M o h
  unfold dm_getf at h
  split at h
  · rename_i a r
    split at h
    · rename_i q e1
      split at h
      · rename_i e2
        split at h
        · rename_i v e3
          cases h
          refine dm_pure (fun p l e R s m args below meth c D ca b zb n0 Q H locs ls cells slots hC hH hl h1 h2 hk9 => ?_)
          obtain ⟨hx, hb, hml, hown, hts, hr, hlk, hin, hK, hsz, hfr, hlo, hsc⟩ := hC
          refine va_get (D := D) (ci := ci) (v := dm_v b zb v) (C := C) (T := T) (N := N) hx hb hts hw hown hK hH.2 a (fs := q.2.map (dm_v b zb)) ?_ hc k hk (hts _ hf) (fun _ h9 => h9) (by rw [List.getElem?_map, e3]; rfl) hd (hk9 ls hl)
          rw [dm_ws_get e1, ← e2]
          rfl
        · cases h
      · cases h
    · cases h
  · cases h
def dm_fit : FieldType → Value → Bool
  | .int, .int _ => true
  | .long, .long _ => true
  | .boolean, .int v => v == 0 || v == 1
  | .object _, .ref _ => true
  | .object _, .null => true
  | .array _, .ref _ => true
  | .array _, .null => true
  | _, _ => false
theorem dm_fit_ok {ty : FieldType} {v : Value} (h : dm_fit ty v = true) (b zb : Nat) : narrow ty (dm_v b zb v) = dm_v b zb v ∧ fits ty (dm_v b zb v) = true := by
  cases ty <;> cases v <;> first | (cases h; done) | exact ⟨rfl, rfl⟩ | skip
  rename_i x
  have h2 : x = 0 ∨ x = 1 := by simpa [dm_fit] using h
  rcases h2 with rfl | rfl
  · exact ⟨(by decide : narrow .boolean (.int 0) = .int 0), (by decide : fits .boolean (.int 0) = true)⟩
  · exact ⟨(by decide : narrow .boolean (.int 1) = .int 1), (by decide : fits .boolean (.int 1) = true)⟩
def dm_putf (n ci k : Nat) (ty : FieldType) : dm_Sem := fun lv st M => match st with
  | v :: .ref a :: r => match M[a]? with
    | some (.inr o) => if o.1 = ci ∧ k < o.2.length ∧ dm_fit ty v = true then some (.inl ((n, lv, r), M.set a (.inr (ci, o.2.set k v)))) else none
    | _ => none
  | _ => none
theorem dm_putf_dec {lv : dm_Lv} {st : List Value} {M : dm_Mem} {o : dm_Rs} {n ci k : Nat} {ty : FieldType} (h : dm_putf n ci k ty lv st M = some o) : ∃ (v : Value) (a : Nat) (r fs : List Value), st = v :: .ref a :: r ∧ M[a]? = some (.inr (ci, fs)) ∧ k < fs.length ∧ dm_fit ty v = true ∧ o = .inl ((n, lv, r), M.set a (.inr (ci, fs.set k v))) := by
  unfold dm_putf at h
  split at h
  · rename_i v a r
    split at h
    · rename_i q e1
      split at h
      · rename_i e2
        obtain ⟨c, fs⟩ := q
        obtain ⟨g1, g2, g3⟩ := e2
        cases g1
        cases h
        exact ⟨v, a, r, fs, rfl, e1, g2, g3, rfl⟩
      · cases h
    · cases h
  · cases h
theorem dg_putf {tb : Nat → dm_Me} {own : String} {cc : ByteArray} {nL : Nat} {ret : Option FieldType} {isI : Bool} {sc : Option (Nat × (Nat → Int32))} {pc : Nat} {C : String} {T : u_T} {N ci k idx : Nat} {ty : FieldType} {ty0 : Nat → FieldType} (hd : decode cc pc = .ok (.putfield idx, 3)) (hc : vwCl[ci]? = some (C, T, N)) (hk : k < N) (hw : ∀ w ∈ u_ws C T N, w ∈ dm_W) (hty : ∀ k, k < N → parseFieldDescriptor (T k).2.2.1 = some (ty0 k)) (hnm : ∀ a, a < N → ∀ b, b < N → a ≠ b → (T a).2.1 ≠ (T b).2.1) (hf : Cond.fieldLink own idx (T k).1 (T k).2.1 (T k).2.2.1 ∈ dm_W) (ht : ty0 k = ty) (hfin : (T k).2.2.2 = false) : dm_Good tb own cc nL ret isI sc pc (dm_putf (pc + 3) ci k ty) := by
  intro lv st M o h
  obtain ⟨v, a, r, fs, rfl, e1, e2, e3, rfl⟩ := dm_putf_dec h
  refine dm_putc e1 (by simp [dm_sz]) (fun p l e R s m args below meth c D ca b zb n0 Q H locs ls cells slots hC hH hS hD hl hk9 => ?_) rfl
  obtain ⟨hx, hb, hml, hown, hts, hr, hlk, hin, hK, hsz, hfr, hlo, hsc⟩ := hC
  obtain ⟨f1, f2⟩ := dm_fit_ok e3 b zb
  refine va_put (D := D) (ci := ci) (v := dm_v b zb v) (ty := ty) (C := C) (T := T) (N := N) hx hb hts hw ty0 hty hnm hown hK hH.2 hD hS a (fs := fs.map (dm_v b zb)) (dm_ws_get e1) hc k hk (hts _ hf) (fun _ h9 => h9) hfin (by rw [hty k hk, ht]) f1 f2 (by rw [List.length_map]; exact e2) hd (fun H1 locs1 hP1 _ hS1 => hk9 H1 locs1 ?_ hS1)
  rw [show dm_E ca b zb (.inr (ci, fs.set k v)) = .inr (ci, (fs.map (dm_v b zb)).set k (dm_v b zb v)) by rw [← List.map_set]; rfl]
  exact hP1
theorem dg_putF {tb : Nat → dm_Me} {own : String} {cc : ByteArray} {nL : Nat} {ret : Option FieldType} {sc : Option (Nat × (Nat → Int32))} {pc : Nat} {C : String} {T : u_T} {N ci k idx : Nat} {ty : FieldType} {ty0 : Nat → FieldType} (hd : decode cc pc = .ok (.putfield idx, 3)) (hc : vwCl[ci]? = some (C, T, N)) (hk : k < N) (hw : ∀ w ∈ u_ws C T N, w ∈ dm_W) (hty : ∀ k, k < N → parseFieldDescriptor (T k).2.2.1 = some (ty0 k)) (hnm : ∀ a, a < N → ∀ b, b < N → a ≠ b → (T a).2.1 ≠ (T b).2.1) (hf : Cond.fieldLink own idx (T k).1 (T k).2.1 (T k).2.2.1 ∈ dm_W) (ht : ty0 k = ty) (hfin : (T k).2.2.2 = true) (hdecl : (T k).1 = own) : dm_Good tb own cc nL ret true sc pc (dm_putf (pc + 3) ci k ty) := by
  intro lv st M o h
  obtain ⟨v, a, r, fs, rfl, e1, e2, e3, rfl⟩ := dm_putf_dec h
  refine dm_putc e1 (by simp [dm_sz]) (fun p l e R s m args below meth c D ca b zb n0 Q H locs ls cells slots hC hH hS hD hl hk9 => ?_) rfl
  obtain ⟨hx, hb, hml, hown, hts, hr, hlk, hin, hK, hsz, hfr, hlo, hsc⟩ := hC
  obtain ⟨f1, f2⟩ := dm_fit_ok e3 b zb
  refine va_putF (D := D) (ci := ci) (v := dm_v b zb v) (ty := ty) (C := C) (T := T) (N := N) hx hb hts hw ty0 hty hnm hown hK hH.2 hD hS a (fs := fs.map (dm_v b zb)) (dm_ws_get e1) hc k hk (hts _ hf) (fun _ h9 => h9) hfin (hin rfl) hdecl (by rw [hty k hk, ht]) f1 f2 (by rw [List.length_map]; exact e2) hd (fun H1 locs1 hP1 _ hS1 => hk9 H1 locs1 ?_ hS1)
  rw [show dm_E ca b zb (.inr (ci, fs.set k v)) = .inr (ci, (fs.map (dm_v b zb)).set k (dm_v b zb v)) by rw [← List.map_set]; rfl]
  exact hP1
/-- a new cell at the end -/
theorem dm_newc {own : String} {cc : ByteArray} {nL : Nat} {ret : Option FieldType} {isI : Bool} {sc : Option (Nat × (Nat → Int32))} {pc : Nat} {lv : dm_Lv} {st : List Value} {M : dm_Mem} {g : dm_Fr} {x : dm_Cell}
    (h : ∀ (p : Program) (l : Launch) (e : Env) (R : Room) (s : State) (m : MethodId) (args : Array Value) (below : List Frame) (meth : Method) (c : Code) (D : va_G) (ca : FieldType → ClassId) (b zb n0 : Nat) (Q : State → Prop) (H : Heap) (locs : List Loc) (ls : Array Slot) (cells slots : Nat),
      dm_Cx own cc nL ret isI sc p R s m args meth c D ca b zb n0 → H.size = b + M.length → va_P D vwCl (dm_ws ca b zb M) H → lv_has ls nL (dm_lv b zb lv) → cells + 1 ≤ R.cells → slots + dm_sz x ≤ R.slots →
      (∀ (H1 : Heap), H1.size = b + M.length + 1 → (∀ q, q < b + M.length → H1[q]? = H[q]?) → va_at D vwCl (b + M.length, dm_E ca b zb x) H1 → W p l e R s m args below meth c H1 locs (cells + 1) (slots + dm_sz x) Q (F0 m g.1 ls (g.2.2.map (dm_v b zb)))) → W p l e R s m args below meth c H locs cells slots Q (F0 m pc ls (st.map (dm_v b zb))))
    (hg : g.2.1 = lv) : dm_Nx own cc nL ret isI sc pc lv st M g (M ++ [x]) := by
  have hs := dm_slots_app M x
  have hlen : (M ++ [x]).length = M.length + 1 := by simp
  refine ⟨⟨by omega, by omega⟩, ?_⟩
  intro p l e R s m args below meth c D ca b zb n0 s0 Q hC hn hn2 h1 h2 hk H locs ls hH hS hl
  refine h p l e R s m args below meth c D ca b zb n0 Q H locs ls _ _ hC hH.1 hH.2 hl (by omega) (by omega) (fun H1 z1 o1 ha => ?_)
  have hP2 : va_P D vwCl (dm_ws ca b zb (M ++ [x])) H1 := by
    rw [dm_ws_app]
    refine (hH.2.kept (fun k q hq => o1 q.1 ?_)).app (fun k q hq => ?_)
    · have := (hH.2 k q hq).lt
      rw [hH.1] at this
      exact this
    · have hz : k < 1 := (List.getElem?_eq_some_iff.mp hq).1
      rw [show k = 0 by omega] at hq
      cases hq
      exact ha
  have hS2 : va_S (fun q => b ≤ q) s.heap H1 locs := ⟨Nat.le_trans hS.1 (by rw [z1, hH.1]; omega), fun q q1 q2 => by
    rw [o1 q (by have := hS.1; rw [hH.1] at this; omega)]
    exact hS.2.1 q q1 q2, hS.2.2⟩
  have hw := hk H1 locs ls ⟨by rw [hlen]; omega, hP2⟩ hS2 (by rw [hg]; exact hl)
  rw [hlen, hs] at hw
  rw [show M.length + 1 - n0 = M.length - n0 + 1 by omega, show dm_slots M + dm_sz x - s0 = dm_slots M - s0 + dm_sz x by omega] at hw
  exact hw
def dm_new (n ci : Nat) (fs : List Value) : dm_Sem := fun lv st M => some (.inl ((n, lv, .ref M.length :: st), M ++ [.inr (ci, fs)]))
theorem dg_new {tb : Nat → dm_Me} {own : String} {cc : ByteArray} {nL : Nat} {ret : Option FieldType} {isI : Bool} {sc : Option (Nat × (Nat → Int32))} {pc : Nat} {C : String} {T : u_T} {N ci idx : Nat} {ty : Nat → FieldType} {fs : List Value} (hd : decode cc pc = .ok (.new idx, 3)) (hc : vwCl[ci]? = some (C, T, N)) (hw : ∀ w ∈ u_ws C T N, w ∈ dm_W) (hty : ∀ k, k < N → parseFieldDescriptor (T k).2.2.1 = some (ty k)) (hl1 : Cond.classLink own idx C ∈ dm_W) (hl2 : Cond.instantiable C N ∈ dm_W) (hl3 : Cond.initialized C ∈ dm_W) (hlen : fs.length = N) (hfs : ∀ j, j < N → defaultValue (ty j) = vp_V fs j) (hm : ∀ b zb, fs.map (dm_v b zb) = fs) : dm_Good tb own cc nL ret isI sc pc (dm_new (pc + 3) ci fs) := by
  intro lv st M o h
  cases h
  refine dm_newc (fun p l e R s m args below meth c D ca b zb n0 Q H locs ls cells slots hC hz hP hl h1 h2 hk => ?_) rfl
  obtain ⟨hx, hb, hml, hown, hts, hr, hlk, hin, hK, hsz, hfr, hlo, hsc⟩ := hC
  have hKn := hK.1 ci _ hc
  have h2' : slots + N ≤ R.slots := by rw [← hlen]; exact h2
  refine W.newcK hx hb hown (hts _ hl1) (hts _ hl2) (hts _ hl3) rfl hd h1 h2' hKn.2.1 hz fun H1 kC hkC e1 z1 o1 => ?_
  have h9 := hk H1 z1 o1 ⟨_, hc, by
    show t_OB _ _ _ _ _ (vp_V (fs.map (dm_v b zb)))
    rw [hm]
    exact (u_born ty hts hw hKn hkC e1 hty).to hfs⟩
  have e9 : dm_sz (.inr (ci, fs)) = N := hlen
  rw [e9] at h9
  exact h9
def dm_zero : FieldType → ((Nat → Int32) ⊕ (Nat → Int64) ⊕ (Nat → UInt32) ⊕ (Nat → UInt64) ⊕ (Nat → Option Nat))
  | .long => .inr (.inl (fun _ => 0))
  | _ => .inl (fun _ => 0)
def dm_newa (n : Nat) (ty : FieldType) : dm_Sem := fun lv st M => match st with
  | .int z :: r => if z < 0 ∨ 50000000 < z.toNatClampNeg then none else some (.inl ((n, lv, .ref M.length :: r), M ++ [.inl (ty, z.toNatClampNeg, dm_zero ty)]))
  | _ => none
theorem dg_newa {tb : Nat → dm_Me} {own : String} {cc : ByteArray} {nL : Nat} {ret : Option FieldType} {isI : Bool} {sc : Option (Nat × (Nat → Int32))} {pc : Nat} {atype : ArrayType} {ty : FieldType} (hd : decode cc pc = .ok (.newarray atype, 2)) (hty : newarray.typeOf atype = ty) (hT : dm_isT ty = true) (hw : Cond.arrayClass ty ∈ dm_W) : dm_Good tb own cc nL ret isI sc pc (dm_newa (pc + 2) ty) := by
  intro lv st M o h
  unfold dm_newa at h
  split at h
  · rename_i z r
    split at h
    · cases h
    · rename_i hc
      cases h
      refine dm_newc (fun p l e R s m args below meth c D ca b zb n0 Q H locs ls cells slots hC hz hP hl h1 h2 hk => ?_) rfl
      obtain ⟨hx, hb, hml, hown, hts, hr, hlk, hin, hK, hsz, hfr, hlo, hsc⟩ := hC
      have c1 : ¬ z < 0 := fun q => hc (Or.inl q)
      have c2 : z.toNatClampNeg ≤ 50000000 := Nat.not_lt.mp (fun q => hc (Or.inr q))
      subst hty
      have hbytes : z.toNatClampNeg * componentBytes (newarray.typeOf atype) ≤ 536870912 := by
        have : componentBytes (newarray.typeOf atype) ≤ 8 := by cases atype <;> decide
        calc z.toNatClampNeg * componentBytes (newarray.typeOf atype) ≤ 50000000 * 8 := Nat.mul_le_mul c2 this
          _ ≤ 536870912 := by decide
      refine va_newaK hx hb (hts _ hw) rfl hd rfl c1 rfl hbytes h1 h2 hz fun H1 cA e1 z1 o1 hAr hNm => ?_
      refine hk H1 z1 o1 ?_
      obtain ⟨t0, ht0⟩ := dm_tys_at ca hT
      have hca : ca (newarray.typeOf atype) = cA := by
        have h9 := (hK.2 t0 _ ht0).2
        have h8 : s.vm.findClass ("[" ++ (newarray.typeOf atype).toString) = some (ca (newarray.typeOf atype)) := by
          cases atype <;> exact h9
        exact Option.some.inj (h8.symm.trans hNm)
      show H1[b + M.length]? = some (vp_cell (ca (newarray.typeOf atype)) _)
      rw [hca, e1]
      congr 1
      cases atype <;> first | rfl | cases hT
  · cases h
def dm_alen (n : Nat) : dm_Sem := fun lv st M => match st with
  | .ref a :: r => match M[a]? with
    | some (.inl x) => if dm_isT x.1 = true then some (.inl ((n, lv, .int (Int32.ofNat x.2.1) :: r), M)) else none
    | _ => none
  | _ => none
theorem dg_alen {tb : Nat → dm_Me} {own : String} {cc : ByteArray} {nL : Nat} {ret : Option FieldType} {isI : Bool} {sc : Option (Nat × (Nat → Int32))} {pc : Nat} (hd : decode cc pc = .ok (.arraylength, 1)) : dm_Good tb own cc nL ret isI sc pc (dm_alen (pc + 1)) := by
  intro lv st M o h
  unfold dm_alen at h
  split at h
  · rename_i a r
    split at h
    · rename_i x e1
      split at h
      · rename_i hT
        cases h
        refine dm_pure (fun p l e R s m args below meth c D ca b zb n0 Q H locs ls cells slots hC hH hl h1 h2 hk9 => ?_)
        obtain ⟨hx, hb, hml, hown, hts, hr, hlk, hin, hK, hsz, hfr, hlo, hsc⟩ := hC
        obtain ⟨t0, ht0⟩ := dm_tys_at ca hT
        exact va_alen hx hb hK hH.2 a t0 (x := x.2) (dm_ws_get e1) ht0 rfl hd (hk9 ls hl)
      · cases h
    · cases h
  · cases h
def dm_iald (n : Nat) : dm_Sem := fun lv st M => match st with
  | .int i :: .ref a :: r => match M[a]? with
    | some (.inl (.int, k, .inl f)) => if i < 0 ∨ k ≤ i.toNatClampNeg then none else some (.inl ((n, lv, .int (f i.toNatClampNeg) :: r), M))
    | _ => none
  | _ => none
theorem dg_iald {tb : Nat → dm_Me} {own : String} {cc : ByteArray} {nL : Nat} {ret : Option FieldType} {isI : Bool} {sc : Option (Nat × (Nat → Int32))} {pc : Nat} (hd : decode cc pc = .ok (.iaload, 1)) : dm_Good tb own cc nL ret isI sc pc (dm_iald (pc + 1)) := by
  intro lv st M o h
  unfold dm_iald at h
  split at h
  · rename_i i a r
    split at h
    · rename_i k f e1
      split at h
      · cases h
      · rename_i hc
        cases h
        refine dm_pure (fun p l e R s m args below meth c D ca b zb n0 Q H locs ls cells slots hC hH hl h1 h2 hk9 => ?_)
        obtain ⟨hx, hb, hml, hown, hts, hr, hlk, hin, hK, hsz, hfr, hlo, hsc⟩ := hC
        obtain ⟨t0, ht0⟩ := dm_tys_at (ty := .int) ca rfl
        exact va_iald hx hb hK hH.2 a t0 (dm_ws_get e1) ht0 hc hd (hk9 ls hl)
    · cases h
  · cases h
def dm_bald (n : Nat) : dm_Sem := fun lv st M => match st with
  | .int i :: .ref a :: r => match M[a]? with
    | some (.inl (.boolean, k, .inl f)) => if i < 0 ∨ k ≤ i.toNatClampNeg then none else some (.inl ((n, lv, .int (f i.toNatClampNeg) :: r), M))
    | some (.inl (.byte, k, .inl f)) => if i < 0 ∨ k ≤ i.toNatClampNeg then none else some (.inl ((n, lv, .int (f i.toNatClampNeg) :: r), M))
    | _ => none
  | _ => none
theorem dg_bald {tb : Nat → dm_Me} {own : String} {cc : ByteArray} {nL : Nat} {ret : Option FieldType} {isI : Bool} {sc : Option (Nat × (Nat → Int32))} {pc : Nat} (hd : decode cc pc = .ok (.baload, 1)) : dm_Good tb own cc nL ret isI sc pc (dm_bald (pc + 1)) := by
  intro lv st M o h
  unfold dm_bald at h
  split at h
  · rename_i i a r
    split at h
    · rename_i k f e1
      split at h
      · cases h
      · rename_i hc
        cases h
        refine dm_pure (fun p l e R s m args below meth c D ca b zb n0 Q H locs ls cells slots hC hH hl h1 h2 hk9 => ?_)
        obtain ⟨hx, hb, hml, hown, hts, hr, hlk, hin, hK, hsz, hfr, hlo, hsc⟩ := hC
        obtain ⟨t0, ht0⟩ := dm_tys_at (ty := .boolean) ca rfl
        exact va_zald hx hb hK hH.2 a t0 (dm_ws_get e1) ht0 hc hd (hk9 ls hl)
    · rename_i k f e1
      split at h
      · cases h
      · rename_i hc
        cases h
        refine dm_pure (fun p l e R s m args below meth c D ca b zb n0 Q H locs ls cells slots hC hH hl h1 h2 hk9 => ?_)
        obtain ⟨hx, hb, hml, hown, hts, hr, hlk, hin, hK, hsz, hfr, hlo, hsc⟩ := hC
        obtain ⟨t0, ht0⟩ := dm_tys_at (ty := .byte) ca rfl
        exact va_bald hx hb hK hH.2 a t0 (dm_ws_get e1) ht0 hc hd (hk9 ls hl)
    · cases h
  · cases h
def dm_sald (n : Nat) : dm_Sem := fun lv st M => match st with
  | .int i :: .ref a :: r => match M[a]? with
    | some (.inl (.short, k, .inl f)) => if i < 0 ∨ k ≤ i.toNatClampNeg then none else some (.inl ((n, lv, .int (f i.toNatClampNeg) :: r), M))
    | _ => none
  | _ => none
theorem dg_sald {tb : Nat → dm_Me} {own : String} {cc : ByteArray} {nL : Nat} {ret : Option FieldType} {isI : Bool} {sc : Option (Nat × (Nat → Int32))} {pc : Nat} (hd : decode cc pc = .ok (.saload, 1)) : dm_Good tb own cc nL ret isI sc pc (dm_sald (pc + 1)) := by
  intro lv st M o h
  unfold dm_sald at h
  split at h
  · rename_i i a r
    split at h
    · rename_i k f e1
      split at h
      · cases h
      · rename_i hc
        cases h
        refine dm_pure (fun p l e R s m args below meth c D ca b zb n0 Q H locs ls cells slots hC hH hl h1 h2 hk9 => ?_)
        obtain ⟨hx, hb, hml, hown, hts, hr, hlk, hin, hK, hsz, hfr, hlo, hsc⟩ := hC
        obtain ⟨t0, ht0⟩ := dm_tys_at (ty := .short) ca rfl
        exact va_sald hx hb hK hH.2 a t0 (dm_ws_get e1) ht0 hc hd (hk9 ls hl)
    · cases h
  · cases h
def dm_lald (n : Nat) : dm_Sem := fun lv st M => match st with
  | .int i :: .ref a :: r => match M[a]? with
    | some (.inl (.long, k, .inr (.inl f))) => if i < 0 ∨ k ≤ i.toNatClampNeg then none else some (.inl ((n, lv, .long (f i.toNatClampNeg) :: r), M))
    | _ => none
  | _ => none
theorem dg_lald {tb : Nat → dm_Me} {own : String} {cc : ByteArray} {nL : Nat} {ret : Option FieldType} {isI : Bool} {sc : Option (Nat × (Nat → Int32))} {pc : Nat} (hd : decode cc pc = .ok (.laload, 1)) : dm_Good tb own cc nL ret isI sc pc (dm_lald (pc + 1)) := by
  intro lv st M o h
  unfold dm_lald at h
  split at h
  · rename_i i a r
    split at h
    · rename_i k f e1
      split at h
      · cases h
      · rename_i hc
        cases h
        refine dm_pure (fun p l e R s m args below meth c D ca b zb n0 Q H locs ls cells slots hC hH hl h1 h2 hk9 => ?_)
        obtain ⟨hx, hb, hml, hown, hts, hr, hlk, hin, hK, hsz, hfr, hlo, hsc⟩ := hC
        obtain ⟨t0, ht0⟩ := dm_tys_at (ty := .long) ca rfl
        exact va_lald hx hb hK hH.2 a t0 (dm_ws_get e1) ht0 hc hd (hk9 ls hl)
    · cases h
  · cases h
def dm_iast (n : Nat) : dm_Sem := fun lv st M => match st with
  | .int x :: .int i :: .ref a :: r => match M[a]? with
    | some (.inl (.int, k, .inl f)) => if i < 0 ∨ k ≤ i.toNatClampNeg then none else some (.inl ((n, lv, r), M.set a (.inl (.int, k, .inl (upd f i.toNatClampNeg x)))))
    | _ => none
  | _ => none
theorem dg_iast {tb : Nat → dm_Me} {own : String} {cc : ByteArray} {nL : Nat} {ret : Option FieldType} {isI : Bool} {sc : Option (Nat × (Nat → Int32))} {pc : Nat} (hd : decode cc pc = .ok (.iastore, 1)) : dm_Good tb own cc nL ret isI sc pc (dm_iast (pc + 1)) := by
  intro lv st M o h
  unfold dm_iast at h
  split at h
  · rename_i x i a r
    split at h
    · rename_i k f e1
      split at h
      · cases h
      · rename_i hc
        cases h
        refine dm_putc e1 rfl (fun p l e R s m args below meth c D ca b zb n0 Q H locs ls cells slots hC hH hS hD hl hk9 => ?_) rfl
        obtain ⟨hx, hb, hml, hown, hts, hr, hlk, hin, hK, hsz, hfr, hlo, hsc⟩ := hC
        obtain ⟨t0, ht0⟩ := dm_tys_at (ty := .int) ca rfl
        exact va_iast hx hb hK hH.2 hD hS a t0 (dm_ws_get e1) ht0 hc hd (fun H1 locs1 hP1 _ hS1 => hk9 H1 locs1 hP1 hS1)
    · cases h
  · cases h
def dm_bast (n : Nat) : dm_Sem := fun lv st M => match st with
  | .int x :: .int i :: .ref a :: r => match M[a]? with
    | some (.inl (.boolean, k, .inl f)) => if i < 0 ∨ k ≤ i.toNatClampNeg then none else some (.inl ((n, lv, r), M.set a (.inl (.boolean, k, .inl (upd f i.toNatClampNeg (vp_nar .boolean x))))))
    | some (.inl (.byte, k, .inl f)) => if i < 0 ∨ k ≤ i.toNatClampNeg then none else some (.inl ((n, lv, r), M.set a (.inl (.byte, k, .inl (upd f i.toNatClampNeg (vp_nar .byte x))))))
    | _ => none
  | _ => none
theorem dg_bast {tb : Nat → dm_Me} {own : String} {cc : ByteArray} {nL : Nat} {ret : Option FieldType} {isI : Bool} {sc : Option (Nat × (Nat → Int32))} {pc : Nat} (hd : decode cc pc = .ok (.bastore, 1)) : dm_Good tb own cc nL ret isI sc pc (dm_bast (pc + 1)) := by
  intro lv st M o h
  unfold dm_bast at h
  split at h
  · rename_i x i a r
    split at h
    · rename_i k f e1
      split at h
      · cases h
      · rename_i hc
        cases h
        refine dm_putc e1 rfl (fun p l e R s m args below meth c D ca b zb n0 Q H locs ls cells slots hC hH hS hD hl hk9 => ?_) rfl
        obtain ⟨hx, hb, hml, hown, hts, hr, hlk, hin, hK, hsz, hfr, hlo, hsc⟩ := hC
        obtain ⟨t0, ht0⟩ := dm_tys_at (ty := .boolean) ca rfl
        exact va_zast hx hb hK hH.2 hD hS a t0 (dm_ws_get e1) ht0 hc hd (fun H1 locs1 hP1 _ hS1 => hk9 H1 locs1 hP1 hS1)
    · rename_i k f e1
      split at h
      · cases h
      · rename_i hc
        cases h
        refine dm_putc e1 rfl (fun p l e R s m args below meth c D ca b zb n0 Q H locs ls cells slots hC hH hS hD hl hk9 => ?_) rfl
        obtain ⟨hx, hb, hml, hown, hts, hr, hlk, hin, hK, hsz, hfr, hlo, hsc⟩ := hC
        obtain ⟨t0, ht0⟩ := dm_tys_at (ty := .byte) ca rfl
        exact va_bast hx hb hK hH.2 hD hS a t0 (dm_ws_get e1) ht0 hc hd (fun H1 locs1 hP1 _ hS1 => hk9 H1 locs1 hP1 hS1)
    · cases h
  · cases h
def dm_sast (n : Nat) : dm_Sem := fun lv st M => match st with
  | .int x :: .int i :: .ref a :: r => match M[a]? with
    | some (.inl (.short, k, .inl f)) => if i < 0 ∨ k ≤ i.toNatClampNeg then none else some (.inl ((n, lv, r), M.set a (.inl (.short, k, .inl (upd f i.toNatClampNeg (vp_nar .short x))))))
    | _ => none
  | _ => none
theorem dg_sast {tb : Nat → dm_Me} {own : String} {cc : ByteArray} {nL : Nat} {ret : Option FieldType} {isI : Bool} {sc : Option (Nat × (Nat → Int32))} {pc : Nat} (hd : decode cc pc = .ok (.sastore, 1)) : dm_Good tb own cc nL ret isI sc pc (dm_sast (pc + 1)) := by
  intro lv st M o h
  unfold dm_sast at h
  split at h
  · rename_i x i a r
    split at h
    · rename_i k f e1
      split at h
      · cases h
      · rename_i hc
        cases h
        refine dm_putc e1 rfl (fun p l e R s m args below meth c D ca b zb n0 Q H locs ls cells slots hC hH hS hD hl hk9 => ?_) rfl
        obtain ⟨hx, hb, hml, hown, hts, hr, hlk, hin, hK, hsz, hfr, hlo, hsc⟩ := hC
        obtain ⟨t0, ht0⟩ := dm_tys_at (ty := .short) ca rfl
        exact va_sast hx hb hK hH.2 hD hS a t0 (dm_ws_get e1) ht0 hc hd (fun H1 locs1 hP1 _ hS1 => hk9 H1 locs1 hP1 hS1)
    · cases h
  · cases h
def dm_last (n : Nat) : dm_Sem := fun lv st M => match st with
  | .long x :: .int i :: .ref a :: r => match M[a]? with
    | some (.inl (.long, k, .inr (.inl f))) => if i < 0 ∨ k ≤ i.toNatClampNeg then none else some (.inl ((n, lv, r), M.set a (.inl (.long, k, .inr (.inl (vp_updL f i.toNatClampNeg x))))))
    | _ => none
  | _ => none
theorem dg_last {tb : Nat → dm_Me} {own : String} {cc : ByteArray} {nL : Nat} {ret : Option FieldType} {isI : Bool} {sc : Option (Nat × (Nat → Int32))} {pc : Nat} (hd : decode cc pc = .ok (.lastore, 1)) : dm_Good tb own cc nL ret isI sc pc (dm_last (pc + 1)) := by
  intro lv st M o h
  unfold dm_last at h
  split at h
  · rename_i x i a r
    split at h
    · rename_i k f e1
      split at h
      · cases h
      · rename_i hc
        cases h
        refine dm_putc e1 rfl (fun p l e R s m args below meth c D ca b zb n0 Q H locs ls cells slots hC hH hS hD hl hk9 => ?_) rfl
        obtain ⟨hx, hb, hml, hown, hts, hr, hlk, hin, hK, hsz, hfr, hlo, hsc⟩ := hC
        obtain ⟨t0, ht0⟩ := dm_tys_at (ty := .long) ca rfl
        exact va_last hx hb hK hH.2 hD hS a t0 (dm_ws_get e1) ht0 hc hd (fun H1 locs1 hP1 _ hS1 => hk9 H1 locs1 hP1 hS1)
    · cases h
  · cases h
