/-! A MACHINE OF OUR OWN over memories: cells numbered from 0 on, the cell k at the address b + k. Its runs are functions; 'dm_sound' (part 04) says that the JVM does what they do. -/
abbrev dm_Cell : Type := (FieldType × vp_A) ⊕ (Nat × List Value)
abbrev dm_Mem : Type := List dm_Cell
abbrev dm_Lv : Type := List (Nat × Value)
abbrev dm_Fr : Type := Nat × dm_Lv × List Value
abbrev dm_Rs : Type := (dm_Fr × dm_Mem) ⊕ ((Nat × List Value × dm_Fr) ⊕ Option Value)
abbrev dm_Sem : Type := dm_Lv → List Value → dm_Mem → Option dm_Rs
/-- our value as the JVM's: a number of a cell is its address; a float stands for the law's script -/
def dm_v (b zb : Nat) : Value → Value
  | .int x => .int x
  | .long x => .long x
  | .float _ => .ref zb
  | .double x => .double x
  | .null => .null
  | .ref k => .ref (b + k)
  | .retAddr k => .retAddr k
theorem dm_cat (b zb : Nat) (v : Value) : (dm_v b zb v).category = v.category := by cases v <;> rfl
def dm_sz : dm_Cell → Nat
  | .inl a => a.2.1
  | .inr o => o.2.length
def dm_slots (M : dm_Mem) : Nat := (M.map dm_sz).sum
def dm_E (ca : FieldType → ClassId) (b zb : Nat) : dm_Cell → va_E
  | .inl a => .inl (ca a.1, a.2)
  | .inr o => .inr (o.1, o.2.map (dm_v b zb))
def dm_ws (ca : FieldType → ClassId) (b zb : Nat) (M : dm_Mem) : va_W := M.mapIdx (fun k x => (b + k, dm_E ca b zb x))
def dm_lv (b zb : Nat) (lv : dm_Lv) : dm_Lv := lv.map (fun q => (q.1, dm_v b zb q.2))
def dm_tys (ca : FieldType → ClassId) : List (ClassId × FieldType) := [(ca .int, .int), (ca .long, .long), (ca .boolean, .boolean), (ca .byte, .byte), (ca .short, .short)]
def dm_Hp (D : va_G) (ca : FieldType → ClassId) (b zb : Nat) (M : dm_Mem) (H : Heap) : Prop := H.size = b + M.length ∧ va_P D vwCl (dm_ws ca b zb M) H
/-- the links to private members of nest mates -/
def dm_N : List (String × Nat × MethodName × String) := [(RX10, 9, yX2_init, RX10), (RX2, 11, yX8_init, RX10), (RX10, 21, yX0_init, RX10), (RX10, 28, yX5_init, RX10), (RX10, 35, yX1_init, RX10), (RX10, 266, yX9_shareFrom, RX10), (RX10, 272, yX9_heightFrom, RX10)]
def dm_Nk (U : State) : Prop := ∀ q ∈ dm_N, va_Nw (.methodLinkNest q.1 q.2.1 q.2.2.1 q.2.2.2) U
theorem dm_Nk.warm {s U : State} (hW : s.WarmedH U.vm) (h : dm_Nk s) : dm_Nk U := fun q hq => va_Nw.warmM hW (h q hq)
/-- the words that a method of ours stands on: the tables', as far as they hold for ever -/
def dm_W : List Cond := lw_tbl.filter goodWord
theorem dm_in {w : Cond} (h : w ∈ lw_tbl) (g : goodWord w = true) : w ∈ dm_W := List.mem_filter.mpr ⟨h, g⟩
theorem dm_at (i : Nat) {w : Cond} (h : lw_tbl[i]? = some w) (g : goodWord w = true) : w ∈ dm_W := dm_in (List.mem_of_getElem? h) g
theorem dm_goodW {w : Cond} (h : w ∈ dm_W) : (w.onTables && w.keeps) = true ∨ ∃ ty, w = .arrayClass ty := good_of_word (List.mem_filter.mp h).2
-- ===== lists =====
theorem dm_ws_get {ca : FieldType → ClassId} {b zb : Nat} {M : dm_Mem} {k : Nat} {x : dm_Cell} (h : M[k]? = some x) : (dm_ws ca b zb M)[k]? = some (b + k, dm_E ca b zb x) := by
  simp [dm_ws, List.getElem?_mapIdx, h]
theorem dm_ws_of {ca : FieldType → ClassId} {b zb : Nat} {M : dm_Mem} {k : Nat} {q : Nat × va_E} (h : (dm_ws ca b zb M)[k]? = some q) : ∃ x, M[k]? = some x ∧ q = (b + k, dm_E ca b zb x) := by
  simp only [dm_ws, List.getElem?_mapIdx] at h
  cases hm : M[k]? with
  | none => rw [hm] at h; cases h
  | some x => rw [hm] at h; exact ⟨x, rfl, (Option.some.inj h).symm⟩
theorem dm_ws_set (ca : FieldType → ClassId) (b zb : Nat) (M : dm_Mem) (k : Nat) (x : dm_Cell) : dm_ws ca b zb (M.set k x) = (dm_ws ca b zb M).set k (b + k, dm_E ca b zb x) := by
  apply List.ext_getElem?
  intro i
  simp only [dm_ws, List.getElem?_mapIdx, List.getElem?_set, List.length_mapIdx]
  by_cases h : k = i
  · subst h
    by_cases h2 : k < M.length
    · simp [h2]
    · simp [h2]
  · simp [h]
theorem dm_ws_app (ca : FieldType → ClassId) (b zb : Nat) (M : dm_Mem) (x : dm_Cell) : dm_ws ca b zb (M ++ [x]) = dm_ws ca b zb M ++ [(b + M.length, dm_E ca b zb x)] := by
  simp [dm_ws, List.mapIdx_append]
theorem dm_ws_D (ca : FieldType → ClassId) (b zb : Nat) (M : dm_Mem) : va_D (fun q => b ≤ q) (dm_ws ca b zb M) := by
  refine ⟨fun i j p q hi hj h => ?_, fun k q hk => ?_⟩
  · obtain ⟨x, -, rfl⟩ := dm_ws_of hi
    obtain ⟨y, -, rfl⟩ := dm_ws_of hj
    simp only at h
    omega
  · obtain ⟨x, -, rfl⟩ := dm_ws_of hk
    exact Nat.le_add_right _ _
theorem dm_slots_app (M : dm_Mem) (x : dm_Cell) : dm_slots (M ++ [x]) = dm_slots M + dm_sz x := by simp [dm_slots]
theorem dm_slots_set (M : dm_Mem) (k : Nat) (x y : dm_Cell) (h : M[k]? = some x) (hs : dm_sz y = dm_sz x) : dm_slots (M.set k y) = dm_slots M := by
  unfold dm_slots
  congr 1
  apply List.ext_getElem?
  intro i
  simp only [List.getElem?_map, List.getElem?_set]
  by_cases hk : k = i
  · subst hk
    have hl := (List.getElem?_eq_some_iff.mp h).1
    simp [hl, h, hs]
    have := (List.getElem?_eq_some_iff.mp h).2
    simp [this, hs]
  · simp [hk]
def dm_lget : dm_Lv → Nat → Option Value
  | [], _ => none
  | q :: r, i => bif Nat.beq q.1 i then some q.2 else dm_lget r i
theorem dm_lget_mem {lv : dm_Lv} {i : Nat} {v : Value} (h : dm_lget lv i = some v) : (i, v) ∈ lv := by
  induction lv with
  | nil => cases h
  | cons q r ih =>
    unfold dm_lget at h
    cases hb : Nat.beq q.1 i with
    | true =>
      rw [hb] at h
      have h1 : q.1 = i := Nat.eq_of_beq_eq_true hb
      have h2 : q.2 = v := Option.some.inj h
      rw [← h1, ← h2]
      exact List.mem_cons_self
    | false =>
      rw [hb] at h
      exact List.mem_cons_of_mem _ (ih h)
theorem dm_lget_at {lv : dm_Lv} {i b zb nL : Nat} {v : Value} {ls : Array Slot} (hl : lv_has ls nL (dm_lv b zb lv)) (h : dm_lget lv i = some v) : ls[i]? = some (.val (dm_v b zb v)) :=
  hl.2.2 (i, dm_v b zb v) (List.mem_map.mpr ⟨(i, v), dm_lget_mem h, rfl⟩)
/-- the locals behind a store of one word, of two words -/
def dm_set1 (lv : dm_Lv) (i : Nat) (v : Value) : dm_Lv := (i, v) :: lv.filter (fun q => !(q.1 == i) && !(q.1 + 1 == i && q.2.category == 2))
def dm_set2 (lv : dm_Lv) (i : Nat) (v : Value) : dm_Lv := (i, v) :: lv.filter (fun q => !(q.1 == i) && (!(q.1 == i + 1) && !(q.1 + 1 == i && q.2.category == 2)))
theorem dm_set1_lv (b zb : Nat) (lv : dm_Lv) (i : Nat) (v : Value) : (i, dm_v b zb v) :: (dm_lv b zb lv).filter (fun q => !(q.1 == i) && !(q.1 + 1 == i && q.2.category == 2)) = dm_lv b zb (dm_set1 lv i v) := by
  simp only [dm_lv, dm_set1, List.map_cons, List.filter_map]
  congr 2
  apply List.filter_congr
  intro q _
  simp [Function.comp, dm_cat]
theorem dm_set2_lv (b zb : Nat) (lv : dm_Lv) (i : Nat) (v : Value) : (i, dm_v b zb v) :: (dm_lv b zb lv).filter (fun q => !(q.1 == i) && (!(q.1 == i + 1) && !(q.1 + 1 == i && q.2.category == 2))) = dm_lv b zb (dm_set2 lv i v) := by
  simp only [dm_lv, dm_set2, List.map_cons, List.filter_map]
  congr 2
  apply List.filter_congr
  intro q _
  simp [Function.comp, dm_cat]
theorem dm_lv_args (b zb : Nat) (vs : List Value) : ∀ i, lv_args i (vs.map (dm_v b zb)) = dm_lv b zb (lv_args i vs) := by
  induction vs with
  | nil => intro i; rfl
  | cons v vs ih =>
    intro i
    simp only [List.map_cons, lv_args, dm_lv, dm_cat]
    rw [ih]
    rfl
theorem dm_lg_sl (b zb : Nat) (vs : List Value) : (lg_sl (vs.map (dm_v b zb))).length = (lg_sl vs).length := by
  induction vs with
  | nil => rfl
  | cons v vs ih =>
    have h1 : lg_sl (v :: vs) = (if v.category = 2 then [.val v, .second] else [.val v]) ++ lg_sl vs := by simp [lg_sl]
    have h2 : lg_sl ((v :: vs).map (dm_v b zb)) = (if v.category = 2 then [.val (dm_v b zb v), .second] else [.val (dm_v b zb v)]) ++ lg_sl (vs.map (dm_v b zb)) := by simp [lg_sl, dm_cat]
    rw [h1, h2, List.length_append, List.length_append, ih]
    by_cases h : v.category = 2 <;> simp [h]
theorem dm_cats (b zb : Nat) (st : List Value) : ((st.map (dm_v b zb)).map fun v => v.category) = st.map fun v => v.category := by
  simp [List.map_map, Function.comp, dm_cat]
-- ===== positions of the JVM, by ours =====
/-- from every heap that holds M, with the locals and the stack of g, the JVM comes to Q -/
def dm_At (p : Program) (l : Launch) (e : Env) (R : Room) (s : State) (m : MethodId) (args : Array Value) (below : List Frame) (meth : Method) (c : Code) (D : va_G) (ca : FieldType → ClassId) (b zb n0 s0 nL : Nat) (Q : State → Prop) (M : dm_Mem) (g : dm_Fr) : Prop :=
  ∀ (H : Heap) (locs : List Loc) (ls : Array Slot), dm_Hp D ca b zb M H → va_S (fun q => b ≤ q) s.heap H locs → lv_has ls nL (dm_lv b zb g.2.1) → W p l e R s m args below meth c H locs (M.length - n0) (dm_slots M - s0) Q (F0 m g.1 ls (g.2.2.map (dm_v b zb)))
/-- what stands fast while a method runs -/
def dm_Cx (own : String) (cc : ByteArray) (nL : Nat) (ret : Option FieldType) (isI : Bool) (sc : Option (Nat × (Nat → Int32))) (p : Program) (R : Room) (s : State) (m : MethodId) (args : Array Value) (meth : Method) (c : Code) (D : va_G) (ca : FieldType → ClassId) (b zb n0 : Nat) : Prop :=
  p.tables.exec = Jvm.exec ∧ c.code = cc ∧ c.maxLocals = nL ∧ s.vm.findClass own = some m.cls ∧ (∀ w ∈ dm_W, w.before args s = true) ∧ meth.sig.returnType = ret ∧ meth.locks = false ∧ (isI = true → meth.name = "<init>") ∧ va_K D vwCl (dm_tys ca) s ∧ s.heap.size = b + n0 ∧ 1 ≤ R.frames ∧ 64 ≤ R.locals ∧ (∀ (L : Nat) (xs : Nat → Int32), sc = some (L, xs) → va_X zb L xs s s.heap ∧ zb < s.heap.size ∧ zb < b) ∧ dm_Nk s
/-- one step: from M and (pc, lv, st) to M' and g -/
def dm_Nx (own : String) (cc : ByteArray) (nL : Nat) (ret : Option FieldType) (isI : Bool) (sc : Option (Nat × (Nat → Int32))) (pc : Nat) (lv : dm_Lv) (st : List Value) (M : dm_Mem) (g : dm_Fr) (M' : dm_Mem) : Prop :=
  (M.length ≤ M'.length ∧ dm_slots M ≤ dm_slots M') ∧ ∀ (p : Program) (l : Launch) (e : Env) (R : Room) (s : State) (m : MethodId) (args : Array Value) (below : List Frame) (meth : Method) (c : Code) (D : va_G) (ca : FieldType → ClassId) (b zb n0 s0 : Nat) (Q : State → Prop),
    dm_Cx own cc nL ret isI sc p R s m args meth c D ca b zb n0 → n0 ≤ M.length → s0 ≤ dm_slots M → M'.length - n0 ≤ R.cells → dm_slots M' - s0 ≤ R.slots →
    dm_At p l e R s m args below meth c D ca b zb n0 s0 nL Q M' g → dm_At p l e R s m args below meth c D ca b zb n0 s0 nL Q M (pc, lv, st)
/-- what a method leaves: its answer, the memory, nothing else -/
def dm_Qc (D : va_G) (ca : FieldType → ClassId) (b zb : Nat) (r : Option Value) (M' : dm_Mem) : Array Value → State → Outcome → State → Prop := fun _ st oc t =>
  oc = .returned (r.map (dm_v b zb)) ∧ dm_Hp D ca b zb M' t.heap ∧ va_F (fun q => b ≤ q) st t
def dm_Rt (own : String) (cc : ByteArray) (nL : Nat) (ret : Option FieldType) (isI : Bool) (sc : Option (Nat × (Nat → Int32))) (pc : Nat) (lv : dm_Lv) (st : List Value) (M : dm_Mem) (v : Option Value) : Prop :=
  ∀ (p : Program) (l : Launch) (e : Env) (R : Room) (s : State) (m : MethodId) (args : Array Value) (below : List Frame) (meth : Method) (c : Code) (D : va_G) (ca : FieldType → ClassId) (b zb n0 s0 : Nat),
    dm_Cx own cc nL ret isI sc p R s m args meth c D ca b zb n0 →
    dm_At p l e R s m args below meth c D ca b zb n0 s0 nL (MQ below (dm_Qc D ca b zb v M) args s (M.length - n0) (dm_slots M - s0) (fun q => b ≤ q)) M (pc, lv, st)
/-- a method: its name, code, locals, answer, whether it is a constructor -/
abbrev dm_Me : Type := MethodName × ByteArray × Nat × Option FieldType × Bool
def dm_wo (t : dm_Me) : List Cond := Cond.code t.1 t.2.1 t.2.2.1 t.2.2.2.1 :: dm_W
/-- its contract at one memory and one list of arguments -/
def dm_Met (tb : Nat → dm_Me) (l : Launch) (d mi : Nat) (as : List Value) (M : dm_Mem) (r : Option Value) (M' : dm_Mem) : Prop :=
  (M.length ≤ M'.length ∧ dm_slots M ≤ dm_slots M') ∧ ∀ (D : va_G) (ca : FieldType → ClassId) (b zb : Nat),
    Met l (tb mi).1 (dm_wo (tb mi)) ({ frames := d, cells := M'.length - M.length, slots := dm_slots M' - dm_slots M, locals := 64 * d }) (va_Pc (as.map (dm_v b zb)) (fun U => dm_Hp D ca b zb M U.heap ∧ va_K D vwCl (dm_tys ca) U ∧ dm_Nk U)) (dm_Qc D ca b zb r M') (M'.length - M.length) (dm_slots M' - dm_slots M) (fun q => b ≤ q)
def dm_Cl (tb : Nat → dm_Me) (own : String) (cc : ByteArray) (nL : Nat) (ret : Option FieldType) (isI : Bool) (sc : Option (Nat × (Nat → Int32))) (pc : Nat) (lv : dm_Lv) (st : List Value) (M : dm_Mem) (mi : Nat) (as : List Value) (g : dm_Fr) : Prop :=
  ∀ (p : Program) (l : Launch) (e : Env) (R : Room) (s : State) (m : MethodId) (args : Array Value) (below : List Frame) (meth : Method) (c : Code) (D : va_G) (ca : FieldType → ClassId) (b zb n0 s0 : Nat) (Q : State → Prop) (d : Nat) (r : Option Value) (M' : dm_Mem),
    dm_Cx own cc nL ret isI sc p R s m args meth c D ca b zb n0 → n0 ≤ M.length → s0 ≤ dm_slots M → M'.length - n0 ≤ R.cells → dm_slots M' - s0 ≤ R.slots → d + 1 ≤ R.frames → 64 * d + 64 ≤ R.locals → dm_Met tb l d mi as M r M' →
    dm_At p l e R s m args below meth c D ca b zb n0 s0 nL Q M' (g.1, g.2.1, r.toList ++ g.2.2) → dm_At p l e R s m args below meth c D ca b zb n0 s0 nL Q M (pc, lv, st)
def dm_Res (tb : Nat → dm_Me) (own : String) (cc : ByteArray) (nL : Nat) (ret : Option FieldType) (isI : Bool) (sc : Option (Nat × (Nat → Int32))) (pc : Nat) (lv : dm_Lv) (st : List Value) (M : dm_Mem) : dm_Rs → Prop
  | .inl q => dm_Nx own cc nL ret isI sc pc lv st M q.1 q.2
  | .inr (.inl q) => dm_Cl tb own cc nL ret isI sc pc lv st M q.1 q.2.1 q.2.2
  | .inr (.inr v) => dm_Rt own cc nL ret isI sc pc lv st M v
/-- a step of ours is the JVM's -/
def dm_Good (tb : Nat → dm_Me) (own : String) (cc : ByteArray) (nL : Nat) (ret : Option FieldType) (isI : Bool) (sc : Option (Nat × (Nat → Int32))) (pc : Nat) (f : dm_Sem) : Prop :=
  ∀ (lv : dm_Lv) (st : List Value) (M : dm_Mem) (o : dm_Rs), f lv st M = some o → dm_Res tb own cc nL ret isI sc pc lv st M o
/-- steps that leave the memory alone -/
theorem dm_pure {own : String} {cc : ByteArray} {nL : Nat} {ret : Option FieldType} {isI : Bool} {sc : Option (Nat × (Nat → Int32))} {pc : Nat} {lv : dm_Lv} {st : List Value} {M : dm_Mem} {g : dm_Fr}
    (h : ∀ (p : Program) (l : Launch) (e : Env) (R : Room) (s : State) (m : MethodId) (args : Array Value) (below : List Frame) (meth : Method) (c : Code) (D : va_G) (ca : FieldType → ClassId) (b zb n0 : Nat) (Q : State → Prop) (H : Heap) (locs : List Loc) (ls : Array Slot) (cells slots : Nat),
      dm_Cx own cc nL ret isI sc p R s m args meth c D ca b zb n0 → dm_Hp D ca b zb M H → lv_has ls nL (dm_lv b zb lv) → cells ≤ R.cells → slots ≤ R.slots →
      (∀ ls' : Array Slot, lv_has ls' nL (dm_lv b zb g.2.1) → W p l e R s m args below meth c H locs cells slots Q (F0 m g.1 ls' (g.2.2.map (dm_v b zb)))) → W p l e R s m args below meth c H locs cells slots Q (F0 m pc ls (st.map (dm_v b zb)))) :
    dm_Nx own cc nL ret isI sc pc lv st M g M := by
  refine ⟨⟨Nat.le_refl _, Nat.le_refl _⟩, ?_⟩
  intro p l e R s m args below meth c D ca b zb n0 s0 Q hC _ _ h1 h2 hk H locs ls hH hS hl
  exact h p l e R s m args below meth c D ca b zb n0 Q H locs ls _ _ hC hH hl h1 h2 (fun ls' hl' => hk H locs ls' hH hS hl')
theorem dm_size {p : Program} {l : Launch} {e : Env} {R : Room} {s : State} {m : MethodId} {args : Array Value} {below : List Frame} {meth : Method} {c : Code} {H : Heap} {locs : List Loc} {cells slots : Nat} {Q : State → Prop} {g : JFrame}
    (h : H.size ≤ s.heap.size + cells → W p l e R s m args below meth c H locs cells slots Q g) : W p l e R s m args below meth c H locs cells slots Q g := fun T hT X => h (by rw [← hT]; exact X.heapSize) T hT X
/-- steps that put one cell -/
theorem dm_putc {own : String} {cc : ByteArray} {nL : Nat} {ret : Option FieldType} {isI : Bool} {sc : Option (Nat × (Nat → Int32))} {pc : Nat} {lv : dm_Lv} {st : List Value} {M : dm_Mem} {g : dm_Fr} {k : Nat} {x y : dm_Cell} (hx : M[k]? = some x) (hy : dm_sz y = dm_sz x)
    (h : ∀ (p : Program) (l : Launch) (e : Env) (R : Room) (s : State) (m : MethodId) (args : Array Value) (below : List Frame) (meth : Method) (c : Code) (D : va_G) (ca : FieldType → ClassId) (b zb n0 : Nat) (Q : State → Prop) (H : Heap) (locs : List Loc) (ls : Array Slot) (cells slots : Nat),
      dm_Cx own cc nL ret isI sc p R s m args meth c D ca b zb n0 → dm_Hp D ca b zb M H → va_S (fun q => b ≤ q) s.heap H locs → va_D (fun q => b ≤ q) (dm_ws ca b zb M) → lv_has ls nL (dm_lv b zb lv) →
      (∀ (H1 : Heap) (locs1 : List Loc), va_P D vwCl ((dm_ws ca b zb M).set k (b + k, dm_E ca b zb y)) H1 → va_S (fun q => b ≤ q) s.heap H1 locs1 → W p l e R s m args below meth c H1 locs1 cells slots Q (F0 m g.1 ls (g.2.2.map (dm_v b zb)))) → W p l e R s m args below meth c H locs cells slots Q (F0 m pc ls (st.map (dm_v b zb))))
    (hg : g.2.1 = lv) : dm_Nx own cc nL ret isI sc pc lv st M g (M.set k y) := by
  have hs := dm_slots_set M k x y hx hy
  refine ⟨⟨by simp, by rw [hs]; exact Nat.le_refl _⟩, ?_⟩
  intro p l e R s m args below meth c D ca b zb n0 s0 Q hC hn _ h1 h2 hk H locs ls hH hS hl
  refine h p l e R s m args below meth c D ca b zb n0 Q H locs ls _ _ hC hH hS (dm_ws_D ca b zb M) hl (fun H1 locs1 hP1 hS1 => ?_)
  refine dm_size (fun hz => ?_)
  have hP2 : va_P D vwCl (dm_ws ca b zb (M.set k y)) H1 := by rw [dm_ws_set]; exact hP1
  have hlen : (M.set k y).length = M.length := by simp
  have hkl : k < M.length := (List.getElem?_eq_some_iff.mp hx).1
  have hb : s.heap.size = b + n0 := hC.2.2.2.2.2.2.2.2.2.1
  have hlast : b + (M.length - 1) < H1.size := by
    have hm : M.length - 1 < (M.set k y).length := by rw [hlen]; omega
    have := (hP2 (M.length - 1) _ (dm_ws_get (List.getElem?_eq_getElem hm))).lt
    simpa using this
  have hw := hk H1 locs1 ls ⟨by rw [hlen]; omega, hP2⟩ hS1 (by rw [hg]; exact hl)
  rw [hlen, hs] at hw
  exact hw
