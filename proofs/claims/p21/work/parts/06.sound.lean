/-! runs of our machine, and that the JVM does the same -/
def dm_no : dm_Sem := fun _ _ _ => none
theorem dg_no {tb : Nat → dm_Me} {own : String} {cc : ByteArray} {nL : Nat} {ret : Option FieldType} {isI : Bool} {sc : Option (Nat × (Nat → Int32))} {pc : Nat} : dm_Good tb own cc nL ret isI sc pc dm_no := fun _ _ _ _ h => by cases h
abbrev dm_Code : Type := List (List dm_Sem)
def dm_fetch (t : dm_Code) (pc : Nat) : Option dm_Sem := match t[pc / 16]? with
  | some r => r[pc % 16]?
  | none => none
abbrev dm_K : Type := Nat → List Value → dm_Mem → Option (Option Value × dm_Mem)
def dm_step (K : dm_K) (t : dm_Code) (ih : dm_Fr → dm_Mem → Option (Option Value × dm_Mem)) (g : dm_Fr) (M : dm_Mem) : Option (Option Value × dm_Mem) := match dm_fetch t g.1 with
  | none => none
  | some f => match f g.2.1 g.2.2 M with
    | none => none
    | some (.inl q) => ih q.1 q.2
    | some (.inr (.inl q)) => (match K q.1 q.2.1 M with
      | none => none
      | some r => ih (q.2.2.1, q.2.2.2.1, r.1.toList ++ q.2.2.2.2) r.2)
    | some (.inr (.inr v)) => some (v, M)
noncomputable def dm_run (K : dm_K) (t : dm_Code) (n : Nat) : dm_Fr → dm_Mem → Option (Option Value × dm_Mem) := Nat.rec (fun _ _ => none) (fun _ ih => dm_step K t ih) n
noncomputable def dm_ex (tb : Nat → dm_Me) (cd : Nat → dm_Code) (N d : Nat) : dm_K := Nat.rec (fun _ _ _ => none) (fun _ ih mi as M => if (lg_sl as).length ≤ (tb mi).2.2.1 then dm_run ih (cd mi) N (0, lv_args 0 as, []) M else none) d
theorem dm_run_succ (K : dm_K) (t : dm_Code) (n : Nat) (g : dm_Fr) (M : dm_Mem) : dm_run K t (n + 1) g M = dm_step K t (dm_run K t n) g M := rfl
theorem dm_ex_succ (tb : Nat → dm_Me) (cd : Nat → dm_Code) (N d mi : Nat) (as : List Value) (M : dm_Mem) : dm_ex tb cd N (d + 1) mi as M = if (lg_sl as).length ≤ (tb mi).2.2.1 then dm_run (dm_ex tb cd N d) (cd mi) N (0, lv_args 0 as, []) M else none := rfl
/-- a step, by its kinds -/
theorem dm_step_cases {K : dm_K} {t : dm_Code} {ih : dm_Fr → dm_Mem → Option (Option Value × dm_Mem)} {g : dm_Fr} {M : dm_Mem} {o : Option Value × dm_Mem} (h : dm_step K t ih g M = some o) :
    ∃ f, dm_fetch t g.1 = some f ∧ ((∃ g' M', f g.2.1 g.2.2 M = some (.inl (g', M')) ∧ ih g' M' = some o) ∨ (∃ mi as g' r M', f g.2.1 g.2.2 M = some (.inr (.inl (mi, as, g'))) ∧ K mi as M = some (r, M') ∧ ih (g'.1, g'.2.1, r.toList ++ g'.2.2) M' = some o) ∨ (∃ v, f g.2.1 g.2.2 M = some (.inr (.inr v)) ∧ o = (v, M))) := by
  unfold dm_step at h
  split at h
  · cases h
  · rename_i f e1
    refine ⟨f, e1, ?_⟩
    split at h
    · cases h
    · rename_i q e2
      exact Or.inl ⟨q.1, q.2, e2, h⟩
    · rename_i q e2
      split at h
      · cases h
      · rename_i r e3
        exact Or.inr (Or.inl ⟨q.1, q.2.1, q.2.2, r.1, r.2, e2, e3, h⟩)
    · rename_i v e2
      exact Or.inr (Or.inr ⟨v, e2, (Option.some.inj h).symm⟩)
theorem dm_run_le {K : dm_K} {t : dm_Code} {tb : Nat → dm_Me} {l : Launch} {d : Nat} {own : String} {cc : ByteArray} {nL : Nat} {ret : Option FieldType} {isI : Bool} {sc : Option (Nat × (Nat → Int32))} (hK : ∀ mj as M r M', K mj as M = some (r, M') → dm_Met tb l d mj as M r M') (hG : ∀ pc f, dm_fetch t pc = some f → dm_Good tb own cc nL ret isI sc pc f) :
    ∀ (n : Nat) (g : dm_Fr) (M : dm_Mem) (r : Option Value) (M' : dm_Mem), dm_run K t n g M = some (r, M') → M.length ≤ M'.length ∧ dm_slots M ≤ dm_slots M' := by
  intro n
  induction n with
  | zero => intro g M r M' h; cases h
  | succ n ih =>
    intro g M r M' h
    rw [dm_run_succ] at h
    obtain ⟨f, e1, h | h | h⟩ := dm_step_cases h
    · obtain ⟨g', M1, e2, e3⟩ := h
      have a1 := (hG _ _ e1 _ _ _ _ e2).1
      have a2 := ih _ _ _ _ e3
      exact ⟨Nat.le_trans a1.1 a2.1, Nat.le_trans a1.2 a2.2⟩
    · obtain ⟨mi, as, g', r', M1, e2, e3, e4⟩ := h
      have a1 := (hK _ _ _ _ _ e3).1
      have a2 := ih _ _ _ _ e4
      exact ⟨Nat.le_trans a1.1 a2.1, Nat.le_trans a1.2 a2.2⟩
    · obtain ⟨v, e2, e3⟩ := h
      cases e3
      exact ⟨Nat.le_refl _, Nat.le_refl _⟩
/-- from where our run goes through, the JVM's does -/
theorem dm_run_at {K : dm_K} {t : dm_Code} {tb : Nat → dm_Me} {l : Launch} {d : Nat} {own : String} {cc : ByteArray} {nL : Nat} {ret : Option FieldType} {isI : Bool} {sc : Option (Nat × (Nat → Int32))} (hK : ∀ mj as M r M', K mj as M = some (r, M') → dm_Met tb l d mj as M r M') (hG : ∀ pc f, dm_fetch t pc = some f → dm_Good tb own cc nL ret isI sc pc f)
    {p : Program} {e : Env} {R : Room} {s : State} {m : MethodId} {args : Array Value} {below : List Frame} {meth : Method} {c : Code} {D : va_G} {ca : FieldType → ClassId} {b zb n0 s0 : Nat} {Q : State → Prop} (hC : dm_Cx own cc nL ret isI sc p R s m args meth c D ca b zb n0) (hfr : d + 1 ≤ R.frames) (hlo : 64 * d + 64 ≤ R.locals) {r : Option Value} {M' : dm_Mem} (hc1 : M'.length - n0 ≤ R.cells) (hc2 : dm_slots M' - s0 ≤ R.slots)
    (hQ : ∀ pc lv st f, dm_fetch t pc = some f → f lv st M' = some (.inr (.inr r)) → dm_At p l e R s m args below meth c D ca b zb n0 s0 nL Q M' (pc, lv, st)) :
    ∀ (n : Nat) (g : dm_Fr) (M : dm_Mem), n0 ≤ M.length → s0 ≤ dm_slots M → dm_run K t n g M = some (r, M') → dm_At p l e R s m args below meth c D ca b zb n0 s0 nL Q M g := by
  intro n
  induction n with
  | zero => intro g M _ _ h; cases h
  | succ n ih =>
    intro g M hn hs h
    rw [dm_run_succ] at h
    obtain ⟨pc, lv, st⟩ := g
    obtain ⟨f, e1, h | h | h⟩ := dm_step_cases h
    · obtain ⟨g', M1, e2, e3⟩ := h
      have a1 := hG _ _ e1 _ _ _ _ e2
      have a2 := dm_run_le hK hG _ _ _ _ _ e3
      exact a1.2 p l e R s m args below meth c D ca b zb n0 s0 Q hC hn hs (by show M1.length - n0 ≤ _; omega) (by show dm_slots M1 - s0 ≤ _; omega) (ih g' M1 (Nat.le_trans hn a1.1.1) (Nat.le_trans hs a1.1.2) e3)
    · obtain ⟨mi, as, g', r', M1, e2, e3, e4⟩ := h
      have a1 := hG _ _ e1 _ _ _ _ e2
      have a3 := hK _ _ _ _ _ e3
      have a2 := dm_run_le hK hG _ _ _ _ _ e4
      exact a1 p l e R s m args below meth c D ca b zb n0 s0 Q d r' M1 hC hn hs (by omega) (by omega) hfr hlo a3 (ih _ M1 (Nat.le_trans hn a3.1.1) (Nat.le_trans hs a3.1.2) e4)
    · obtain ⟨v, e2, e3⟩ := h
      cases e3
      exact hQ _ _ _ f e1 e2
/-- a method of the table: its words stand in the tables, its steps are the JVM's -/
def dm_Tok (tb : Nat → dm_Me) (cd : Nat → dm_Code) (mi : Nat) : Prop := cd mi = [] ∨ (dm_Mok tb mi ∧ ((tb mi).2.2.2.2 = true → (tb mi).1.name = "<init>") ∧ ∀ pc f, dm_fetch (cd mi) pc = some f → dm_Good tb (tb mi).1.cls (tb mi).2.1 (tb mi).2.2.1 (tb mi).2.2.2.1 (tb mi).2.2.2.2 none pc f)
theorem dm_sound {tb : Nat → dm_Me} {cd : Nat → dm_Code} (hT : ∀ mi, dm_Tok tb cd mi) (l : Launch) (N : Nat) : ∀ (d mi : Nat) (as : List Value) (M : dm_Mem) (r : Option Value) (M' : dm_Mem), dm_ex tb cd N d mi as M = some (r, M') → dm_Met tb l d mi as M r M' := by
  intro d
  induction d with
  | zero => intro mi as M r M' h; cases h
  | succ d ih =>
    intro mi as M r M' h
    rw [dm_ex_succ] at h
    split at h
    · rename_i hlen
      rcases hT mi with h0 | ⟨hok, hin, hG⟩
      · rw [h0] at h
        cases N with
        | zero => cases h
        | succ N => rw [dm_run_succ] at h; cases h
      · have hle := dm_run_le (fun mj as M r M' h => ih mj as M r M' h) hG _ _ _ _ _ h
        refine ⟨hle, fun D ca b zb => ?_⟩
        refine Met.ofW (cc := (tb mi).2.1) (maxL := (tb mi).2.2.1) (ret := (tb mi).2.2.2.1) hok.2.2.2.2 rfl ?_
        intro p e s m args below meth c s₁ B hml hv
        obtain ⟨rfl, hH, hKs, hNs⟩ := hv
        have hts0 := atoms_spec (ws := dm_wo (tb mi)) B.pre
        have hC : dm_Cx (tb mi).1.cls (tb mi).2.1 (tb mi).2.2.1 (tb mi).2.2.2.1 (tb mi).2.2.2.2 none p (headSpec (dm_wo (tb mi)) { frames := d + 1, cells := M'.length - M.length, slots := dm_slots M' - dm_slots M, locals := 64 * (d + 1) }).room s m (as.map (dm_v b zb)).toArray meth c D ca b zb M.length :=
          ⟨B.exec, B.bytes, hml, findClass_of_methodNamed B.named, fun w hw => hts0 w (List.mem_cons_of_mem _ hw), B.returns, B.notSynchronized, fun hi => by
            rw [(name_of_methodNamed B.named B.method).1]; exact hin hi, hKs, hH.1, by show 1 ≤ d + 1; omega, by show 64 ≤ 64 * (d + 1); omega, (fun _ _ h => by cases h), hNs⟩
        have hat := dm_run_at (s0 := dm_slots M) (e := e) (below := below) (Q := MQ below (dm_Qc D ca b zb r M') (as.map (dm_v b zb)).toArray s (M'.length - M.length) (dm_slots M' - dm_slots M) (fun q => b ≤ q)) (fun mj as M r M' h => ih mj as M r M' h) hG hC (by show d + 1 ≤ d + 1; omega) (by show 64 * d + 64 ≤ 64 * (d + 1); omega) (Nat.le_refl _) (Nat.le_refl _)
          (fun pc lv st f e1 e2 => (hG pc f e1 lv st M' _ e2) p l e _ s m _ below meth c D ca b zb M.length (dm_slots M) hC) N (0, lv_args 0 as, []) M (Nat.le_refl _) (Nat.le_refl _) h
        have hl := lv_entry (as.map (dm_v b zb)) (n := (tb mi).2.2.1) (by rw [dm_lg_sl]; exact hlen)
        rw [dm_lv_args] at hl
        rw [lg_entry_eq]
        have h9 := hat s.heap [] _ hH va_S.rf hl
        rw [Nat.sub_self, Nat.sub_self] at h9
        exact h9
    · cases h
