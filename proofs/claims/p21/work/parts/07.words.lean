/-! the words of the tables that our steps stand on; the table of methods -/
def dm_AllR (P : Nat → dm_Sem → Prop) : Nat → List dm_Sem → Prop
  | _, [] => True
  | k, f :: r => P k f ∧ dm_AllR P (k + 1) r
def dm_AllC (P : Nat → dm_Sem → Prop) : Nat → dm_Code → Prop
  | _, [] => True
  | k, r :: t => (r.length ≤ 16 ∧ dm_AllR P k r) ∧ dm_AllC P (k + 16) t
theorem dr_n {P : Nat → dm_Sem → Prop} {k : Nat} : dm_AllR P k [] := trivial
theorem dr_c {P : Nat → dm_Sem → Prop} {k : Nat} {f : dm_Sem} {r : List dm_Sem} (h : P k f) (h2 : dm_AllR P (k + 1) r) : dm_AllR P k (f :: r) := ⟨h, h2⟩
theorem dc_n {P : Nat → dm_Sem → Prop} {k : Nat} : dm_AllC P k [] := trivial
theorem dc_c {P : Nat → dm_Sem → Prop} {k : Nat} {r : List dm_Sem} {t : dm_Code} (h0 : r.length ≤ 16) (h : dm_AllR P k r) (h2 : dm_AllC P (k + 16) t) : dm_AllC P k (r :: t) := ⟨⟨h0, h⟩, h2⟩
theorem dm_AllR.at {P : Nat → dm_Sem → Prop} {r : List dm_Sem} : ∀ {k : Nat}, dm_AllR P k r → ∀ (j : Nat) (f : dm_Sem), r[j]? = some f → P (k + j) f := by
  induction r with
  | nil => intro k _ j f h; simp at h
  | cons x r ih =>
    intro k h j f hj
    cases j with
    | zero => simp at hj; subst hj; exact h.1
    | succ j =>
      have h9 := ih h.2 j f (by simpa using hj)
      rw [show k + (j + 1) = k + 1 + j by omega]
      exact h9
theorem dm_AllC.at {P : Nat → dm_Sem → Prop} {t : dm_Code} : ∀ {k : Nat}, dm_AllC P k t → ∀ (i : Nat) (r : List dm_Sem), t[i]? = some r → r.length ≤ 16 ∧ dm_AllR P (k + 16 * i) r := by
  induction t with
  | nil => intro k _ i r h; simp at h
  | cons x t ih =>
    intro k h i r hi
    cases i with
    | zero => simp at hi; subst hi; exact h.1
    | succ i =>
      have h9 := ih h.2 i r (by simpa using hi)
      rw [show k + 16 * (i + 1) = k + 16 + 16 * i by omega]
      exact h9
theorem dm_rows {P : Nat → dm_Sem → Prop} {t : dm_Code} (h : dm_AllC P 0 t) (pc : Nat) (f : dm_Sem) (hf : dm_fetch t pc = some f) : P pc f := by
  unfold dm_fetch at hf
  split at hf
  · rename_i r e1
    have h1 := (h.at _ _ e1).2.at _ _ hf
    rw [show 0 + 16 * (pc / 16) + pc % 16 = pc by omega] at h1
    exact h1
  · cases hf
def dm_tbL : List (List dm_Me) := [[(yX0_init, cX0_init, 1, none, true), (yX0_clear, cX0_clear, 1, none, false), (yX0_size, cX0_size, 1, (some .int), false), (yX0_note, cX0_note, 5, none, false), (yX0_takeBack, cX0_takeBack, 2, (some .boolean), false), (yX1_init, cX1_init, 1, none, true), (yX1_size, cX1_size, 1, (some .int), false), (yX1_bitAt, cX1_bitAt, 2, (some .int), false), (yX1_push, cX1_push, 5, none, false), (yX1_cut, cX1_cut, 2, (some .boolean), false), (yX1_copyFrom, cX1_copyFrom, 2, none, false), (yX2_init, cX2_init, 1, none, true), (yX2_clear, cX2_clear, 1, none, false), (yX2_size, cX2_size, 1, (some .int), false), (yX2_nodes, cX2_nodes, 1, (some .int), false), (yX2_make, cX2_make, 7, (some .int), false)],
  [(yX2_cut, cX2_cut, 2, none, false), (yX2_has, cX2_has, 2, (some .boolean), false), (yX2_ownOf, cX2_ownOf, 2, (some .int), false), (yX2_knownOf, cX2_knownOf, 2, (some .int), false), (yX2_howOf, cX2_howOf, 2, (some .int), false), (yX2_firstOf, cX2_firstOf, 2, (some .int), false), (yX2_secondOf, cX2_secondOf, 2, (some .int), false), (yX2_stateOf, cX2_stateOf, 2, (some .int), false), (yX2_setState, cX2_setState, 3, none, false), (yX2_ownsNothing, cX2_ownsNothing, 2, (some .boolean), false), (yX2_isLiving, cX2_isLiving, 2, (some .boolean), false), (yX2_isOwner, cX2_isOwner, 2, (some .boolean), false), (yX2_isLost, cX2_isLost, 2, (some .boolean), false), (yX2_spend, cX2_spend, 2, none, false), (yX2_owners, cX2_owners, 3, (some .int), false), (yX2_lostOnes, cX2_lostOnes, 3, (some .int), false)],
  [(yX2_events, cX2_events, 3, (some .int), false), (yX2_copyFrom, cX2_copyFrom, 2, none, false), (yX3_canPart, cX3_canPart, 4, (some .boolean), false), (yX3_hasOneSide, cX3_hasOneSide, 2, (some .boolean), false), (yX3_part, cX3_part, 4, (some .int), false), (yX3_partFrom, cX3_partFrom, 7, none, false), (yX3_higher, cX3_higher, 4, (some .int), false), (yX3_higherFrom, cX3_higherFrom, 9, none, false), (yX3_after, cX3_after, 4, (some .int), false), (yX3_fillFrom, cX3_fillFrom, 7, none, false), (yX3_growFrom, cX3_growFrom, 7, none, false), (yX3_cost, cX3_cost, 6, (some .int), false), (yX4_init, cX4_init, 2, none, true), (yX4_at, cX4_at, 2, (some .int), false), (yX4_put, cX4_put, 3, none, false), (yX4_copyFrom, cX4_copyFrom, 4, none, false)],
  [(yX4_widen, cX4_widen, 3, none, false), (yX5_init, cX5_init, 1, none, true), (yX5_seen, cX5_seen, 3, (some .int), false), (yX5_missing, cX5_missing, 5, (some .int), false), (yX5_eventsIn, cX5_eventsIn, 4, (some .int), false), (yX5_trace, cX5_trace, 5, (some .boolean), false), (yX6_init, cX6_init, 2, none, true), (yX6_firstFault, cX6_firstFault, 1, (some .int), false), (yX6_scan, cX6_scan, 3, (some .int), false), (yX6_isFaulty, cX6_isFaulty, 1, (some .boolean), false), (yX6_blame, cX6_blame, 2, none, false), (yX6_oneBit, cX6_oneBit, 1, (some .int), false), (yX6_twoBits, cX6_twoBits, 3, (some .int), false), (yX6_numberHere, cX6_numberHere, 6, (some .int), false), (yX6_shareFrom, cX6_shareFrom, 8, (some .int), false), (yX6_heightFrom, cX6_heightFrom, 9, none, false)],
  [(yX6_isWellTold, cX6_isWellTold, 9, (some .boolean), false), (yX7_above, cX7_above, 3, (some .boolean), false), (yX7_aboveFrom, cX7_aboveFrom, 6, (some .boolean), false), (yX7_firstAbove, cX7_firstAbove, 3, (some .long), false), (yX7_seek, cX7_seek, 12, (some .long), false), (yX7_overlap, cX7_overlap, 3, (some .boolean), false), (yX7_overlapFrom, cX7_overlapFrom, 4, (some .boolean), false), (yX8_init, cX8_init, 1, none, true), (yX8_clear, cX8_clear, 1, none, false), (yX8_top, cX8_top, 1, (some .int), false), (yX8_cut, cX8_cut, 2, none, false), (yX8_numberOf, cX8_numberOf, 2, (some .int), false), (yX8_setNumber, cX8_setNumber, 3, none, false), (yX8_isNumber, cX8_isNumber, 2, (some .boolean), false), (yX8_isJust, cX8_isJust, 3, (some .boolean), false), (yX8_leftOf, cX8_leftOf, 2, (some .int), false)],
  [(yX8_rightOf, cX8_rightOf, 2, (some .int), false), (yX8_grow, cX8_grow, 2, (some .int), false), (yX8_turn, cX8_turn, 2, none, false), (yX8_close, cX8_close, 5, none, false), (yX8_nodesOf, cX8_nodesOf, 4, (some .int), false), (yX8_copy, cX8_copy, 5, none, false), (yX8_same, cX8_same, 6, (some .boolean), false), (yX8_numberAt, cX8_numberAt, 9, (some .int), false), (yX8_greatestOf, cX8_greatestOf, 2, (some .int), false), (yX8_greatest, cX8_greatest, 5, (some .int), false), (yX8_copyFrom, cX8_copyFrom, 2, none, false), (yX9_shareFrom, cX9_shareFrom, 6, none, false), (yX9_heightFrom, cX9_heightFrom, 7, none, false), (yX9_pushNumber, cX9_pushNumber, 4, none, false), (yX10_init, cX10_init, 1, none, true), (yX10_seed, cX10_seed, 1, none, false)],
  [(yX10_fork, cX10_fork, 6, (some .int), false), (yX10_event, cX10_event, 4, (some .int), false), (yX10_join, cX10_join, 5, (some .int), false), (yX10_peek, cX10_peek, 4, (some .int), false), (yX10_send, cX10_send, 4, (some .int), false), (yX10_take, cX10_take, 6, (some .int), false), (yX10_lose, cX10_lose, 2, (some .boolean), false), (yX10_home, cX10_home, 5, (some .int), false), (yX10_undo, cX10_undo, 1, (some .boolean), false), (yX10_relation, cX10_relation, 5, (some .int), false), (yX10_unseen, cX10_unseen, 3, (some .int), false), (yX10_meets, cX10_meets, 3, (some .boolean), false), (yX10_height, cX10_height, 5, (some .int), false), (yX10_owns, cX10_owns, 5, (some .boolean), false), (yX10_stamp, cX10_stamp, 3, (some .int), false), (yX10_witness, cX10_witness, 8, (some .boolean), false)],
  [(yX10_place, cX10_place, 1, (some .long), false), (yX10_digits, cX10_digits, 1, (some .int), false), (yX10_check, cX10_check, 9, (some .int), false), (yX10_pack, cX10_pack, 2, (some .int), false), (yX10_bit, cX10_bit, 2, (some .int), false), (yX10_add, cX10_add, 4, (some .int), false), (yX10_end, cX10_end, 2, (some .boolean), false), (yX10_read, cX10_read, 3, (some .int), false), (yX10_fault, cX10_fault, 1, (some .int), false), (yX10_image, cX10_image, 1, (some .boolean), false), (yX10_back, cX10_back, 1, (some .boolean), false), (yX10_count, cX10_count, 2, (some .int), false), (yX10_plant, cX10_plant, 1, none, false), (yX10_settle, cX10_settle, 5, (some .boolean), false), (yX10_canMelt, cX10_canMelt, 3, (some .boolean), false), (yX10_leads, cX10_leads, 3, (some .boolean), false)],
  [(yX10_makeEvent, cX10_makeEvent, 4, (some .int), false), (yX10_makeJoin, cX10_makeJoin, 6, (some .int), false), (yX10_makePeek, cX10_makePeek, 2, (some .int), false), (yX10_isAboveAt, cX10_isAboveAt, 6, (some .boolean), false), (yX10_draftOf, cX10_draftOf, 2, (some .int), false), (yX10_isPlace, cX10_isPlace, 3, (some .boolean), false), (yX11_init, cX11_init, 1, none, true), (yX11_seed, cX11_seed, 1, none, false), (yX11_is, cX11_is, 2, (some .boolean), false), (yX11_isAlive, cX11_isAlive, 2, (some .boolean), false), (yX11_owns, cX11_owns, 2, (some .boolean), false), (yX11_hasRoom, cX11_hasRoom, 3, (some .boolean), false), (yX11_make, cX11_make, 6, (some .int), false), (yX11_takeKnown, cX11_takeKnown, 3, none, false), (yX11_takeOwn, cX11_takeOwn, 3, none, false), (yX11_at, cX11_at, 6, (some .int), false)],
  [(yX11_behind, cX11_behind, 2, (some .long), false), (yX11_isFlat, cX11_isFlat, 5, (some .boolean), false), (yX11_most, cX11_most, 7, (some .int), false), (yX11_least, cX11_least, 7, (some .int), false), (yX11_lay, cX11_lay, 5, (some .int), false), (yX11_become, cX11_become, 3, none, false), (yX11_set, cX11_set, 13, none, false), (yX11_heightNodes, cX11_heightNodes, 5, (some .int), false), (yX11_part, cX11_part, 8, (some .int), false), (yX11_shareNodes, cX11_shareNodes, 5, (some .int), false), (yX11_cut, cX11_cut, 11, none, false), (yX11_note, cX11_note, 3, none, false), (yX11_spend, cX11_spend, 2, none, false), (yX11_fork, cX11_fork, 11, (some .int), false), (yX11_fill, cX11_fill, 12, none, false), (yX11_grow, cX11_grow, 14, (some .int), false)],
  [(yX11_happen, cX11_happen, 4, none, false), (yX11_mark, cX11_mark, 2, none, false), (yX11_event, cX11_event, 3, (some .int), false), (yX11_together, cX11_together, 12, none, false), (yX11_share, cX11_share, 10, none, false), (yX11_joined, cX11_joined, 5, (some .int), false), (yX11_join, cX11_join, 3, (some .int), false), (yX11_peek, cX11_peek, 2, (some .int), false), (yX11_send, cX11_send, 4, (some .int), false), (yX11_take, cX11_take, 7, (some .int), false), (yX11_lose, cX11_lose, 2, (some .boolean), false), (yX11_home, cX11_home, 4, (some .int), false), (yX11_undo, cX11_undo, 1, (some .boolean), false), (yX11_leads, cX11_leads, 11, (some .boolean), false), (yX11_relation, cX11_relation, 5, (some .int), false), (yX11_unseen, cX11_unseen, 5, (some .int), false)],
  [(yX11_meets, cX11_meets, 5, (some .boolean), false), (yX11_isPlace, cX11_isPlace, 3, (some .boolean), false), (yX11_heightAt, cX11_heightAt, 5, (some .int), false), (yX11_height, cX11_height, 5, (some .int), false), (yX11_owns_, cX11_owns_, 9, (some .boolean), false), (yX11_stamp, cX11_stamp, 3, (some .int), false), (yX11_history, cX11_history, 4, (some .int), false), (yX11_turn, cX11_turn, 16, (some .long), false), (yX11_witness, cX11_witness, 11, (some .boolean), false), (yX11_place, cX11_place, 1, (some .long), false), (yX11_digits, cX11_digits, 1, (some .int), false), (yX11_check, cX11_check, 13, (some .int), false), (yX11_bit, cX11_bit, 2, none, false), (yX11_number, cX11_number, 5, none, false), (yX11_writeShare, cX11_writeShare, 10, none, false), (yX11_writeHeight, cX11_writeHeight, 11, none, false)],
  [(yX11_written, cX11_written, 2, (some .int), false), (yX11_pack, cX11_pack, 2, (some .int), false), (yX11_bit_, cX11_bit_, 2, (some .int), false), (yX11_add, cX11_add, 5, (some .int), false), (yX11_end, cX11_end, 2, (some .boolean), false), (yX11_fails, cX11_fails, 2, none, false), (yX11_next, cX11_next, 1, (some .int), false), (yX11_readNumber, cX11_readNumber, 5, (some .int), false), (yX11_readShare, cX11_readShare, 7, (some .int), false), (yX11_readHeight, cX11_readHeight, 17, (some .int), false), (yX11_step, cX11_step, 4, (some .int), false), (yX11_read, cX11_read, 1, (some .int), false), (yX11_fault, cX11_fault, 1, (some .int), false), (yX11_image, cX11_image, 2, (some .boolean), false), (yX11_back, cX11_back, 2, (some .boolean), false), (yX11_count, cX11_count, 4, (some .int), false)],
  [(yJ13_bitCount_95d88, cJ13_bitCount_95d88, 2, (some .int), false), (yJ7_copyOf_59c91, cJ7_copyOf_59c91, 3, (some (.array .int)), false)]]
def dm_m0 : dm_Me := (yX0_init, cX0_init, 0, none, false)
def dm_tb (mi : Nat) : dm_Me := match dm_tbL[mi / 16]? with
  | some r => r.getD (mi % 16) dm_m0
  | none => dm_m0
theorem dt_1 {w : Cond} (h : w ∈ tables_1_1) : w ∈ tables_1 := List.mem_append_left _ h
theorem dt_2 {w : Cond} (h : w ∈ tables_1_2) : w ∈ tables_1 := List.mem_append_right _ (List.mem_append_left _ h)
theorem dt_3 {w : Cond} (h : w ∈ tables_1_3) : w ∈ tables_1 := List.mem_append_right _ (List.mem_append_right _ (List.mem_append_left _ h))
theorem dt_4 {w : Cond} (h : w ∈ tables_1_4) : w ∈ tables_1 := List.mem_append_right _ (List.mem_append_right _ (List.mem_append_right _ (List.mem_append_left _ h)))
theorem dt_5 {w : Cond} (h : w ∈ tables_1_5) : w ∈ tables_1 := List.mem_append_right _ (List.mem_append_right _ (List.mem_append_right _ (List.mem_append_right _ (List.mem_append_left _ h))))
theorem dt_6 {w : Cond} (h : w ∈ tables_1_6) : w ∈ tables_1 := List.mem_append_right _ (List.mem_append_right _ (List.mem_append_right _ (List.mem_append_right _ (List.mem_append_right _ (h)))))
def nf_X0 : List Value := [.null, .null, .null, .null, .null, .int 0]
theorem nv_X0 : ∀ j, j < 6 → defaultValue (tyX0 j) = vp_V nf_X0 j := by decide +kernel
theorem nz_X0 : ∀ b zb, nf_X0.map (dm_v b zb) = nf_X0 := fun _ _ => rfl
theorem iw_X0 : ∀ w ∈ u_ws RX0 TX0 6, w ∈ dm_W := by decide +kernel
def nf_X1 : List Value := [.null, .int 0]
theorem nv_X1 : ∀ j, j < 2 → defaultValue (tyX1 j) = vp_V nf_X1 j := by decide +kernel
theorem nz_X1 : ∀ b zb, nf_X1.map (dm_v b zb) = nf_X1 := fun _ _ => rfl
theorem iw_X1 : ∀ w ∈ u_ws RX1 TX1 2, w ∈ dm_W := by decide +kernel
def nf_X2 : List Value := [.null, .null, .null, .null, .null, .null, .null, .null, .null, .int 0]
theorem nv_X2 : ∀ j, j < 10 → defaultValue (tyX2 j) = vp_V nf_X2 j := by decide +kernel
theorem nz_X2 : ∀ b zb, nf_X2.map (dm_v b zb) = nf_X2 := fun _ _ => rfl
theorem iw_X2 : ∀ w ∈ u_ws RX2 TX2 10, w ∈ dm_W := by decide +kernel
def nf_X4 : List Value := [.int 0, .null]
theorem nv_X4 : ∀ j, j < 2 → defaultValue (tyX4 j) = vp_V nf_X4 j := by decide +kernel
theorem nz_X4 : ∀ b zb, nf_X4.map (dm_v b zb) = nf_X4 := fun _ _ => rfl
theorem iw_X4 : ∀ w ∈ u_ws RX4 TX4 2, w ∈ dm_W := by decide +kernel
def nf_X5 : List Value := [.null, .null]
theorem nv_X5 : ∀ j, j < 2 → defaultValue (tyX5 j) = vp_V nf_X5 j := by decide +kernel
theorem nz_X5 : ∀ b zb, nf_X5.map (dm_v b zb) = nf_X5 := fun _ _ => rfl
theorem iw_X5 : ∀ w ∈ u_ws RX5 TX5 2, w ∈ dm_W := by decide +kernel
def nf_X6 : List Value := [.null, .int 0, .int 0]
theorem nv_X6 : ∀ j, j < 3 → defaultValue (tyX6 j) = vp_V nf_X6 j := by decide +kernel
theorem nz_X6 : ∀ b zb, nf_X6.map (dm_v b zb) = nf_X6 := fun _ _ => rfl
theorem iw_X6 : ∀ w ∈ u_ws RX6 TX6 3, w ∈ dm_W := by decide +kernel
def nf_X8 : List Value := [.null, .null, .int 0]
theorem nv_X8 : ∀ j, j < 3 → defaultValue (tyX8 j) = vp_V nf_X8 j := by decide +kernel
theorem nz_X8 : ∀ b zb, nf_X8.map (dm_v b zb) = nf_X8 := fun _ _ => rfl
theorem iw_X8 : ∀ w ∈ u_ws RX8 TX8 3, w ∈ dm_W := by decide +kernel
def nf_X10 : List Value := [.null, .null, .null, .null, .null, .null, .null, .int 0, .int 0, .long 0, .int 0]
theorem nv_X10 : ∀ j, j < 11 → defaultValue (tyX10 j) = vp_V nf_X10 j := by decide +kernel
theorem nz_X10 : ∀ b zb, nf_X10.map (dm_v b zb) = nf_X10 := fun _ _ => rfl
theorem iw_X10 : ∀ w ∈ u_ws RX10 TX10 11, w ∈ dm_W := by decide +kernel
def nf_X11 : List Value := [.null, .null, .null, .null, .null, .null, .null, .null, .null, .null, .null, .null, .null, .null, .null, .int 0, .int 0, .int 0, .null, .null, .null, .null, .null, .null, .null, .null, .int 0, .null, .null, .int 0, .null, .null, .null, .null, .int 0, .null, .int 0, .int 0, .long 0, .int 0, .int 0, .int 0, .null, .null, .null, .null, .null, .null, .null, .null, .null, .null, .null, .null, .null, .null, .null, .int 0, .int 0, .int 0, .long 0, .long 0, .null, .null, .int 0, .int 0, .int 0, .int 0]
theorem nv_X11 : ∀ j, j < 68 → defaultValue (tyX11 j) = vp_V nf_X11 j := by decide +kernel
theorem nz_X11 : ∀ b zb, nf_X11.map (dm_v b zb) = nf_X11 := fun _ _ => rfl
theorem iw_X11 : ∀ w ∈ u_ws RX11 TX11 68, w ∈ dm_W := by decide +kernel
theorem wd_0 : Cond.selects RX10 yX10_plant yX10_plant ∈ dm_W := dm_in (List.mem_append_left _ (List.mem_of_getElem? (i := 0) (by decide +kernel))) (by decide +kernel)
theorem wd_1 : Cond.selects RX4 yX4_widen yX4_widen ∈ dm_W := dm_in (List.mem_append_left _ (List.mem_of_getElem? (i := 1) (by decide +kernel))) (by decide +kernel)
theorem wd_2 : Cond.selects RX10 yX10_settle yX10_settle ∈ dm_W := dm_in (List.mem_append_left _ (List.mem_of_getElem? (i := 2) (by decide +kernel))) (by decide +kernel)
theorem wd_3 : Cond.selects RX10 yX10_makeEvent yX10_makeEvent ∈ dm_W := dm_in (List.mem_append_left _ (List.mem_of_getElem? (i := 3) (by decide +kernel))) (by decide +kernel)
theorem wd_4 : Cond.selects RX10 yX10_canMelt yX10_canMelt ∈ dm_W := dm_in (List.mem_append_left _ (List.mem_of_getElem? (i := 4) (by decide +kernel))) (by decide +kernel)
theorem wd_5 : Cond.selects RX10 yX10_makeJoin yX10_makeJoin ∈ dm_W := dm_in (List.mem_append_left _ (List.mem_of_getElem? (i := 5) (by decide +kernel))) (by decide +kernel)
theorem wd_6 : Cond.selects RX10 yX10_makePeek yX10_makePeek ∈ dm_W := dm_in (List.mem_append_left _ (List.mem_of_getElem? (i := 6) (by decide +kernel))) (by decide +kernel)
theorem wd_7 : Cond.selects RX10 yX10_leads yX10_leads ∈ dm_W := dm_in (List.mem_append_left _ (List.mem_of_getElem? (i := 7) (by decide +kernel))) (by decide +kernel)
theorem wd_8 : Cond.selects RX10 yX10_draftOf yX10_draftOf ∈ dm_W := dm_in (List.mem_append_left _ (List.mem_of_getElem? (i := 8) (by decide +kernel))) (by decide +kernel)
theorem wd_9 : Cond.selects RX10 yX10_isAboveAt yX10_isAboveAt ∈ dm_W := dm_in (List.mem_append_left _ (List.mem_of_getElem? (i := 9) (by decide +kernel))) (by decide +kernel)
theorem wd_10 : Cond.selects RX6 yX6_blame yX6_blame ∈ dm_W := dm_in (List.mem_append_left _ (List.mem_of_getElem? (i := 10) (by decide +kernel))) (by decide +kernel)
theorem wd_11 : Cond.selects RX6 yX6_isFaulty yX6_isFaulty ∈ dm_W := dm_in (List.mem_append_left _ (List.mem_of_getElem? (i := 11) (by decide +kernel))) (by decide +kernel)
theorem wd_12 : Cond.selects RX6 yX6_twoBits yX6_twoBits ∈ dm_W := dm_in (List.mem_append_left _ (List.mem_of_getElem? (i := 12) (by decide +kernel))) (by decide +kernel)
theorem wd_13 : Cond.selects RX6 yX6_oneBit yX6_oneBit ∈ dm_W := dm_in (List.mem_append_left _ (List.mem_of_getElem? (i := 13) (by decide +kernel))) (by decide +kernel)
theorem wd_14 : Cond.selects RX6 yX6_numberHere yX6_numberHere ∈ dm_W := dm_in (List.mem_append_left _ (List.mem_of_getElem? (i := 14) (by decide +kernel))) (by decide +kernel)
theorem wd_16 : Cond.selects RX11 yX11_make yX11_make ∈ dm_W := dm_in (List.mem_append_left _ (List.mem_of_getElem? (i := 16) (by decide +kernel))) (by decide +kernel)
theorem wd_17 : Cond.selects RX11 yX11_shareNodes yX11_shareNodes ∈ dm_W := dm_in (List.mem_append_left _ (List.mem_of_getElem? (i := 17) (by decide +kernel))) (by decide +kernel)
theorem wd_18 : Cond.selects RX11 yX11_part yX11_part ∈ dm_W := dm_in (List.mem_append_left _ (List.mem_of_getElem? (i := 18) (by decide +kernel))) (by decide +kernel)
theorem wd_19 : Cond.selects RX11 yX11_heightNodes yX11_heightNodes ∈ dm_W := dm_in (List.mem_append_left _ (List.mem_of_getElem? (i := 19) (by decide +kernel))) (by decide +kernel)
theorem wd_20 : Cond.selects RX11 yX11_isFlat yX11_isFlat ∈ dm_W := dm_in (List.mem_append_left _ (List.mem_of_getElem? (i := 20) (by decide +kernel))) (by decide +kernel)
theorem wd_21 : Cond.selects RX11 yX11_at yX11_at ∈ dm_W := dm_in (List.mem_append_left _ (List.mem_of_getElem? (i := 21) (by decide +kernel))) (by decide +kernel)
theorem wd_22 : Cond.selects RX11 yX11_behind yX11_behind ∈ dm_W := dm_in (List.mem_append_left _ (List.mem_of_getElem? (i := 22) (by decide +kernel))) (by decide +kernel)
theorem wd_23 : Cond.selects RX11 yX11_isAlive yX11_isAlive ∈ dm_W := dm_in (List.mem_append_left _ (List.mem_of_getElem? (i := 23) (by decide +kernel))) (by decide +kernel)
theorem wd_24 : Cond.selects RX11 yX11_is yX11_is ∈ dm_W := dm_in (List.mem_append_left _ (List.mem_of_getElem? (i := 24) (by decide +kernel))) (by decide +kernel)
theorem wd_25 : Cond.selects RX11 yX11_owns yX11_owns ∈ dm_W := dm_in (List.mem_append_left _ (List.mem_of_getElem? (i := 25) (by decide +kernel))) (by decide +kernel)
theorem wd_26 : Cond.selects RX11 yX11_takeOwn yX11_takeOwn ∈ dm_W := dm_in (List.mem_append_left _ (List.mem_of_getElem? (i := 26) (by decide +kernel))) (by decide +kernel)
theorem wd_27 : Cond.selects RX11 yX11_cut yX11_cut ∈ dm_W := dm_in (List.mem_append_left _ (List.mem_of_getElem? (i := 27) (by decide +kernel))) (by decide +kernel)
theorem wd_28 : Cond.selects RX11 yX11_hasRoom yX11_hasRoom ∈ dm_W := dm_in (List.mem_append_left _ (List.mem_of_getElem? (i := 28) (by decide +kernel))) (by decide +kernel)
theorem wd_29 : Cond.selects RX11 yX11_note yX11_note ∈ dm_W := dm_in (List.mem_append_left _ (List.mem_of_getElem? (i := 29) (by decide +kernel))) (by decide +kernel)
theorem wd_30 : Cond.selects RX11 yX11_takeKnown yX11_takeKnown ∈ dm_W := dm_in (List.mem_append_left _ (List.mem_of_getElem? (i := 30) (by decide +kernel))) (by decide +kernel)
theorem wd_31 : Cond.selects RX11 yX11_spend yX11_spend ∈ dm_W := dm_in (List.mem_append_left _ (List.mem_of_getElem? (i := 31) (by decide +kernel))) (by decide +kernel)
theorem wd_32 : Cond.selects RX11 yX11_happen yX11_happen ∈ dm_W := dm_in (List.mem_append_left _ (List.mem_of_getElem? (i := 32) (by decide +kernel))) (by decide +kernel)
theorem wd_33 : Cond.selects RX11 yX11_fill yX11_fill ∈ dm_W := dm_in (List.mem_append_left _ (List.mem_of_getElem? (i := 33) (by decide +kernel))) (by decide +kernel)
theorem wd_34 : Cond.selects RX11 yX11_most yX11_most ∈ dm_W := dm_in (List.mem_append_left _ (List.mem_of_getElem? (i := 34) (by decide +kernel))) (by decide +kernel)
theorem wd_35 : Cond.selects RX11 yX11_set yX11_set ∈ dm_W := dm_in (List.mem_append_left _ (List.mem_of_getElem? (i := 35) (by decide +kernel))) (by decide +kernel)
theorem wd_36 : Cond.selects RX11 yX11_lay yX11_lay ∈ dm_W := dm_in (List.mem_append_left _ (List.mem_of_getElem? (i := 36) (by decide +kernel))) (by decide +kernel)
theorem wd_37 : Cond.selects RX11 yX11_become yX11_become ∈ dm_W := dm_in (List.mem_append_left _ (List.mem_of_getElem? (i := 37) (by decide +kernel))) (by decide +kernel)
theorem wd_38 : Cond.selects RX11 yX11_least yX11_least ∈ dm_W := dm_in (List.mem_append_left _ (List.mem_of_getElem? (i := 38) (by decide +kernel))) (by decide +kernel)
theorem wd_39 : Cond.selects RX11 yX11_grow yX11_grow ∈ dm_W := dm_in (List.mem_append_left _ (List.mem_of_getElem? (i := 39) (by decide +kernel))) (by decide +kernel)
theorem wd_40 : Cond.selects RX11 yX11_mark yX11_mark ∈ dm_W := dm_in (List.mem_append_left _ (List.mem_of_getElem? (i := 40) (by decide +kernel))) (by decide +kernel)
theorem wd_41 : Cond.selects RX11 yX11_joined yX11_joined ∈ dm_W := dm_in (List.mem_append_left _ (List.mem_of_getElem? (i := 41) (by decide +kernel))) (by decide +kernel)
theorem wd_42 : Cond.selects RX11 yX11_together yX11_together ∈ dm_W := dm_in (List.mem_append_left _ (List.mem_of_getElem? (i := 42) (by decide +kernel))) (by decide +kernel)
theorem wd_43 : Cond.selects RX11 yX11_share yX11_share ∈ dm_W := dm_in (List.mem_append_left _ (List.mem_of_getElem? (i := 43) (by decide +kernel))) (by decide +kernel)
theorem wd_44 : Cond.selects RX11 yX11_leads yX11_leads ∈ dm_W := dm_in (List.mem_append_left _ (List.mem_of_getElem? (i := 44) (by decide +kernel))) (by decide +kernel)
theorem wd_45 : Cond.selects RX11 yX11_heightAt yX11_heightAt ∈ dm_W := dm_in (List.mem_append_left _ (List.mem_of_getElem? (i := 45) (by decide +kernel))) (by decide +kernel)
theorem wd_46 : Cond.selects RX11 yX11_written yX11_written ∈ dm_W := dm_in (List.mem_append_left _ (List.mem_of_getElem? (i := 46) (by decide +kernel))) (by decide +kernel)
theorem wd_47 : Cond.selects RX11 yX11_writeShare yX11_writeShare ∈ dm_W := dm_in (List.mem_append_left _ (List.mem_of_getElem? (i := 47) (by decide +kernel))) (by decide +kernel)
theorem wd_48 : Cond.selects RX11 yX11_bit yX11_bit ∈ dm_W := dm_in (List.mem_append_left _ (List.mem_of_getElem? (i := 48) (by decide +kernel))) (by decide +kernel)
theorem wd_49 : Cond.selects RX11 yX11_writeHeight yX11_writeHeight ∈ dm_W := dm_in (List.mem_append_left _ (List.mem_of_getElem? (i := 49) (by decide +kernel))) (by decide +kernel)
theorem wd_50 : Cond.selects RX11 yX11_number yX11_number ∈ dm_W := dm_in (List.mem_append_left _ (List.mem_of_getElem? (i := 50) (by decide +kernel))) (by decide +kernel)
theorem wd_51 : Cond.selects RX11 yX11_history yX11_history ∈ dm_W := dm_in (List.mem_append_left _ (List.mem_of_getElem? (i := 51) (by decide +kernel))) (by decide +kernel)
theorem wd_52 : Cond.selects RX11 yX11_turn yX11_turn ∈ dm_W := dm_in (List.mem_append_left _ (List.mem_of_getElem? (i := 52) (by decide +kernel))) (by decide +kernel)
theorem wd_53 : Cond.selects RX11 yX11_readShare yX11_readShare ∈ dm_W := dm_in (List.mem_append_left _ (List.mem_of_getElem? (i := 53) (by decide +kernel))) (by decide +kernel)
theorem wd_54 : Cond.selects RX11 yX11_fails yX11_fails ∈ dm_W := dm_in (List.mem_append_left _ (List.mem_of_getElem? (i := 54) (by decide +kernel))) (by decide +kernel)
theorem wd_55 : Cond.selects RX11 yX11_next yX11_next ∈ dm_W := dm_in (List.mem_append_left _ (List.mem_of_getElem? (i := 55) (by decide +kernel))) (by decide +kernel)
theorem wd_56 : Cond.selects RX11 yX11_readHeight yX11_readHeight ∈ dm_W := dm_in (List.mem_append_left _ (List.mem_of_getElem? (i := 56) (by decide +kernel))) (by decide +kernel)
theorem wd_57 : Cond.selects RX11 yX11_readNumber yX11_readNumber ∈ dm_W := dm_in (List.mem_append_left _ (List.mem_of_getElem? (i := 57) (by decide +kernel))) (by decide +kernel)
theorem wd_58 : Cond.selects RX11 yX11_step yX11_step ∈ dm_W := dm_in (List.mem_append_left _ (List.mem_of_getElem? (i := 58) (by decide +kernel))) (by decide +kernel)
theorem wd_60 : Cond.initialized RX10 ∈ dm_W := dm_in (List.mem_append_right _ (dt_1 (List.mem_of_getElem? (i := 1) (by decide +kernel)))) (by decide +kernel)
theorem wd_61 : Cond.initialized RX2 ∈ dm_W := dm_in (List.mem_append_right _ (dt_1 (List.mem_of_getElem? (i := 2) (by decide +kernel)))) (by decide +kernel)
theorem wd_62 : Cond.initialized RX8 ∈ dm_W := dm_in (List.mem_append_right _ (dt_1 (List.mem_of_getElem? (i := 3) (by decide +kernel)))) (by decide +kernel)
theorem wd_63 : Cond.initialized RX4 ∈ dm_W := dm_in (List.mem_append_right _ (dt_1 (List.mem_of_getElem? (i := 4) (by decide +kernel)))) (by decide +kernel)
theorem wd_64 : Cond.initialized RJ9 ∈ dm_W := dm_in (List.mem_append_right _ (dt_1 (List.mem_of_getElem? (i := 5) (by decide +kernel)))) (by decide +kernel)
theorem wd_65 : Cond.initialized RX0 ∈ dm_W := dm_in (List.mem_append_right _ (dt_1 (List.mem_of_getElem? (i := 6) (by decide +kernel)))) (by decide +kernel)
theorem wd_66 : Cond.initialized RX5 ∈ dm_W := dm_in (List.mem_append_right _ (dt_1 (List.mem_of_getElem? (i := 7) (by decide +kernel)))) (by decide +kernel)
theorem wd_67 : Cond.initialized RX1 ∈ dm_W := dm_in (List.mem_append_right _ (dt_1 (List.mem_of_getElem? (i := 8) (by decide +kernel)))) (by decide +kernel)
theorem wd_68 : Cond.initialized RX6 ∈ dm_W := dm_in (List.mem_append_right _ (dt_1 (List.mem_of_getElem? (i := 9) (by decide +kernel)))) (by decide +kernel)
theorem wd_69 : Cond.initialized RJ7 ∈ dm_W := dm_in (List.mem_append_right _ (dt_1 (List.mem_of_getElem? (i := 10) (by decide +kernel)))) (by decide +kernel)
theorem wd_70 : Cond.initialized RJ10 ∈ dm_W := dm_in (List.mem_append_right _ (dt_1 (List.mem_of_getElem? (i := 11) (by decide +kernel)))) (by decide +kernel)
theorem wd_71 : Cond.initialized RX11 ∈ dm_W := dm_in (List.mem_append_right _ (dt_1 (List.mem_of_getElem? (i := 12) (by decide +kernel)))) (by decide +kernel)
theorem wd_72 : Cond.initialized RX3 ∈ dm_W := dm_in (List.mem_append_right _ (dt_1 (List.mem_of_getElem? (i := 13) (by decide +kernel)))) (by decide +kernel)
theorem wd_73 : Cond.initialized RX7 ∈ dm_W := dm_in (List.mem_append_right _ (dt_1 (List.mem_of_getElem? (i := 14) (by decide +kernel)))) (by decide +kernel)
theorem wd_74 : Cond.initialized RJ13 ∈ dm_W := dm_in (List.mem_append_right _ (dt_1 (List.mem_of_getElem? (i := 15) (by decide +kernel)))) (by decide +kernel)
theorem wd_79 : Cond.initialized RX9 ∈ dm_W := dm_in (List.mem_append_right _ (dt_1 (List.mem_of_getElem? (i := 20) (by decide +kernel)))) (by decide +kernel)
theorem wd_84 : Cond.code yX10_init cX10_init 1 none ∈ dm_W := dm_in (List.mem_append_right _ (dt_1 (List.mem_of_getElem? (i := 25) (by decide +kernel)))) (by decide +kernel)
theorem wd_85 : Cond.methodLink RX10 1 Lib.objectInit ∈ dm_W := dm_in (List.mem_append_right _ (dt_1 (List.mem_of_getElem? (i := 26) (by decide +kernel)))) (by decide +kernel)
theorem wd_86 : Cond.instanceMethod Lib.objectInit ∈ dm_W := dm_in (List.mem_append_right _ (dt_1 (List.mem_of_getElem? (i := 27) (by decide +kernel)))) (by decide +kernel)
theorem wd_87 : Cond.code Lib.objectInit ⟨#[0xb1]⟩ 1 none ∈ dm_W := dm_in (List.mem_append_right _ (dt_1 (List.mem_of_getElem? (i := 28) (by decide +kernel)))) (by decide +kernel)
theorem wd_88 : Cond.classLink RX10 7 RX2 ∈ dm_W := dm_in (List.mem_append_right _ (dt_1 (List.mem_of_getElem? (i := 29) (by decide +kernel)))) (by decide +kernel)
theorem wd_89 : Cond.instantiable RX2 10 ∈ dm_W := dm_in (List.mem_append_right _ (dt_1 (List.mem_of_getElem? (i := 30) (by decide +kernel)))) (by decide +kernel)
theorem wd_91 : Cond.instanceMethod yX2_init ∈ dm_W := dm_in (List.mem_append_right _ (dt_1 (List.mem_of_getElem? (i := 32) (by decide +kernel)))) (by decide +kernel)
theorem wd_92 : Cond.code yX2_init cX2_init 1 none ∈ dm_W := dm_in (List.mem_append_right _ (dt_1 (List.mem_of_getElem? (i := 33) (by decide +kernel)))) (by decide +kernel)
theorem wd_93 : Cond.methodLink RX2 3 Lib.objectInit ∈ dm_W := dm_in (List.mem_append_right _ (dt_1 (List.mem_of_getElem? (i := 34) (by decide +kernel)))) (by decide +kernel)
theorem wd_94 : Cond.classLink RX2 9 RX8 ∈ dm_W := dm_in (List.mem_append_right _ (dt_1 (List.mem_of_getElem? (i := 35) (by decide +kernel)))) (by decide +kernel)
theorem wd_95 : Cond.instantiable RX8 3 ∈ dm_W := dm_in (List.mem_append_right _ (dt_1 (List.mem_of_getElem? (i := 36) (by decide +kernel)))) (by decide +kernel)
theorem wd_97 : Cond.instanceMethod yX8_init ∈ dm_W := dm_in (List.mem_append_right _ (dt_1 (List.mem_of_getElem? (i := 38) (by decide +kernel)))) (by decide +kernel)
theorem wd_98 : Cond.code yX8_init cX8_init 1 none ∈ dm_W := dm_in (List.mem_append_right _ (dt_1 (List.mem_of_getElem? (i := 39) (by decide +kernel)))) (by decide +kernel)
theorem wd_99 : Cond.methodLink RX8 3 Lib.objectInit ∈ dm_W := dm_in (List.mem_append_right _ (dt_1 (List.mem_of_getElem? (i := 40) (by decide +kernel)))) (by decide +kernel)
theorem wd_100 : Cond.classLink RX8 9 RX4 ∈ dm_W := dm_in (List.mem_append_right _ (dt_1 (List.mem_of_getElem? (i := 41) (by decide +kernel)))) (by decide +kernel)
theorem wd_101 : Cond.instantiable RX4 2 ∈ dm_W := dm_in (List.mem_append_right _ (dt_1 (List.mem_of_getElem? (i := 42) (by decide +kernel)))) (by decide +kernel)
theorem wd_102 : Cond.constant RX8 13 (41000) ∈ dm_W := dm_in (List.mem_append_right _ (dt_1 (List.mem_of_getElem? (i := 43) (by decide +kernel)))) (by decide +kernel)
theorem wd_103 : Cond.methodLink RX8 14 yX4_init ∈ dm_W := dm_in (List.mem_append_right _ (dt_1 (List.mem_of_getElem? (i := 44) (by decide +kernel)))) (by decide +kernel)
theorem wd_104 : Cond.instanceMethod yX4_init ∈ dm_W := dm_in (List.mem_append_right _ (dt_1 (List.mem_of_getElem? (i := 45) (by decide +kernel)))) (by decide +kernel)
theorem wd_105 : Cond.code yX4_init cX4_init 2 none ∈ dm_W := dm_in (List.mem_append_right _ (dt_1 (List.mem_of_getElem? (i := 46) (by decide +kernel)))) (by decide +kernel)
theorem wd_106 : Cond.methodLink RX4 1 Lib.objectInit ∈ dm_W := dm_in (List.mem_append_right _ (dt_1 (List.mem_of_getElem? (i := 47) (by decide +kernel)))) (by decide +kernel)
theorem wd_107 : Cond.methodLink RX4 9 Lib.Math.max.name ∈ dm_W := dm_in (List.mem_append_right _ (dt_1 (List.mem_of_getElem? (i := 48) (by decide +kernel)))) (by decide +kernel)
theorem wd_108 : Cond.static Lib.Math.max.name ∈ dm_W := dm_in (List.mem_append_right _ (dt_1 (List.mem_of_getElem? (i := 49) (by decide +kernel)))) (by decide +kernel)
theorem wd_109 : Cond.code Lib.Math.max.name Lib.Math.max.code 2 (some .int) ∈ dm_W := dm_in (List.mem_append_right _ (dt_1 (List.mem_of_getElem? (i := 50) (by decide +kernel)))) (by decide +kernel)
theorem wd_110 : Cond.fieldLink RX4 15 "SplitClocks$Numbers" "most" "I" ∈ dm_W := dm_in (List.mem_append_right _ (dt_1 (List.mem_of_getElem? (i := 51) (by decide +kernel)))) (by decide +kernel)
theorem wd_111 : Cond.fieldLink RX4 19 "SplitClocks$Numbers" "cells" "[I" ∈ dm_W := dm_in (List.mem_append_right _ (dt_1 (List.mem_of_getElem? (i := 52) (by decide +kernel)))) (by decide +kernel)
theorem wd_117 : Cond.arrayClass .int ∈ dm_W := dm_in (List.mem_append_right _ (dt_1 (List.mem_of_getElem? (i := 58) (by decide +kernel)))) (by decide +kernel)
theorem wd_118 : Cond.fieldLink RX8 17 "SplitClocks$Trees" "number" "LSplitClocks$Numbers;" ∈ dm_W := dm_in (List.mem_append_right _ (dt_1 (List.mem_of_getElem? (i := 59) (by decide +kernel)))) (by decide +kernel)
theorem wd_119 : Cond.fieldLink RX8 21 "SplitClocks$Trees" "far" "LSplitClocks$Numbers;" ∈ dm_W := dm_in (List.mem_append_right _ (dt_1 (List.mem_of_getElem? (i := 60) (by decide +kernel)))) (by decide +kernel)
theorem wd_120 : Cond.fieldLink RX8 24 "SplitClocks$Trees" "top" "I" ∈ dm_W := dm_in (List.mem_append_right _ (dt_1 (List.mem_of_getElem? (i := 61) (by decide +kernel)))) (by decide +kernel)
theorem wd_128 : Cond.classLink RX2 18 RX4 ∈ dm_W := dm_in (List.mem_append_right _ (dt_1 (List.mem_of_getElem? (i := 69) (by decide +kernel)))) (by decide +kernel)
theorem wd_129 : Cond.methodLink RX2 20 yX4_init ∈ dm_W := dm_in (List.mem_append_right _ (dt_1 (List.mem_of_getElem? (i := 70) (by decide +kernel)))) (by decide +kernel)
theorem wd_130 : Cond.fieldLink RX2 12 "SplitClocks$Book" "trees" "LSplitClocks$Trees;" ∈ dm_W := dm_in (List.mem_append_right _ (dt_1 (List.mem_of_getElem? (i := 71) (by decide +kernel)))) (by decide +kernel)
theorem wd_131 : Cond.fieldLink RX10 63 "SplitClocks$Book" "trees" "LSplitClocks$Trees;" ∈ dm_W := dm_in (List.mem_append_right _ (dt_1 (List.mem_of_getElem? (i := 72) (by decide +kernel)))) (by decide +kernel)
theorem wd_132 : Cond.fieldLink RX2 23 "SplitClocks$Book" "own" "LSplitClocks$Numbers;" ∈ dm_W := dm_in (List.mem_append_right _ (dt_1 (List.mem_of_getElem? (i := 73) (by decide +kernel)))) (by decide +kernel)
theorem wd_133 : Cond.fieldLink RX2 27 "SplitClocks$Book" "known" "LSplitClocks$Numbers;" ∈ dm_W := dm_in (List.mem_append_right _ (dt_1 (List.mem_of_getElem? (i := 74) (by decide +kernel)))) (by decide +kernel)
theorem wd_134 : Cond.fieldLink RX2 30 "SplitClocks$Book" "how" "LSplitClocks$Numbers;" ∈ dm_W := dm_in (List.mem_append_right _ (dt_1 (List.mem_of_getElem? (i := 75) (by decide +kernel)))) (by decide +kernel)
theorem wd_135 : Cond.fieldLink RX2 33 "SplitClocks$Book" "first" "LSplitClocks$Numbers;" ∈ dm_W := dm_in (List.mem_append_right _ (dt_1 (List.mem_of_getElem? (i := 76) (by decide +kernel)))) (by decide +kernel)
theorem wd_136 : Cond.fieldLink RX2 36 "SplitClocks$Book" "second" "LSplitClocks$Numbers;" ∈ dm_W := dm_in (List.mem_append_right _ (dt_1 (List.mem_of_getElem? (i := 77) (by decide +kernel)))) (by decide +kernel)
theorem wd_137 : Cond.fieldLink RX2 39 "SplitClocks$Book" "state" "LSplitClocks$Numbers;" ∈ dm_W := dm_in (List.mem_append_right _ (dt_1 (List.mem_of_getElem? (i := 78) (by decide +kernel)))) (by decide +kernel)
theorem wd_138 : Cond.fieldLink RX2 42 "SplitClocks$Book" "nodesTill" "LSplitClocks$Numbers;" ∈ dm_W := dm_in (List.mem_append_right _ (dt_1 (List.mem_of_getElem? (i := 79) (by decide +kernel)))) (by decide +kernel)
theorem wd_139 : Cond.fieldLink RX2 45 "SplitClocks$Book" "topTill" "LSplitClocks$Numbers;" ∈ dm_W := dm_in (List.mem_append_right _ (dt_1 (List.mem_of_getElem? (i := 80) (by decide +kernel)))) (by decide +kernel)
theorem wd_140 : Cond.fieldLink RX2 48 "SplitClocks$Book" "size" "I" ∈ dm_W := dm_in (List.mem_append_right _ (dt_1 (List.mem_of_getElem? (i := 81) (by decide +kernel)))) (by decide +kernel)
theorem wd_162 : Cond.classLink RX10 19 RX0 ∈ dm_W := dm_in (List.mem_append_right _ (dt_1 (List.mem_of_getElem? (i := 103) (by decide +kernel)))) (by decide +kernel)
theorem wd_163 : Cond.instantiable RX0 6 ∈ dm_W := dm_in (List.mem_append_right _ (dt_1 (List.mem_of_getElem? (i := 104) (by decide +kernel)))) (by decide +kernel)
theorem wd_165 : Cond.instanceMethod yX0_init ∈ dm_W := dm_in (List.mem_append_right _ (dt_1 (List.mem_of_getElem? (i := 106) (by decide +kernel)))) (by decide +kernel)
theorem wd_166 : Cond.code yX0_init cX0_init 1 none ∈ dm_W := dm_in (List.mem_append_right _ (dt_1 (List.mem_of_getElem? (i := 107) (by decide +kernel)))) (by decide +kernel)
theorem wd_167 : Cond.methodLink RX0 3 Lib.objectInit ∈ dm_W := dm_in (List.mem_append_right _ (dt_1 (List.mem_of_getElem? (i := 108) (by decide +kernel)))) (by decide +kernel)
theorem wd_168 : Cond.classLink RX0 9 RX4 ∈ dm_W := dm_in (List.mem_append_right _ (dt_1 (List.mem_of_getElem? (i := 109) (by decide +kernel)))) (by decide +kernel)
theorem wd_169 : Cond.methodLink RX0 13 yX4_init ∈ dm_W := dm_in (List.mem_append_right _ (dt_1 (List.mem_of_getElem? (i := 110) (by decide +kernel)))) (by decide +kernel)
theorem wd_170 : Cond.fieldLink RX0 16 "SplitClocks$Acts" "stamps" "LSplitClocks$Numbers;" ∈ dm_W := dm_in (List.mem_append_right _ (dt_1 (List.mem_of_getElem? (i := 111) (by decide +kernel)))) (by decide +kernel)
theorem wd_171 : Cond.fieldLink RX0 20 "SplitClocks$Acts" "one" "LSplitClocks$Numbers;" ∈ dm_W := dm_in (List.mem_append_right _ (dt_1 (List.mem_of_getElem? (i := 112) (by decide +kernel)))) (by decide +kernel)
theorem wd_172 : Cond.fieldLink RX0 23 "SplitClocks$Acts" "stateOfOne" "LSplitClocks$Numbers;" ∈ dm_W := dm_in (List.mem_append_right _ (dt_1 (List.mem_of_getElem? (i := 113) (by decide +kernel)))) (by decide +kernel)
theorem wd_173 : Cond.fieldLink RX0 26 "SplitClocks$Acts" "other" "LSplitClocks$Numbers;" ∈ dm_W := dm_in (List.mem_append_right _ (dt_1 (List.mem_of_getElem? (i := 114) (by decide +kernel)))) (by decide +kernel)
theorem wd_174 : Cond.fieldLink RX0 29 "SplitClocks$Acts" "stateOfOther" "LSplitClocks$Numbers;" ∈ dm_W := dm_in (List.mem_append_right _ (dt_1 (List.mem_of_getElem? (i := 115) (by decide +kernel)))) (by decide +kernel)
theorem wd_175 : Cond.fieldLink RX0 32 "SplitClocks$Acts" "size" "I" ∈ dm_W := dm_in (List.mem_append_right _ (dt_1 (List.mem_of_getElem? (i := 116) (by decide +kernel)))) (by decide +kernel)
theorem wd_189 : Cond.classLink RX10 26 RX5 ∈ dm_W := dm_in (List.mem_append_right _ (dt_1 (List.mem_of_getElem? (i := 130) (by decide +kernel)))) (by decide +kernel)
theorem wd_190 : Cond.instantiable RX5 2 ∈ dm_W := dm_in (List.mem_append_right _ (dt_1 (List.mem_of_getElem? (i := 131) (by decide +kernel)))) (by decide +kernel)
theorem wd_192 : Cond.instanceMethod yX5_init ∈ dm_W := dm_in (List.mem_append_right _ (dt_1 (List.mem_of_getElem? (i := 133) (by decide +kernel)))) (by decide +kernel)
theorem wd_193 : Cond.code yX5_init cX5_init 1 none ∈ dm_W := dm_in (List.mem_append_right _ (dt_1 (List.mem_of_getElem? (i := 134) (by decide +kernel)))) (by decide +kernel)
theorem wd_194 : Cond.methodLink RX5 3 Lib.objectInit ∈ dm_W := dm_in (List.mem_append_right _ (dt_1 (List.mem_of_getElem? (i := 135) (by decide +kernel)))) (by decide +kernel)
theorem wd_195 : Cond.classLink RX5 9 RX4 ∈ dm_W := dm_in (List.mem_append_right _ (dt_1 (List.mem_of_getElem? (i := 136) (by decide +kernel)))) (by decide +kernel)
theorem wd_196 : Cond.methodLink RX5 11 yX4_init ∈ dm_W := dm_in (List.mem_append_right _ (dt_1 (List.mem_of_getElem? (i := 137) (by decide +kernel)))) (by decide +kernel)
theorem wd_197 : Cond.fieldLink RX5 14 "SplitClocks$Past" "mine" "LSplitClocks$Numbers;" ∈ dm_W := dm_in (List.mem_append_right _ (dt_1 (List.mem_of_getElem? (i := 138) (by decide +kernel)))) (by decide +kernel)
theorem wd_198 : Cond.fieldLink RX5 20 "SplitClocks$Past" "others" "LSplitClocks$Numbers;" ∈ dm_W := dm_in (List.mem_append_right _ (dt_1 (List.mem_of_getElem? (i := 139) (by decide +kernel)))) (by decide +kernel)
theorem wd_204 : Cond.classLink RX10 33 RX1 ∈ dm_W := dm_in (List.mem_append_right _ (dt_1 (List.mem_of_getElem? (i := 145) (by decide +kernel)))) (by decide +kernel)
theorem wd_205 : Cond.instantiable RX1 2 ∈ dm_W := dm_in (List.mem_append_right _ (dt_1 (List.mem_of_getElem? (i := 146) (by decide +kernel)))) (by decide +kernel)
theorem wd_207 : Cond.instanceMethod yX1_init ∈ dm_W := dm_in (List.mem_append_right _ (dt_1 (List.mem_of_getElem? (i := 148) (by decide +kernel)))) (by decide +kernel)
theorem wd_208 : Cond.code yX1_init cX1_init 1 none ∈ dm_W := dm_in (List.mem_append_right _ (dt_1 (List.mem_of_getElem? (i := 149) (by decide +kernel)))) (by decide +kernel)
theorem wd_209 : Cond.methodLink RX1 3 Lib.objectInit ∈ dm_W := dm_in (List.mem_append_right _ (dt_1 (List.mem_of_getElem? (i := 150) (by decide +kernel)))) (by decide +kernel)
theorem wd_210 : Cond.classLink RX1 9 RX4 ∈ dm_W := dm_in (List.mem_append_right _ (dt_1 (List.mem_of_getElem? (i := 151) (by decide +kernel)))) (by decide +kernel)
theorem wd_211 : Cond.methodLink RX1 11 yX4_init ∈ dm_W := dm_in (List.mem_append_right _ (dt_1 (List.mem_of_getElem? (i := 152) (by decide +kernel)))) (by decide +kernel)
theorem wd_212 : Cond.fieldLink RX1 14 "SplitClocks$Bits" "cells" "LSplitClocks$Numbers;" ∈ dm_W := dm_in (List.mem_append_right _ (dt_1 (List.mem_of_getElem? (i := 153) (by decide +kernel)))) (by decide +kernel)
theorem wd_213 : Cond.fieldLink RX1 20 "SplitClocks$Bits" "size" "I" ∈ dm_W := dm_in (List.mem_append_right _ (dt_1 (List.mem_of_getElem? (i := 154) (by decide +kernel)))) (by decide +kernel)
theorem wd_219 : Cond.classLink RX10 43 RX6 ∈ dm_W := dm_in (List.mem_append_right _ (dt_1 (List.mem_of_getElem? (i := 160) (by decide +kernel)))) (by decide +kernel)
theorem wd_220 : Cond.instantiable RX6 3 ∈ dm_W := dm_in (List.mem_append_right _ (dt_1 (List.mem_of_getElem? (i := 161) (by decide +kernel)))) (by decide +kernel)
theorem wd_221 : Cond.methodLink RX10 45 yX6_init ∈ dm_W := dm_in (List.mem_append_right _ (dt_1 (List.mem_of_getElem? (i := 162) (by decide +kernel)))) (by decide +kernel)
theorem wd_222 : Cond.instanceMethod yX6_init ∈ dm_W := dm_in (List.mem_append_right _ (dt_1 (List.mem_of_getElem? (i := 163) (by decide +kernel)))) (by decide +kernel)
theorem wd_223 : Cond.code yX6_init cX6_init 2 none ∈ dm_W := dm_in (List.mem_append_right _ (dt_1 (List.mem_of_getElem? (i := 164) (by decide +kernel)))) (by decide +kernel)
theorem wd_224 : Cond.methodLink RX6 3 Lib.objectInit ∈ dm_W := dm_in (List.mem_append_right _ (dt_1 (List.mem_of_getElem? (i := 165) (by decide +kernel)))) (by decide +kernel)
theorem wd_225 : Cond.fieldLink RX6 9 "SplitClocks$Reader" "from" "LSplitClocks$Bits;" ∈ dm_W := dm_in (List.mem_append_right _ (dt_1 (List.mem_of_getElem? (i := 166) (by decide +kernel)))) (by decide +kernel)
theorem wd_226 : Cond.fieldLink RX6 15 "SplitClocks$Reader" "next" "I" ∈ dm_W := dm_in (List.mem_append_right _ (dt_1 (List.mem_of_getElem? (i := 167) (by decide +kernel)))) (by decide +kernel)
theorem wd_227 : Cond.fieldLink RX6 19 "SplitClocks$Reader" "faultAt" "I" ∈ dm_W := dm_in (List.mem_append_right _ (dt_1 (List.mem_of_getElem? (i := 168) (by decide +kernel)))) (by decide +kernel)
theorem wd_235 : Cond.methodLink RX10 56 yX10_plant ∈ dm_W := dm_in (List.mem_append_right _ (dt_1 (List.mem_of_getElem? (i := 176) (by decide +kernel)))) (by decide +kernel)
theorem wd_237 : Cond.instanceMethod yX10_plant ∈ dm_W := dm_in (List.mem_append_right _ (dt_1 (List.mem_of_getElem? (i := 178) (by decide +kernel)))) (by decide +kernel)
theorem wd_238 : Cond.code yX10_plant cX10_plant 1 none ∈ dm_W := dm_in (List.mem_append_right _ (dt_1 (List.mem_of_getElem? (i := 179) (by decide +kernel)))) (by decide +kernel)
theorem wd_239 : Cond.methodLink RX10 253 yX2_clear ∈ dm_W := dm_in (List.mem_append_right _ (dt_1 (List.mem_of_getElem? (i := 180) (by decide +kernel)))) (by decide +kernel)
theorem wd_240 : Cond.instanceMethod yX2_clear ∈ dm_W := dm_in (List.mem_append_right _ (dt_1 (List.mem_of_getElem? (i := 181) (by decide +kernel)))) (by decide +kernel)
theorem wd_241 : Cond.selects RX2 yX2_clear yX2_clear ∈ dm_W := dm_in (List.mem_append_right _ (dt_1 (List.mem_of_getElem? (i := 182) (by decide +kernel)))) (by decide +kernel)
theorem wd_242 : Cond.code yX2_clear cX2_clear 1 none ∈ dm_W := dm_in (List.mem_append_right _ (dt_1 (List.mem_of_getElem? (i := 183) (by decide +kernel)))) (by decide +kernel)
theorem wd_243 : Cond.methodLink RX2 52 yX8_clear ∈ dm_W := dm_in (List.mem_append_right _ (dt_1 (List.mem_of_getElem? (i := 184) (by decide +kernel)))) (by decide +kernel)
theorem wd_244 : Cond.instanceMethod yX8_clear ∈ dm_W := dm_in (List.mem_append_right _ (dt_1 (List.mem_of_getElem? (i := 185) (by decide +kernel)))) (by decide +kernel)
theorem wd_245 : Cond.selects RX8 yX8_clear yX8_clear ∈ dm_W := dm_in (List.mem_append_right _ (dt_1 (List.mem_of_getElem? (i := 186) (by decide +kernel)))) (by decide +kernel)
theorem wd_246 : Cond.code yX8_clear cX8_clear 1 none ∈ dm_W := dm_in (List.mem_append_right _ (dt_1 (List.mem_of_getElem? (i := 187) (by decide +kernel)))) (by decide +kernel)
theorem wd_247 : Cond.methodLink RX8 28 yX8_grow ∈ dm_W := dm_in (List.mem_append_right _ (dt_1 (List.mem_of_getElem? (i := 188) (by decide +kernel)))) (by decide +kernel)
theorem wd_248 : Cond.instanceMethod yX8_grow ∈ dm_W := dm_in (List.mem_append_right _ (dt_1 (List.mem_of_getElem? (i := 189) (by decide +kernel)))) (by decide +kernel)
theorem wd_249 : Cond.selects RX8 yX8_grow yX8_grow ∈ dm_W := dm_in (List.mem_append_right _ (dt_1 (List.mem_of_getElem? (i := 190) (by decide +kernel)))) (by decide +kernel)
theorem wd_250 : Cond.code yX8_grow cX8_grow 2 (some .int) ∈ dm_W := dm_in (List.mem_append_right _ (dt_1 (List.mem_of_getElem? (i := 191) (by decide +kernel)))) (by decide +kernel)
theorem wd_251 : Cond.methodLink RX8 35 yX4_put ∈ dm_W := dm_in (List.mem_append_right _ (dt_1 (List.mem_of_getElem? (i := 192) (by decide +kernel)))) (by decide +kernel)
theorem wd_252 : Cond.instanceMethod yX4_put ∈ dm_W := dm_in (List.mem_append_right _ (dt_1 (List.mem_of_getElem? (i := 193) (by decide +kernel)))) (by decide +kernel)
theorem wd_253 : Cond.selects RX4 yX4_put yX4_put ∈ dm_W := dm_in (List.mem_append_right _ (dt_1 (List.mem_of_getElem? (i := 194) (by decide +kernel)))) (by decide +kernel)
theorem wd_254 : Cond.code yX4_put cX4_put 3 none ∈ dm_W := dm_in (List.mem_append_right _ (dt_1 (List.mem_of_getElem? (i := 195) (by decide +kernel)))) (by decide +kernel)
theorem wd_255 : Cond.methodLink RX4 23 yX4_widen ∈ dm_W := dm_in (List.mem_append_right _ (dt_1 (List.mem_of_getElem? (i := 196) (by decide +kernel)))) (by decide +kernel)
theorem wd_257 : Cond.instanceMethod yX4_widen ∈ dm_W := dm_in (List.mem_append_right _ (dt_1 (List.mem_of_getElem? (i := 198) (by decide +kernel)))) (by decide +kernel)
theorem wd_258 : Cond.code yX4_widen cX4_widen 3 none ∈ dm_W := dm_in (List.mem_append_right _ (dt_1 (List.mem_of_getElem? (i := 199) (by decide +kernel)))) (by decide +kernel)
theorem wd_259 : Cond.methodLink RX4 27 Lib.Math.min.name ∈ dm_W := dm_in (List.mem_append_right _ (dt_1 (List.mem_of_getElem? (i := 200) (by decide +kernel)))) (by decide +kernel)
theorem wd_260 : Cond.static Lib.Math.min.name ∈ dm_W := dm_in (List.mem_append_right _ (dt_1 (List.mem_of_getElem? (i := 201) (by decide +kernel)))) (by decide +kernel)
theorem wd_261 : Cond.code Lib.Math.min.name Lib.Math.min.code 2 (some .int) ∈ dm_W := dm_in (List.mem_append_right _ (dt_1 (List.mem_of_getElem? (i := 202) (by decide +kernel)))) (by decide +kernel)
theorem wd_262 : Cond.methodLink RX4 36 yJ7_copyOf_59c91 ∈ dm_W := dm_in (List.mem_append_right _ (dt_1 (List.mem_of_getElem? (i := 203) (by decide +kernel)))) (by decide +kernel)
theorem wd_263 : Cond.static yJ7_copyOf_59c91 ∈ dm_W := dm_in (List.mem_append_right _ (dt_1 (List.mem_of_getElem? (i := 204) (by decide +kernel)))) (by decide +kernel)
theorem wd_264 : Cond.code yJ7_copyOf_59c91 cJ7_copyOf_59c91 3 (some (.array .int)) ∈ dm_W := dm_in (List.mem_append_right _ (dt_1 (List.mem_of_getElem? (i := 205) (by decide +kernel)))) (by decide +kernel)
theorem wd_272 : Cond.methodLink RJ7 304 Lib.Math.min.name ∈ dm_W := dm_in (List.mem_append_right _ (dt_1 (List.mem_of_getElem? (i := 213) (by decide +kernel)))) (by decide +kernel)
theorem wd_273 : Cond.methodLink RJ7 150 arraycopyName ∈ dm_W := dm_in (List.mem_append_right _ (dt_1 (List.mem_of_getElem? (i := 214) (by decide +kernel)))) (by decide +kernel)
theorem wd_274 : Cond.static arraycopyName ∈ dm_W := dm_in (List.mem_append_right _ (dt_1 (List.mem_of_getElem? (i := 215) (by decide +kernel)))) (by decide +kernel)
theorem wd_275 : Cond.native arraycopyName ∈ dm_W := dm_in (List.mem_append_right _ (dt_1 (List.mem_of_getElem? (i := 216) (by decide +kernel)))) (by decide +kernel)
theorem wd_276 : Cond.methodLink RX2 55 yX2_make ∈ dm_W := dm_in (List.mem_append_right _ (dt_1 (List.mem_of_getElem? (i := 217) (by decide +kernel)))) (by decide +kernel)
theorem wd_277 : Cond.instanceMethod yX2_make ∈ dm_W := dm_in (List.mem_append_right _ (dt_1 (List.mem_of_getElem? (i := 218) (by decide +kernel)))) (by decide +kernel)
theorem wd_278 : Cond.selects RX2 yX2_make yX2_make ∈ dm_W := dm_in (List.mem_append_right _ (dt_1 (List.mem_of_getElem? (i := 219) (by decide +kernel)))) (by decide +kernel)
theorem wd_279 : Cond.code yX2_make cX2_make 7 (some .int) ∈ dm_W := dm_in (List.mem_append_right _ (dt_1 (List.mem_of_getElem? (i := 220) (by decide +kernel)))) (by decide +kernel)
theorem wd_280 : Cond.methodLink RX2 63 yX2_nodes ∈ dm_W := dm_in (List.mem_append_right _ (dt_1 (List.mem_of_getElem? (i := 221) (by decide +kernel)))) (by decide +kernel)
theorem wd_281 : Cond.instanceMethod yX2_nodes ∈ dm_W := dm_in (List.mem_append_right _ (dt_1 (List.mem_of_getElem? (i := 222) (by decide +kernel)))) (by decide +kernel)
theorem wd_282 : Cond.selects RX2 yX2_nodes yX2_nodes ∈ dm_W := dm_in (List.mem_append_right _ (dt_1 (List.mem_of_getElem? (i := 223) (by decide +kernel)))) (by decide +kernel)
theorem wd_283 : Cond.code yX2_nodes cX2_nodes 1 (some .int) ∈ dm_W := dm_in (List.mem_append_right _ (dt_1 (List.mem_of_getElem? (i := 224) (by decide +kernel)))) (by decide +kernel)
theorem wd_284 : Cond.methodLink RX2 59 yX4_at ∈ dm_W := dm_in (List.mem_append_right _ (dt_1 (List.mem_of_getElem? (i := 225) (by decide +kernel)))) (by decide +kernel)
theorem wd_285 : Cond.instanceMethod yX4_at ∈ dm_W := dm_in (List.mem_append_right _ (dt_1 (List.mem_of_getElem? (i := 226) (by decide +kernel)))) (by decide +kernel)
theorem wd_286 : Cond.selects RX4 yX4_at yX4_at ∈ dm_W := dm_in (List.mem_append_right _ (dt_1 (List.mem_of_getElem? (i := 227) (by decide +kernel)))) (by decide +kernel)
theorem wd_287 : Cond.code yX4_at cX4_at 2 (some .int) ∈ dm_W := dm_in (List.mem_append_right _ (dt_1 (List.mem_of_getElem? (i := 228) (by decide +kernel)))) (by decide +kernel)
theorem wd_288 : Cond.methodLink RX2 67 yX8_nodesOf ∈ dm_W := dm_in (List.mem_append_right _ (dt_1 (List.mem_of_getElem? (i := 229) (by decide +kernel)))) (by decide +kernel)
theorem wd_289 : Cond.instanceMethod yX8_nodesOf ∈ dm_W := dm_in (List.mem_append_right _ (dt_1 (List.mem_of_getElem? (i := 230) (by decide +kernel)))) (by decide +kernel)
theorem wd_290 : Cond.selects RX8 yX8_nodesOf yX8_nodesOf ∈ dm_W := dm_in (List.mem_append_right _ (dt_1 (List.mem_of_getElem? (i := 231) (by decide +kernel)))) (by decide +kernel)
theorem wd_291 : Cond.code yX8_nodesOf cX8_nodesOf 4 (some .int) ∈ dm_W := dm_in (List.mem_append_right _ (dt_1 (List.mem_of_getElem? (i := 232) (by decide +kernel)))) (by decide +kernel)
theorem wd_292 : Cond.methodLink RX8 39 yX8_isNumber ∈ dm_W := dm_in (List.mem_append_right _ (dt_1 (List.mem_of_getElem? (i := 233) (by decide +kernel)))) (by decide +kernel)
theorem wd_293 : Cond.instanceMethod yX8_isNumber ∈ dm_W := dm_in (List.mem_append_right _ (dt_1 (List.mem_of_getElem? (i := 234) (by decide +kernel)))) (by decide +kernel)
theorem wd_294 : Cond.selects RX8 yX8_isNumber yX8_isNumber ∈ dm_W := dm_in (List.mem_append_right _ (dt_1 (List.mem_of_getElem? (i := 235) (by decide +kernel)))) (by decide +kernel)
theorem wd_295 : Cond.code yX8_isNumber cX8_isNumber 2 (some .boolean) ∈ dm_W := dm_in (List.mem_append_right _ (dt_1 (List.mem_of_getElem? (i := 236) (by decide +kernel)))) (by decide +kernel)
theorem wd_296 : Cond.methodLink RX8 32 yX4_at ∈ dm_W := dm_in (List.mem_append_right _ (dt_1 (List.mem_of_getElem? (i := 237) (by decide +kernel)))) (by decide +kernel)
theorem wd_297 : Cond.methodLink RX2 70 yX4_put ∈ dm_W := dm_in (List.mem_append_right _ (dt_1 (List.mem_of_getElem? (i := 238) (by decide +kernel)))) (by decide +kernel)
theorem wd_298 : Cond.methodLink RX2 74 yX8_top ∈ dm_W := dm_in (List.mem_append_right _ (dt_1 (List.mem_of_getElem? (i := 239) (by decide +kernel)))) (by decide +kernel)
theorem wd_299 : Cond.instanceMethod yX8_top ∈ dm_W := dm_in (List.mem_append_right _ (dt_2 (List.mem_of_getElem? (i := 0) (by decide +kernel)))) (by decide +kernel)
theorem wd_300 : Cond.selects RX8 yX8_top yX8_top ∈ dm_W := dm_in (List.mem_append_right _ (dt_2 (List.mem_of_getElem? (i := 1) (by decide +kernel)))) (by decide +kernel)
theorem wd_301 : Cond.code yX8_top cX8_top 1 (some .int) ∈ dm_W := dm_in (List.mem_append_right _ (dt_2 (List.mem_of_getElem? (i := 2) (by decide +kernel)))) (by decide +kernel)
theorem wd_302 : Cond.methodLink RX10 237 yX0_clear ∈ dm_W := dm_in (List.mem_append_right _ (dt_2 (List.mem_of_getElem? (i := 3) (by decide +kernel)))) (by decide +kernel)
theorem wd_303 : Cond.instanceMethod yX0_clear ∈ dm_W := dm_in (List.mem_append_right _ (dt_2 (List.mem_of_getElem? (i := 4) (by decide +kernel)))) (by decide +kernel)
theorem wd_304 : Cond.selects RX0 yX0_clear yX0_clear ∈ dm_W := dm_in (List.mem_append_right _ (dt_2 (List.mem_of_getElem? (i := 5) (by decide +kernel)))) (by decide +kernel)
theorem wd_305 : Cond.code yX0_clear cX0_clear 1 none ∈ dm_W := dm_in (List.mem_append_right _ (dt_2 (List.mem_of_getElem? (i := 6) (by decide +kernel)))) (by decide +kernel)
theorem wd_306 : Cond.methodLink RX10 221 yX1_cut ∈ dm_W := dm_in (List.mem_append_right _ (dt_2 (List.mem_of_getElem? (i := 7) (by decide +kernel)))) (by decide +kernel)
theorem wd_307 : Cond.instanceMethod yX1_cut ∈ dm_W := dm_in (List.mem_append_right _ (dt_2 (List.mem_of_getElem? (i := 8) (by decide +kernel)))) (by decide +kernel)
theorem wd_308 : Cond.selects RX1 yX1_cut yX1_cut ∈ dm_W := dm_in (List.mem_append_right _ (dt_2 (List.mem_of_getElem? (i := 9) (by decide +kernel)))) (by decide +kernel)
theorem wd_309 : Cond.code yX1_cut cX1_cut 2 (some .boolean) ∈ dm_W := dm_in (List.mem_append_right _ (dt_2 (List.mem_of_getElem? (i := 10) (by decide +kernel)))) (by decide +kernel)
theorem wd_310 : Cond.fieldLink RX10 10 "SplitClocks" "book" "LSplitClocks$Book;" ∈ dm_W := dm_in (List.mem_append_right _ (dt_2 (List.mem_of_getElem? (i := 11) (by decide +kernel)))) (by decide +kernel)
theorem wd_311 : Cond.fieldLink RX10 16 "SplitClocks" "kept" "LSplitClocks$Book;" ∈ dm_W := dm_in (List.mem_append_right _ (dt_2 (List.mem_of_getElem? (i := 12) (by decide +kernel)))) (by decide +kernel)
theorem wd_312 : Cond.fieldLink RX10 22 "SplitClocks" "acts" "LSplitClocks$Acts;" ∈ dm_W := dm_in (List.mem_append_right _ (dt_2 (List.mem_of_getElem? (i := 13) (by decide +kernel)))) (by decide +kernel)
theorem wd_313 : Cond.fieldLink RX10 29 "SplitClocks" "past" "LSplitClocks$Past;" ∈ dm_W := dm_in (List.mem_append_right _ (dt_2 (List.mem_of_getElem? (i := 14) (by decide +kernel)))) (by decide +kernel)
theorem wd_314 : Cond.fieldLink RX10 36 "SplitClocks" "row" "LSplitClocks$Bits;" ∈ dm_W := dm_in (List.mem_append_right _ (dt_2 (List.mem_of_getElem? (i := 15) (by decide +kernel)))) (by decide +kernel)
theorem wd_315 : Cond.fieldLink RX10 40 "SplitClocks" "draft" "LSplitClocks$Bits;" ∈ dm_W := dm_in (List.mem_append_right _ (dt_2 (List.mem_of_getElem? (i := 16) (by decide +kernel)))) (by decide +kernel)
theorem wd_316 : Cond.fieldLink RX10 48 "SplitClocks" "reader" "LSplitClocks$Reader;" ∈ dm_W := dm_in (List.mem_append_right _ (dt_2 (List.mem_of_getElem? (i := 17) (by decide +kernel)))) (by decide +kernel)
theorem wd_317 : Cond.fieldLink RX10 52 "SplitClocks" "imageStands" "Z" ∈ dm_W := dm_in (List.mem_append_right _ (dt_2 (List.mem_of_getElem? (i := 18) (by decide +kernel)))) (by decide +kernel)
theorem wd_318 : Cond.fieldLink RX10 231 "SplitClocks" "lastFault" "I" ∈ dm_W := dm_in (List.mem_append_right _ (dt_2 (List.mem_of_getElem? (i := 19) (by decide +kernel)))) (by decide +kernel)
theorem wd_319 : Cond.fieldLink RX10 202 "SplitClocks" "toldPlace" "J" ∈ dm_W := dm_in (List.mem_append_right _ (dt_2 (List.mem_of_getElem? (i := 20) (by decide +kernel)))) (by decide +kernel)
theorem wd_320 : Cond.fieldLink RX10 198 "SplitClocks" "toldDigits" "I" ∈ dm_W := dm_in (List.mem_append_right _ (dt_2 (List.mem_of_getElem? (i := 21) (by decide +kernel)))) (by decide +kernel)
theorem wd_347 : Cond.code yX10_seed cX10_seed 1 none ∈ dm_W := dm_in (List.mem_append_right _ (dt_2 (List.mem_of_getElem? (i := 48) (by decide +kernel)))) (by decide +kernel)
theorem wd_351 : Cond.code yX10_fork cX10_fork 6 (some .int) ∈ dm_W := dm_in (List.mem_append_right _ (dt_2 (List.mem_of_getElem? (i := 52) (by decide +kernel)))) (by decide +kernel)
theorem wd_352 : Cond.methodLink RX10 59 yX2_isOwner ∈ dm_W := dm_in (List.mem_append_right _ (dt_2 (List.mem_of_getElem? (i := 53) (by decide +kernel)))) (by decide +kernel)
theorem wd_353 : Cond.instanceMethod yX2_isOwner ∈ dm_W := dm_in (List.mem_append_right _ (dt_2 (List.mem_of_getElem? (i := 54) (by decide +kernel)))) (by decide +kernel)
theorem wd_354 : Cond.selects RX2 yX2_isOwner yX2_isOwner ∈ dm_W := dm_in (List.mem_append_right _ (dt_2 (List.mem_of_getElem? (i := 55) (by decide +kernel)))) (by decide +kernel)
theorem wd_355 : Cond.code yX2_isOwner cX2_isOwner 2 (some .boolean) ∈ dm_W := dm_in (List.mem_append_right _ (dt_2 (List.mem_of_getElem? (i := 56) (by decide +kernel)))) (by decide +kernel)
theorem wd_356 : Cond.methodLink RX2 94 yX2_isLiving ∈ dm_W := dm_in (List.mem_append_right _ (dt_2 (List.mem_of_getElem? (i := 57) (by decide +kernel)))) (by decide +kernel)
theorem wd_357 : Cond.instanceMethod yX2_isLiving ∈ dm_W := dm_in (List.mem_append_right _ (dt_2 (List.mem_of_getElem? (i := 58) (by decide +kernel)))) (by decide +kernel)
theorem wd_358 : Cond.selects RX2 yX2_isLiving yX2_isLiving ∈ dm_W := dm_in (List.mem_append_right _ (dt_2 (List.mem_of_getElem? (i := 59) (by decide +kernel)))) (by decide +kernel)
theorem wd_359 : Cond.code yX2_isLiving cX2_isLiving 2 (some .boolean) ∈ dm_W := dm_in (List.mem_append_right _ (dt_2 (List.mem_of_getElem? (i := 60) (by decide +kernel)))) (by decide +kernel)
theorem wd_360 : Cond.methodLink RX2 87 yX2_has ∈ dm_W := dm_in (List.mem_append_right _ (dt_2 (List.mem_of_getElem? (i := 61) (by decide +kernel)))) (by decide +kernel)
theorem wd_361 : Cond.instanceMethod yX2_has ∈ dm_W := dm_in (List.mem_append_right _ (dt_2 (List.mem_of_getElem? (i := 62) (by decide +kernel)))) (by decide +kernel)
theorem wd_362 : Cond.selects RX2 yX2_has yX2_has ∈ dm_W := dm_in (List.mem_append_right _ (dt_2 (List.mem_of_getElem? (i := 63) (by decide +kernel)))) (by decide +kernel)
theorem wd_363 : Cond.code yX2_has cX2_has 2 (some .boolean) ∈ dm_W := dm_in (List.mem_append_right _ (dt_2 (List.mem_of_getElem? (i := 64) (by decide +kernel)))) (by decide +kernel)
theorem wd_364 : Cond.methodLink RX2 91 yX2_stateOf ∈ dm_W := dm_in (List.mem_append_right _ (dt_2 (List.mem_of_getElem? (i := 65) (by decide +kernel)))) (by decide +kernel)
theorem wd_365 : Cond.instanceMethod yX2_stateOf ∈ dm_W := dm_in (List.mem_append_right _ (dt_2 (List.mem_of_getElem? (i := 66) (by decide +kernel)))) (by decide +kernel)
theorem wd_366 : Cond.selects RX2 yX2_stateOf yX2_stateOf ∈ dm_W := dm_in (List.mem_append_right _ (dt_2 (List.mem_of_getElem? (i := 67) (by decide +kernel)))) (by decide +kernel)
theorem wd_367 : Cond.code yX2_stateOf cX2_stateOf 2 (some .int) ∈ dm_W := dm_in (List.mem_append_right _ (dt_2 (List.mem_of_getElem? (i := 68) (by decide +kernel)))) (by decide +kernel)
theorem wd_368 : Cond.methodLink RX2 97 yX2_ownsNothing ∈ dm_W := dm_in (List.mem_append_right _ (dt_2 (List.mem_of_getElem? (i := 69) (by decide +kernel)))) (by decide +kernel)
theorem wd_369 : Cond.instanceMethod yX2_ownsNothing ∈ dm_W := dm_in (List.mem_append_right _ (dt_2 (List.mem_of_getElem? (i := 70) (by decide +kernel)))) (by decide +kernel)
theorem wd_370 : Cond.selects RX2 yX2_ownsNothing yX2_ownsNothing ∈ dm_W := dm_in (List.mem_append_right _ (dt_2 (List.mem_of_getElem? (i := 71) (by decide +kernel)))) (by decide +kernel)
theorem wd_371 : Cond.code yX2_ownsNothing cX2_ownsNothing 2 (some .boolean) ∈ dm_W := dm_in (List.mem_append_right _ (dt_2 (List.mem_of_getElem? (i := 72) (by decide +kernel)))) (by decide +kernel)
theorem wd_372 : Cond.methodLink RX2 80 yX2_ownOf ∈ dm_W := dm_in (List.mem_append_right _ (dt_2 (List.mem_of_getElem? (i := 73) (by decide +kernel)))) (by decide +kernel)
theorem wd_373 : Cond.instanceMethod yX2_ownOf ∈ dm_W := dm_in (List.mem_append_right _ (dt_2 (List.mem_of_getElem? (i := 74) (by decide +kernel)))) (by decide +kernel)
theorem wd_374 : Cond.selects RX2 yX2_ownOf yX2_ownOf ∈ dm_W := dm_in (List.mem_append_right _ (dt_2 (List.mem_of_getElem? (i := 75) (by decide +kernel)))) (by decide +kernel)
theorem wd_375 : Cond.code yX2_ownOf cX2_ownOf 2 (some .int) ∈ dm_W := dm_in (List.mem_append_right _ (dt_2 (List.mem_of_getElem? (i := 76) (by decide +kernel)))) (by decide +kernel)
theorem wd_376 : Cond.methodLink RX2 83 yX8_isJust ∈ dm_W := dm_in (List.mem_append_right _ (dt_2 (List.mem_of_getElem? (i := 77) (by decide +kernel)))) (by decide +kernel)
theorem wd_377 : Cond.instanceMethod yX8_isJust ∈ dm_W := dm_in (List.mem_append_right _ (dt_2 (List.mem_of_getElem? (i := 78) (by decide +kernel)))) (by decide +kernel)
theorem wd_378 : Cond.selects RX8 yX8_isJust yX8_isJust ∈ dm_W := dm_in (List.mem_append_right _ (dt_2 (List.mem_of_getElem? (i := 79) (by decide +kernel)))) (by decide +kernel)
theorem wd_379 : Cond.code yX8_isJust cX8_isJust 3 (some .boolean) ∈ dm_W := dm_in (List.mem_append_right _ (dt_2 (List.mem_of_getElem? (i := 80) (by decide +kernel)))) (by decide +kernel)
theorem wd_380 : Cond.methodLink RX8 43 yX8_numberOf ∈ dm_W := dm_in (List.mem_append_right _ (dt_2 (List.mem_of_getElem? (i := 81) (by decide +kernel)))) (by decide +kernel)
theorem wd_381 : Cond.instanceMethod yX8_numberOf ∈ dm_W := dm_in (List.mem_append_right _ (dt_2 (List.mem_of_getElem? (i := 82) (by decide +kernel)))) (by decide +kernel)
theorem wd_382 : Cond.selects RX8 yX8_numberOf yX8_numberOf ∈ dm_W := dm_in (List.mem_append_right _ (dt_2 (List.mem_of_getElem? (i := 83) (by decide +kernel)))) (by decide +kernel)
theorem wd_383 : Cond.code yX8_numberOf cX8_numberOf 2 (some .int) ∈ dm_W := dm_in (List.mem_append_right _ (dt_2 (List.mem_of_getElem? (i := 84) (by decide +kernel)))) (by decide +kernel)
theorem wd_384 : Cond.methodLink RX10 67 yX2_ownOf ∈ dm_W := dm_in (List.mem_append_right _ (dt_2 (List.mem_of_getElem? (i := 85) (by decide +kernel)))) (by decide +kernel)
theorem wd_385 : Cond.methodLink RX10 71 yX3_canPart ∈ dm_W := dm_in (List.mem_append_right _ (dt_2 (List.mem_of_getElem? (i := 86) (by decide +kernel)))) (by decide +kernel)
theorem wd_386 : Cond.static yX3_canPart ∈ dm_W := dm_in (List.mem_append_right _ (dt_2 (List.mem_of_getElem? (i := 87) (by decide +kernel)))) (by decide +kernel)
theorem wd_387 : Cond.code yX3_canPart cX3_canPart 4 (some .boolean) ∈ dm_W := dm_in (List.mem_append_right _ (dt_2 (List.mem_of_getElem? (i := 88) (by decide +kernel)))) (by decide +kernel)
theorem wd_388 : Cond.methodLink RX3 9 yX3_hasOneSide ∈ dm_W := dm_in (List.mem_append_right _ (dt_2 (List.mem_of_getElem? (i := 89) (by decide +kernel)))) (by decide +kernel)
theorem wd_389 : Cond.static yX3_hasOneSide ∈ dm_W := dm_in (List.mem_append_right _ (dt_2 (List.mem_of_getElem? (i := 90) (by decide +kernel)))) (by decide +kernel)
theorem wd_390 : Cond.code yX3_hasOneSide cX3_hasOneSide 2 (some .boolean) ∈ dm_W := dm_in (List.mem_append_right _ (dt_2 (List.mem_of_getElem? (i := 91) (by decide +kernel)))) (by decide +kernel)
theorem wd_391 : Cond.methodLink RX3 28 yX8_isNumber ∈ dm_W := dm_in (List.mem_append_right _ (dt_2 (List.mem_of_getElem? (i := 92) (by decide +kernel)))) (by decide +kernel)
theorem wd_392 : Cond.methodLink RX3 15 yX8_leftOf ∈ dm_W := dm_in (List.mem_append_right _ (dt_2 (List.mem_of_getElem? (i := 93) (by decide +kernel)))) (by decide +kernel)
theorem wd_393 : Cond.instanceMethod yX8_leftOf ∈ dm_W := dm_in (List.mem_append_right _ (dt_2 (List.mem_of_getElem? (i := 94) (by decide +kernel)))) (by decide +kernel)
theorem wd_394 : Cond.selects RX8 yX8_leftOf yX8_leftOf ∈ dm_W := dm_in (List.mem_append_right _ (dt_2 (List.mem_of_getElem? (i := 95) (by decide +kernel)))) (by decide +kernel)
theorem wd_395 : Cond.code yX8_leftOf cX8_leftOf 2 (some .int) ∈ dm_W := dm_in (List.mem_append_right _ (dt_2 (List.mem_of_getElem? (i := 96) (by decide +kernel)))) (by decide +kernel)
theorem wd_396 : Cond.methodLink RX3 21 yX8_isJust ∈ dm_W := dm_in (List.mem_append_right _ (dt_2 (List.mem_of_getElem? (i := 97) (by decide +kernel)))) (by decide +kernel)
theorem wd_397 : Cond.methodLink RX3 25 yX8_rightOf ∈ dm_W := dm_in (List.mem_append_right _ (dt_2 (List.mem_of_getElem? (i := 98) (by decide +kernel)))) (by decide +kernel)
theorem wd_398 : Cond.instanceMethod yX8_rightOf ∈ dm_W := dm_in (List.mem_append_right _ (dt_2 (List.mem_of_getElem? (i := 99) (by decide +kernel)))) (by decide +kernel)
theorem wd_399 : Cond.selects RX8 yX8_rightOf yX8_rightOf ∈ dm_W := dm_in (List.mem_append_right _ (dt_2 (List.mem_of_getElem? (i := 100) (by decide +kernel)))) (by decide +kernel)
theorem wd_400 : Cond.code yX8_rightOf cX8_rightOf 2 (some .int) ∈ dm_W := dm_in (List.mem_append_right _ (dt_2 (List.mem_of_getElem? (i := 101) (by decide +kernel)))) (by decide +kernel)
theorem wd_401 : Cond.methodLink RX10 77 yX2_size ∈ dm_W := dm_in (List.mem_append_right _ (dt_2 (List.mem_of_getElem? (i := 102) (by decide +kernel)))) (by decide +kernel)
theorem wd_402 : Cond.instanceMethod yX2_size ∈ dm_W := dm_in (List.mem_append_right _ (dt_2 (List.mem_of_getElem? (i := 103) (by decide +kernel)))) (by decide +kernel)
theorem wd_403 : Cond.selects RX2 yX2_size yX2_size ∈ dm_W := dm_in (List.mem_append_right _ (dt_2 (List.mem_of_getElem? (i := 104) (by decide +kernel)))) (by decide +kernel)
theorem wd_404 : Cond.code yX2_size cX2_size 1 (some .int) ∈ dm_W := dm_in (List.mem_append_right _ (dt_2 (List.mem_of_getElem? (i := 105) (by decide +kernel)))) (by decide +kernel)
theorem wd_405 : Cond.methodLink RX10 81 yX2_knownOf ∈ dm_W := dm_in (List.mem_append_right _ (dt_2 (List.mem_of_getElem? (i := 106) (by decide +kernel)))) (by decide +kernel)
theorem wd_406 : Cond.instanceMethod yX2_knownOf ∈ dm_W := dm_in (List.mem_append_right _ (dt_2 (List.mem_of_getElem? (i := 107) (by decide +kernel)))) (by decide +kernel)
theorem wd_407 : Cond.selects RX2 yX2_knownOf yX2_knownOf ∈ dm_W := dm_in (List.mem_append_right _ (dt_2 (List.mem_of_getElem? (i := 108) (by decide +kernel)))) (by decide +kernel)
theorem wd_408 : Cond.code yX2_knownOf cX2_knownOf 2 (some .int) ∈ dm_W := dm_in (List.mem_append_right _ (dt_2 (List.mem_of_getElem? (i := 109) (by decide +kernel)))) (by decide +kernel)
theorem wd_409 : Cond.methodLink RX10 84 yX3_part ∈ dm_W := dm_in (List.mem_append_right _ (dt_2 (List.mem_of_getElem? (i := 110) (by decide +kernel)))) (by decide +kernel)
theorem wd_410 : Cond.static yX3_part ∈ dm_W := dm_in (List.mem_append_right _ (dt_2 (List.mem_of_getElem? (i := 111) (by decide +kernel)))) (by decide +kernel)
theorem wd_411 : Cond.code yX3_part cX3_part 4 (some .int) ∈ dm_W := dm_in (List.mem_append_right _ (dt_2 (List.mem_of_getElem? (i := 112) (by decide +kernel)))) (by decide +kernel)
theorem wd_412 : Cond.methodLink RX3 32 yX8_top ∈ dm_W := dm_in (List.mem_append_right _ (dt_2 (List.mem_of_getElem? (i := 113) (by decide +kernel)))) (by decide +kernel)
theorem wd_413 : Cond.methodLink RX3 36 yX3_partFrom ∈ dm_W := dm_in (List.mem_append_right _ (dt_2 (List.mem_of_getElem? (i := 114) (by decide +kernel)))) (by decide +kernel)
theorem wd_414 : Cond.static yX3_partFrom ∈ dm_W := dm_in (List.mem_append_right _ (dt_2 (List.mem_of_getElem? (i := 115) (by decide +kernel)))) (by decide +kernel)
theorem wd_415 : Cond.code yX3_partFrom cX3_partFrom 7 none ∈ dm_W := dm_in (List.mem_append_right _ (dt_2 (List.mem_of_getElem? (i := 116) (by decide +kernel)))) (by decide +kernel)
theorem wd_416 : Cond.methodLink RX3 40 yX8_grow ∈ dm_W := dm_in (List.mem_append_right _ (dt_2 (List.mem_of_getElem? (i := 117) (by decide +kernel)))) (by decide +kernel)
theorem wd_417 : Cond.methodLink RX3 43 yX8_turn ∈ dm_W := dm_in (List.mem_append_right _ (dt_2 (List.mem_of_getElem? (i := 118) (by decide +kernel)))) (by decide +kernel)
theorem wd_418 : Cond.instanceMethod yX8_turn ∈ dm_W := dm_in (List.mem_append_right _ (dt_2 (List.mem_of_getElem? (i := 119) (by decide +kernel)))) (by decide +kernel)
theorem wd_419 : Cond.selects RX8 yX8_turn yX8_turn ∈ dm_W := dm_in (List.mem_append_right _ (dt_2 (List.mem_of_getElem? (i := 120) (by decide +kernel)))) (by decide +kernel)
theorem wd_420 : Cond.code yX8_turn cX8_turn 2 none ∈ dm_W := dm_in (List.mem_append_right _ (dt_2 (List.mem_of_getElem? (i := 121) (by decide +kernel)))) (by decide +kernel)
theorem wd_421 : Cond.methodLink RX3 47 yX8_copy ∈ dm_W := dm_in (List.mem_append_right _ (dt_2 (List.mem_of_getElem? (i := 122) (by decide +kernel)))) (by decide +kernel)
theorem wd_422 : Cond.instanceMethod yX8_copy ∈ dm_W := dm_in (List.mem_append_right _ (dt_2 (List.mem_of_getElem? (i := 123) (by decide +kernel)))) (by decide +kernel)
theorem wd_423 : Cond.selects RX8 yX8_copy yX8_copy ∈ dm_W := dm_in (List.mem_append_right _ (dt_2 (List.mem_of_getElem? (i := 124) (by decide +kernel)))) (by decide +kernel)
theorem wd_424 : Cond.code yX8_copy cX8_copy 5 none ∈ dm_W := dm_in (List.mem_append_right _ (dt_2 (List.mem_of_getElem? (i := 125) (by decide +kernel)))) (by decide +kernel)
theorem wd_425 : Cond.methodLink RX8 62 yX8_nodesOf ∈ dm_W := dm_in (List.mem_append_right _ (dt_2 (List.mem_of_getElem? (i := 126) (by decide +kernel)))) (by decide +kernel)
theorem wd_426 : Cond.methodLink RX10 88 yX2_make ∈ dm_W := dm_in (List.mem_append_right _ (dt_2 (List.mem_of_getElem? (i := 127) (by decide +kernel)))) (by decide +kernel)
theorem wd_427 : Cond.methodLink RX10 92 yX10_settle ∈ dm_W := dm_in (List.mem_append_right _ (dt_2 (List.mem_of_getElem? (i := 128) (by decide +kernel)))) (by decide +kernel)
theorem wd_429 : Cond.instanceMethod yX10_settle ∈ dm_W := dm_in (List.mem_append_right _ (dt_2 (List.mem_of_getElem? (i := 130) (by decide +kernel)))) (by decide +kernel)
theorem wd_430 : Cond.code yX10_settle cX10_settle 5 (some .boolean) ∈ dm_W := dm_in (List.mem_append_right _ (dt_2 (List.mem_of_getElem? (i := 131) (by decide +kernel)))) (by decide +kernel)
theorem wd_431 : Cond.methodLink RX10 254 yX2_cut ∈ dm_W := dm_in (List.mem_append_right _ (dt_2 (List.mem_of_getElem? (i := 132) (by decide +kernel)))) (by decide +kernel)
theorem wd_432 : Cond.instanceMethod yX2_cut ∈ dm_W := dm_in (List.mem_append_right _ (dt_2 (List.mem_of_getElem? (i := 133) (by decide +kernel)))) (by decide +kernel)
theorem wd_433 : Cond.selects RX2 yX2_cut yX2_cut ∈ dm_W := dm_in (List.mem_append_right _ (dt_2 (List.mem_of_getElem? (i := 134) (by decide +kernel)))) (by decide +kernel)
theorem wd_434 : Cond.code yX2_cut cX2_cut 2 none ∈ dm_W := dm_in (List.mem_append_right _ (dt_2 (List.mem_of_getElem? (i := 135) (by decide +kernel)))) (by decide +kernel)
theorem wd_435 : Cond.methodLink RX2 77 yX8_cut ∈ dm_W := dm_in (List.mem_append_right _ (dt_2 (List.mem_of_getElem? (i := 136) (by decide +kernel)))) (by decide +kernel)
theorem wd_436 : Cond.instanceMethod yX8_cut ∈ dm_W := dm_in (List.mem_append_right _ (dt_2 (List.mem_of_getElem? (i := 137) (by decide +kernel)))) (by decide +kernel)
theorem wd_437 : Cond.selects RX8 yX8_cut yX8_cut ∈ dm_W := dm_in (List.mem_append_right _ (dt_2 (List.mem_of_getElem? (i := 138) (by decide +kernel)))) (by decide +kernel)
theorem wd_438 : Cond.code yX8_cut cX8_cut 2 none ∈ dm_W := dm_in (List.mem_append_right _ (dt_2 (List.mem_of_getElem? (i := 139) (by decide +kernel)))) (by decide +kernel)
theorem wd_439 : Cond.methodLink RX10 117 yX0_note ∈ dm_W := dm_in (List.mem_append_right _ (dt_2 (List.mem_of_getElem? (i := 140) (by decide +kernel)))) (by decide +kernel)
theorem wd_440 : Cond.instanceMethod yX0_note ∈ dm_W := dm_in (List.mem_append_right _ (dt_2 (List.mem_of_getElem? (i := 141) (by decide +kernel)))) (by decide +kernel)
theorem wd_441 : Cond.selects RX0 yX0_note yX0_note ∈ dm_W := dm_in (List.mem_append_right _ (dt_2 (List.mem_of_getElem? (i := 142) (by decide +kernel)))) (by decide +kernel)
theorem wd_442 : Cond.code yX0_note cX0_note 5 none ∈ dm_W := dm_in (List.mem_append_right _ (dt_2 (List.mem_of_getElem? (i := 143) (by decide +kernel)))) (by decide +kernel)
theorem wd_443 : Cond.methodLink RX0 36 yX4_put ∈ dm_W := dm_in (List.mem_append_right _ (dt_2 (List.mem_of_getElem? (i := 144) (by decide +kernel)))) (by decide +kernel)
theorem wd_444 : Cond.methodLink RX0 40 yX2_stateOf ∈ dm_W := dm_in (List.mem_append_right _ (dt_2 (List.mem_of_getElem? (i := 145) (by decide +kernel)))) (by decide +kernel)
theorem wd_445 : Cond.methodLink RX10 113 yX2_spend ∈ dm_W := dm_in (List.mem_append_right _ (dt_2 (List.mem_of_getElem? (i := 146) (by decide +kernel)))) (by decide +kernel)
theorem wd_446 : Cond.instanceMethod yX2_spend ∈ dm_W := dm_in (List.mem_append_right _ (dt_2 (List.mem_of_getElem? (i := 147) (by decide +kernel)))) (by decide +kernel)
theorem wd_447 : Cond.selects RX2 yX2_spend yX2_spend ∈ dm_W := dm_in (List.mem_append_right _ (dt_2 (List.mem_of_getElem? (i := 148) (by decide +kernel)))) (by decide +kernel)
theorem wd_448 : Cond.code yX2_spend cX2_spend 2 none ∈ dm_W := dm_in (List.mem_append_right _ (dt_2 (List.mem_of_getElem? (i := 149) (by decide +kernel)))) (by decide +kernel)
theorem wd_449 : Cond.methodLink RX2 100 yX2_setState ∈ dm_W := dm_in (List.mem_append_right _ (dt_2 (List.mem_of_getElem? (i := 150) (by decide +kernel)))) (by decide +kernel)
theorem wd_450 : Cond.instanceMethod yX2_setState ∈ dm_W := dm_in (List.mem_append_right _ (dt_2 (List.mem_of_getElem? (i := 151) (by decide +kernel)))) (by decide +kernel)
theorem wd_451 : Cond.selects RX2 yX2_setState yX2_setState ∈ dm_W := dm_in (List.mem_append_right _ (dt_2 (List.mem_of_getElem? (i := 152) (by decide +kernel)))) (by decide +kernel)
theorem wd_452 : Cond.code yX2_setState cX2_setState 3 none ∈ dm_W := dm_in (List.mem_append_right _ (dt_2 (List.mem_of_getElem? (i := 153) (by decide +kernel)))) (by decide +kernel)
theorem wd_456 : Cond.code yX10_event cX10_event 4 (some .int) ∈ dm_W := dm_in (List.mem_append_right _ (dt_2 (List.mem_of_getElem? (i := 157) (by decide +kernel)))) (by decide +kernel)
theorem wd_457 : Cond.methodLink RX10 96 yX10_makeEvent ∈ dm_W := dm_in (List.mem_append_right _ (dt_2 (List.mem_of_getElem? (i := 158) (by decide +kernel)))) (by decide +kernel)
theorem wd_459 : Cond.instanceMethod yX10_makeEvent ∈ dm_W := dm_in (List.mem_append_right _ (dt_2 (List.mem_of_getElem? (i := 160) (by decide +kernel)))) (by decide +kernel)
theorem wd_460 : Cond.code yX10_makeEvent cX10_makeEvent 4 (some .int) ∈ dm_W := dm_in (List.mem_append_right _ (dt_2 (List.mem_of_getElem? (i := 161) (by decide +kernel)))) (by decide +kernel)
theorem wd_461 : Cond.methodLink RX10 259 yX3_after ∈ dm_W := dm_in (List.mem_append_right _ (dt_2 (List.mem_of_getElem? (i := 162) (by decide +kernel)))) (by decide +kernel)
theorem wd_462 : Cond.static yX3_after ∈ dm_W := dm_in (List.mem_append_right _ (dt_2 (List.mem_of_getElem? (i := 163) (by decide +kernel)))) (by decide +kernel)
theorem wd_463 : Cond.code yX3_after cX3_after 4 (some .int) ∈ dm_W := dm_in (List.mem_append_right _ (dt_2 (List.mem_of_getElem? (i := 164) (by decide +kernel)))) (by decide +kernel)
theorem wd_464 : Cond.methodLink RX3 66 yX3_fillFrom ∈ dm_W := dm_in (List.mem_append_right _ (dt_2 (List.mem_of_getElem? (i := 165) (by decide +kernel)))) (by decide +kernel)
theorem wd_465 : Cond.static yX3_fillFrom ∈ dm_W := dm_in (List.mem_append_right _ (dt_2 (List.mem_of_getElem? (i := 166) (by decide +kernel)))) (by decide +kernel)
theorem wd_466 : Cond.code yX3_fillFrom cX3_fillFrom 7 none ∈ dm_W := dm_in (List.mem_append_right _ (dt_2 (List.mem_of_getElem? (i := 167) (by decide +kernel)))) (by decide +kernel)
theorem wd_467 : Cond.methodLink RX3 79 yX8_greatestOf ∈ dm_W := dm_in (List.mem_append_right _ (dt_2 (List.mem_of_getElem? (i := 168) (by decide +kernel)))) (by decide +kernel)
theorem wd_468 : Cond.instanceMethod yX8_greatestOf ∈ dm_W := dm_in (List.mem_append_right _ (dt_2 (List.mem_of_getElem? (i := 169) (by decide +kernel)))) (by decide +kernel)
theorem wd_469 : Cond.selects RX8 yX8_greatestOf yX8_greatestOf ∈ dm_W := dm_in (List.mem_append_right _ (dt_2 (List.mem_of_getElem? (i := 170) (by decide +kernel)))) (by decide +kernel)
theorem wd_470 : Cond.code yX8_greatestOf cX8_greatestOf 2 (some .int) ∈ dm_W := dm_in (List.mem_append_right _ (dt_2 (List.mem_of_getElem? (i := 171) (by decide +kernel)))) (by decide +kernel)
theorem wd_471 : Cond.methodLink RX8 65 yX8_greatest ∈ dm_W := dm_in (List.mem_append_right _ (dt_2 (List.mem_of_getElem? (i := 172) (by decide +kernel)))) (by decide +kernel)
theorem wd_472 : Cond.static yX8_greatest ∈ dm_W := dm_in (List.mem_append_right _ (dt_2 (List.mem_of_getElem? (i := 173) (by decide +kernel)))) (by decide +kernel)
theorem wd_473 : Cond.code yX8_greatest cX8_greatest 5 (some .int) ∈ dm_W := dm_in (List.mem_append_right _ (dt_2 (List.mem_of_getElem? (i := 174) (by decide +kernel)))) (by decide +kernel)
theorem wd_474 : Cond.methodLink RX8 46 yX8_leftOf ∈ dm_W := dm_in (List.mem_append_right _ (dt_2 (List.mem_of_getElem? (i := 175) (by decide +kernel)))) (by decide +kernel)
theorem wd_475 : Cond.methodLink RX8 49 yX8_rightOf ∈ dm_W := dm_in (List.mem_append_right _ (dt_2 (List.mem_of_getElem? (i := 176) (by decide +kernel)))) (by decide +kernel)
theorem wd_476 : Cond.methodLink RX8 69 Lib.Math.max.name ∈ dm_W := dm_in (List.mem_append_right _ (dt_2 (List.mem_of_getElem? (i := 177) (by decide +kernel)))) (by decide +kernel)
theorem wd_477 : Cond.methodLink RX3 54 yX8_numberOf ∈ dm_W := dm_in (List.mem_append_right _ (dt_2 (List.mem_of_getElem? (i := 178) (by decide +kernel)))) (by decide +kernel)
theorem wd_478 : Cond.methodLink RX3 57 Lib.Math.max.name ∈ dm_W := dm_in (List.mem_append_right _ (dt_2 (List.mem_of_getElem? (i := 179) (by decide +kernel)))) (by decide +kernel)
theorem wd_479 : Cond.methodLink RX3 82 yX8_setNumber ∈ dm_W := dm_in (List.mem_append_right _ (dt_2 (List.mem_of_getElem? (i := 180) (by decide +kernel)))) (by decide +kernel)
theorem wd_480 : Cond.instanceMethod yX8_setNumber ∈ dm_W := dm_in (List.mem_append_right _ (dt_2 (List.mem_of_getElem? (i := 181) (by decide +kernel)))) (by decide +kernel)
theorem wd_481 : Cond.selects RX8 yX8_setNumber yX8_setNumber ∈ dm_W := dm_in (List.mem_append_right _ (dt_2 (List.mem_of_getElem? (i := 182) (by decide +kernel)))) (by decide +kernel)
theorem wd_482 : Cond.code yX8_setNumber cX8_setNumber 3 none ∈ dm_W := dm_in (List.mem_append_right _ (dt_2 (List.mem_of_getElem? (i := 183) (by decide +kernel)))) (by decide +kernel)
theorem wd_483 : Cond.methodLink RX3 63 yX8_close ∈ dm_W := dm_in (List.mem_append_right _ (dt_2 (List.mem_of_getElem? (i := 184) (by decide +kernel)))) (by decide +kernel)
theorem wd_484 : Cond.instanceMethod yX8_close ∈ dm_W := dm_in (List.mem_append_right _ (dt_2 (List.mem_of_getElem? (i := 185) (by decide +kernel)))) (by decide +kernel)
theorem wd_485 : Cond.selects RX8 yX8_close yX8_close ∈ dm_W := dm_in (List.mem_append_right _ (dt_2 (List.mem_of_getElem? (i := 186) (by decide +kernel)))) (by decide +kernel)
theorem wd_486 : Cond.code yX8_close cX8_close 5 none ∈ dm_W := dm_in (List.mem_append_right _ (dt_2 (List.mem_of_getElem? (i := 187) (by decide +kernel)))) (by decide +kernel)
theorem wd_487 : Cond.methodLink RX8 52 Lib.Math.min.name ∈ dm_W := dm_in (List.mem_append_right _ (dt_2 (List.mem_of_getElem? (i := 188) (by decide +kernel)))) (by decide +kernel)
theorem wd_488 : Cond.methodLink RX8 58 yX8_isJust ∈ dm_W := dm_in (List.mem_append_right _ (dt_2 (List.mem_of_getElem? (i := 189) (by decide +kernel)))) (by decide +kernel)
theorem wd_489 : Cond.methodLink RX3 70 yX8_same ∈ dm_W := dm_in (List.mem_append_right _ (dt_2 (List.mem_of_getElem? (i := 190) (by decide +kernel)))) (by decide +kernel)
theorem wd_490 : Cond.instanceMethod yX8_same ∈ dm_W := dm_in (List.mem_append_right _ (dt_2 (List.mem_of_getElem? (i := 191) (by decide +kernel)))) (by decide +kernel)
theorem wd_491 : Cond.selects RX8 yX8_same yX8_same ∈ dm_W := dm_in (List.mem_append_right _ (dt_2 (List.mem_of_getElem? (i := 192) (by decide +kernel)))) (by decide +kernel)
theorem wd_492 : Cond.code yX8_same cX8_same 6 (some .boolean) ∈ dm_W := dm_in (List.mem_append_right _ (dt_2 (List.mem_of_getElem? (i := 193) (by decide +kernel)))) (by decide +kernel)
theorem wd_493 : Cond.methodLink RX3 73 yX8_cut ∈ dm_W := dm_in (List.mem_append_right _ (dt_2 (List.mem_of_getElem? (i := 194) (by decide +kernel)))) (by decide +kernel)
theorem wd_494 : Cond.methodLink RX3 76 yX3_growFrom ∈ dm_W := dm_in (List.mem_append_right _ (dt_2 (List.mem_of_getElem? (i := 195) (by decide +kernel)))) (by decide +kernel)
theorem wd_495 : Cond.static yX3_growFrom ∈ dm_W := dm_in (List.mem_append_right _ (dt_2 (List.mem_of_getElem? (i := 196) (by decide +kernel)))) (by decide +kernel)
theorem wd_496 : Cond.code yX3_growFrom cX3_growFrom 7 none ∈ dm_W := dm_in (List.mem_append_right _ (dt_2 (List.mem_of_getElem? (i := 197) (by decide +kernel)))) (by decide +kernel)
theorem wd_497 : Cond.methodLink RX3 86 yX3_cost ∈ dm_W := dm_in (List.mem_append_right _ (dt_2 (List.mem_of_getElem? (i := 198) (by decide +kernel)))) (by decide +kernel)
theorem wd_498 : Cond.static yX3_cost ∈ dm_W := dm_in (List.mem_append_right _ (dt_2 (List.mem_of_getElem? (i := 199) (by decide +kernel)))) (by decide +kernel)
theorem wd_499 : Cond.code yX3_cost cX3_cost 6 (some .int) ∈ dm_W := dm_in (List.mem_append_right _ (dt_2 (List.mem_of_getElem? (i := 200) (by decide +kernel)))) (by decide +kernel)
theorem wd_500 : Cond.constant RX3 90 (1000000) ∈ dm_W := dm_in (List.mem_append_right _ (dt_2 (List.mem_of_getElem? (i := 201) (by decide +kernel)))) (by decide +kernel)
theorem wd_501 : Cond.methodLink RX3 91 Lib.Math.min.name ∈ dm_W := dm_in (List.mem_append_right _ (dt_2 (List.mem_of_getElem? (i := 202) (by decide +kernel)))) (by decide +kernel)
theorem wd_505 : Cond.code yX10_join cX10_join 5 (some .int) ∈ dm_W := dm_in (List.mem_append_right _ (dt_2 (List.mem_of_getElem? (i := 206) (by decide +kernel)))) (by decide +kernel)
theorem wd_506 : Cond.methodLink RX10 99 yX10_canMelt ∈ dm_W := dm_in (List.mem_append_right _ (dt_2 (List.mem_of_getElem? (i := 207) (by decide +kernel)))) (by decide +kernel)
theorem wd_508 : Cond.instanceMethod yX10_canMelt ∈ dm_W := dm_in (List.mem_append_right _ (dt_2 (List.mem_of_getElem? (i := 209) (by decide +kernel)))) (by decide +kernel)
theorem wd_509 : Cond.code yX10_canMelt cX10_canMelt 3 (some .boolean) ∈ dm_W := dm_in (List.mem_append_right _ (dt_2 (List.mem_of_getElem? (i := 210) (by decide +kernel)))) (by decide +kernel)
theorem wd_510 : Cond.methodLink RX10 107 yX2_isLiving ∈ dm_W := dm_in (List.mem_append_right _ (dt_2 (List.mem_of_getElem? (i := 211) (by decide +kernel)))) (by decide +kernel)
theorem wd_511 : Cond.methodLink RX10 103 yX10_makeJoin ∈ dm_W := dm_in (List.mem_append_right _ (dt_2 (List.mem_of_getElem? (i := 212) (by decide +kernel)))) (by decide +kernel)
theorem wd_513 : Cond.instanceMethod yX10_makeJoin ∈ dm_W := dm_in (List.mem_append_right _ (dt_2 (List.mem_of_getElem? (i := 214) (by decide +kernel)))) (by decide +kernel)
theorem wd_514 : Cond.code yX10_makeJoin cX10_makeJoin 6 (some .int) ∈ dm_W := dm_in (List.mem_append_right _ (dt_2 (List.mem_of_getElem? (i := 215) (by decide +kernel)))) (by decide +kernel)
theorem wd_515 : Cond.methodLink RX10 263 yX3_higher ∈ dm_W := dm_in (List.mem_append_right _ (dt_2 (List.mem_of_getElem? (i := 216) (by decide +kernel)))) (by decide +kernel)
theorem wd_516 : Cond.static yX3_higher ∈ dm_W := dm_in (List.mem_append_right _ (dt_2 (List.mem_of_getElem? (i := 217) (by decide +kernel)))) (by decide +kernel)
theorem wd_517 : Cond.code yX3_higher cX3_higher 4 (some .int) ∈ dm_W := dm_in (List.mem_append_right _ (dt_2 (List.mem_of_getElem? (i := 218) (by decide +kernel)))) (by decide +kernel)
theorem wd_518 : Cond.methodLink RX3 50 yX3_higherFrom ∈ dm_W := dm_in (List.mem_append_right _ (dt_2 (List.mem_of_getElem? (i := 219) (by decide +kernel)))) (by decide +kernel)
theorem wd_519 : Cond.static yX3_higherFrom ∈ dm_W := dm_in (List.mem_append_right _ (dt_2 (List.mem_of_getElem? (i := 220) (by decide +kernel)))) (by decide +kernel)
theorem wd_520 : Cond.code yX3_higherFrom cX3_higherFrom 9 none ∈ dm_W := dm_in (List.mem_append_right _ (dt_2 (List.mem_of_getElem? (i := 221) (by decide +kernel)))) (by decide +kernel)
theorem wd_524 : Cond.code yX10_peek cX10_peek 4 (some .int) ∈ dm_W := dm_in (List.mem_append_right _ (dt_2 (List.mem_of_getElem? (i := 225) (by decide +kernel)))) (by decide +kernel)
theorem wd_525 : Cond.methodLink RX10 110 yX10_makePeek ∈ dm_W := dm_in (List.mem_append_right _ (dt_2 (List.mem_of_getElem? (i := 226) (by decide +kernel)))) (by decide +kernel)
theorem wd_527 : Cond.instanceMethod yX10_makePeek ∈ dm_W := dm_in (List.mem_append_right _ (dt_2 (List.mem_of_getElem? (i := 228) (by decide +kernel)))) (by decide +kernel)
theorem wd_528 : Cond.code yX10_makePeek cX10_makePeek 2 (some .int) ∈ dm_W := dm_in (List.mem_append_right _ (dt_2 (List.mem_of_getElem? (i := 229) (by decide +kernel)))) (by decide +kernel)
theorem wd_532 : Cond.code yX10_send cX10_send 4 (some .int) ∈ dm_W := dm_in (List.mem_append_right _ (dt_2 (List.mem_of_getElem? (i := 233) (by decide +kernel)))) (by decide +kernel)
theorem wd_536 : Cond.code yX10_take cX10_take 6 (some .int) ∈ dm_W := dm_in (List.mem_append_right _ (dt_2 (List.mem_of_getElem? (i := 237) (by decide +kernel)))) (by decide +kernel)
theorem wd_540 : Cond.code yX10_lose cX10_lose 2 (some .boolean) ∈ dm_W := dm_in (List.mem_append_right _ (dt_3 (List.mem_of_getElem? (i := 1) (by decide +kernel)))) (by decide +kernel)
theorem wd_541 : Cond.methodLink RX10 121 yX2_setState ∈ dm_W := dm_in (List.mem_append_right _ (dt_3 (List.mem_of_getElem? (i := 2) (by decide +kernel)))) (by decide +kernel)
theorem wd_545 : Cond.code yX10_home cX10_home 5 (some .int) ∈ dm_W := dm_in (List.mem_append_right _ (dt_3 (List.mem_of_getElem? (i := 6) (by decide +kernel)))) (by decide +kernel)
theorem wd_546 : Cond.methodLink RX10 125 yX2_isLost ∈ dm_W := dm_in (List.mem_append_right _ (dt_3 (List.mem_of_getElem? (i := 7) (by decide +kernel)))) (by decide +kernel)
theorem wd_547 : Cond.instanceMethod yX2_isLost ∈ dm_W := dm_in (List.mem_append_right _ (dt_3 (List.mem_of_getElem? (i := 8) (by decide +kernel)))) (by decide +kernel)
theorem wd_548 : Cond.selects RX2 yX2_isLost yX2_isLost ∈ dm_W := dm_in (List.mem_append_right _ (dt_3 (List.mem_of_getElem? (i := 9) (by decide +kernel)))) (by decide +kernel)
theorem wd_549 : Cond.code yX2_isLost cX2_isLost 2 (some .boolean) ∈ dm_W := dm_in (List.mem_append_right _ (dt_3 (List.mem_of_getElem? (i := 10) (by decide +kernel)))) (by decide +kernel)
theorem wd_550 : Cond.methodLink RX10 128 yX10_leads ∈ dm_W := dm_in (List.mem_append_right _ (dt_3 (List.mem_of_getElem? (i := 11) (by decide +kernel)))) (by decide +kernel)
theorem wd_552 : Cond.instanceMethod yX10_leads ∈ dm_W := dm_in (List.mem_append_right _ (dt_3 (List.mem_of_getElem? (i := 13) (by decide +kernel)))) (by decide +kernel)
theorem wd_553 : Cond.code yX10_leads cX10_leads 3 (some .boolean) ∈ dm_W := dm_in (List.mem_append_right _ (dt_3 (List.mem_of_getElem? (i := 14) (by decide +kernel)))) (by decide +kernel)
theorem wd_554 : Cond.methodLink RX10 256 yX7_above ∈ dm_W := dm_in (List.mem_append_right _ (dt_3 (List.mem_of_getElem? (i := 15) (by decide +kernel)))) (by decide +kernel)
theorem wd_555 : Cond.static yX7_above ∈ dm_W := dm_in (List.mem_append_right _ (dt_3 (List.mem_of_getElem? (i := 16) (by decide +kernel)))) (by decide +kernel)
theorem wd_556 : Cond.code yX7_above cX7_above 3 (some .boolean) ∈ dm_W := dm_in (List.mem_append_right _ (dt_3 (List.mem_of_getElem? (i := 17) (by decide +kernel)))) (by decide +kernel)
theorem wd_557 : Cond.methodLink RX7 9 yX7_aboveFrom ∈ dm_W := dm_in (List.mem_append_right _ (dt_3 (List.mem_of_getElem? (i := 18) (by decide +kernel)))) (by decide +kernel)
theorem wd_558 : Cond.static yX7_aboveFrom ∈ dm_W := dm_in (List.mem_append_right _ (dt_3 (List.mem_of_getElem? (i := 19) (by decide +kernel)))) (by decide +kernel)
theorem wd_559 : Cond.code yX7_aboveFrom cX7_aboveFrom 6 (some .boolean) ∈ dm_W := dm_in (List.mem_append_right _ (dt_3 (List.mem_of_getElem? (i := 20) (by decide +kernel)))) (by decide +kernel)
theorem wd_560 : Cond.methodLink RX7 15 yX8_numberOf ∈ dm_W := dm_in (List.mem_append_right _ (dt_3 (List.mem_of_getElem? (i := 21) (by decide +kernel)))) (by decide +kernel)
theorem wd_561 : Cond.methodLink RX7 21 yX8_isNumber ∈ dm_W := dm_in (List.mem_append_right _ (dt_3 (List.mem_of_getElem? (i := 22) (by decide +kernel)))) (by decide +kernel)
theorem wd_562 : Cond.methodLink RX7 25 yX8_leftOf ∈ dm_W := dm_in (List.mem_append_right _ (dt_3 (List.mem_of_getElem? (i := 23) (by decide +kernel)))) (by decide +kernel)
theorem wd_563 : Cond.methodLink RX7 28 yX8_rightOf ∈ dm_W := dm_in (List.mem_append_right _ (dt_3 (List.mem_of_getElem? (i := 24) (by decide +kernel)))) (by decide +kernel)
theorem wd_567 : Cond.code yX10_undo cX10_undo 1 (some .boolean) ∈ dm_W := dm_in (List.mem_append_right _ (dt_3 (List.mem_of_getElem? (i := 28) (by decide +kernel)))) (by decide +kernel)
theorem wd_568 : Cond.methodLink RX10 131 yX0_takeBack ∈ dm_W := dm_in (List.mem_append_right _ (dt_3 (List.mem_of_getElem? (i := 29) (by decide +kernel)))) (by decide +kernel)
theorem wd_569 : Cond.instanceMethod yX0_takeBack ∈ dm_W := dm_in (List.mem_append_right _ (dt_3 (List.mem_of_getElem? (i := 30) (by decide +kernel)))) (by decide +kernel)
theorem wd_570 : Cond.selects RX0 yX0_takeBack yX0_takeBack ∈ dm_W := dm_in (List.mem_append_right _ (dt_3 (List.mem_of_getElem? (i := 31) (by decide +kernel)))) (by decide +kernel)
theorem wd_571 : Cond.code yX0_takeBack cX0_takeBack 2 (some .boolean) ∈ dm_W := dm_in (List.mem_append_right _ (dt_3 (List.mem_of_getElem? (i := 32) (by decide +kernel)))) (by decide +kernel)
theorem wd_572 : Cond.methodLink RX0 46 yX4_at ∈ dm_W := dm_in (List.mem_append_right _ (dt_3 (List.mem_of_getElem? (i := 33) (by decide +kernel)))) (by decide +kernel)
theorem wd_573 : Cond.methodLink RX0 49 yX2_cut ∈ dm_W := dm_in (List.mem_append_right _ (dt_3 (List.mem_of_getElem? (i := 34) (by decide +kernel)))) (by decide +kernel)
theorem wd_574 : Cond.methodLink RX0 52 yX2_setState ∈ dm_W := dm_in (List.mem_append_right _ (dt_3 (List.mem_of_getElem? (i := 35) (by decide +kernel)))) (by decide +kernel)
theorem wd_576 : Cond.instanceMethod yX10_relation ∈ dm_W := dm_in (List.mem_append_right _ (dt_3 (List.mem_of_getElem? (i := 37) (by decide +kernel)))) (by decide +kernel)
theorem wd_577 : Cond.selects RX10 yX10_relation yX10_relation ∈ dm_W := dm_in (List.mem_append_right _ (dt_3 (List.mem_of_getElem? (i := 38) (by decide +kernel)))) (by decide +kernel)
theorem wd_578 : Cond.code yX10_relation cX10_relation 5 (some .int) ∈ dm_W := dm_in (List.mem_append_right _ (dt_3 (List.mem_of_getElem? (i := 39) (by decide +kernel)))) (by decide +kernel)
theorem wd_579 : Cond.methodLink RX10 135 yX2_has ∈ dm_W := dm_in (List.mem_append_right _ (dt_3 (List.mem_of_getElem? (i := 40) (by decide +kernel)))) (by decide +kernel)
theorem wd_583 : Cond.code yX10_unseen cX10_unseen 3 (some .int) ∈ dm_W := dm_in (List.mem_append_right _ (dt_3 (List.mem_of_getElem? (i := 44) (by decide +kernel)))) (by decide +kernel)
theorem wd_584 : Cond.methodLink RX10 138 yX5_missing ∈ dm_W := dm_in (List.mem_append_right _ (dt_3 (List.mem_of_getElem? (i := 45) (by decide +kernel)))) (by decide +kernel)
theorem wd_585 : Cond.instanceMethod yX5_missing ∈ dm_W := dm_in (List.mem_append_right _ (dt_3 (List.mem_of_getElem? (i := 46) (by decide +kernel)))) (by decide +kernel)
theorem wd_586 : Cond.selects RX5 yX5_missing yX5_missing ∈ dm_W := dm_in (List.mem_append_right _ (dt_3 (List.mem_of_getElem? (i := 47) (by decide +kernel)))) (by decide +kernel)
theorem wd_587 : Cond.code yX5_missing cX5_missing 5 (some .int) ∈ dm_W := dm_in (List.mem_append_right _ (dt_3 (List.mem_of_getElem? (i := 48) (by decide +kernel)))) (by decide +kernel)
theorem wd_588 : Cond.methodLink RX5 23 yX5_trace ∈ dm_W := dm_in (List.mem_append_right _ (dt_3 (List.mem_of_getElem? (i := 49) (by decide +kernel)))) (by decide +kernel)
theorem wd_589 : Cond.static yX5_trace ∈ dm_W := dm_in (List.mem_append_right _ (dt_3 (List.mem_of_getElem? (i := 50) (by decide +kernel)))) (by decide +kernel)
theorem wd_590 : Cond.code yX5_trace cX5_trace 5 (some .boolean) ∈ dm_W := dm_in (List.mem_append_right _ (dt_3 (List.mem_of_getElem? (i := 51) (by decide +kernel)))) (by decide +kernel)
theorem wd_591 : Cond.methodLink RX5 31 yX2_size ∈ dm_W := dm_in (List.mem_append_right _ (dt_3 (List.mem_of_getElem? (i := 52) (by decide +kernel)))) (by decide +kernel)
theorem wd_592 : Cond.methodLink RX5 41 yX4_put ∈ dm_W := dm_in (List.mem_append_right _ (dt_3 (List.mem_of_getElem? (i := 53) (by decide +kernel)))) (by decide +kernel)
theorem wd_593 : Cond.methodLink RX5 37 yX4_at ∈ dm_W := dm_in (List.mem_append_right _ (dt_3 (List.mem_of_getElem? (i := 54) (by decide +kernel)))) (by decide +kernel)
theorem wd_594 : Cond.methodLink RX5 48 yX2_firstOf ∈ dm_W := dm_in (List.mem_append_right _ (dt_3 (List.mem_of_getElem? (i := 55) (by decide +kernel)))) (by decide +kernel)
theorem wd_595 : Cond.instanceMethod yX2_firstOf ∈ dm_W := dm_in (List.mem_append_right _ (dt_3 (List.mem_of_getElem? (i := 56) (by decide +kernel)))) (by decide +kernel)
theorem wd_596 : Cond.selects RX2 yX2_firstOf yX2_firstOf ∈ dm_W := dm_in (List.mem_append_right _ (dt_3 (List.mem_of_getElem? (i := 57) (by decide +kernel)))) (by decide +kernel)
theorem wd_597 : Cond.code yX2_firstOf cX2_firstOf 2 (some .int) ∈ dm_W := dm_in (List.mem_append_right _ (dt_3 (List.mem_of_getElem? (i := 58) (by decide +kernel)))) (by decide +kernel)
theorem wd_598 : Cond.methodLink RX5 51 yX2_secondOf ∈ dm_W := dm_in (List.mem_append_right _ (dt_3 (List.mem_of_getElem? (i := 59) (by decide +kernel)))) (by decide +kernel)
theorem wd_599 : Cond.instanceMethod yX2_secondOf ∈ dm_W := dm_in (List.mem_append_right _ (dt_3 (List.mem_of_getElem? (i := 60) (by decide +kernel)))) (by decide +kernel)
theorem wd_600 : Cond.selects RX2 yX2_secondOf yX2_secondOf ∈ dm_W := dm_in (List.mem_append_right _ (dt_3 (List.mem_of_getElem? (i := 61) (by decide +kernel)))) (by decide +kernel)
theorem wd_601 : Cond.code yX2_secondOf cX2_secondOf 2 (some .int) ∈ dm_W := dm_in (List.mem_append_right _ (dt_3 (List.mem_of_getElem? (i := 62) (by decide +kernel)))) (by decide +kernel)
theorem wd_602 : Cond.methodLink RX5 45 yX2_howOf ∈ dm_W := dm_in (List.mem_append_right _ (dt_3 (List.mem_of_getElem? (i := 63) (by decide +kernel)))) (by decide +kernel)
theorem wd_603 : Cond.instanceMethod yX2_howOf ∈ dm_W := dm_in (List.mem_append_right _ (dt_3 (List.mem_of_getElem? (i := 64) (by decide +kernel)))) (by decide +kernel)
theorem wd_604 : Cond.selects RX2 yX2_howOf yX2_howOf ∈ dm_W := dm_in (List.mem_append_right _ (dt_3 (List.mem_of_getElem? (i := 65) (by decide +kernel)))) (by decide +kernel)
theorem wd_605 : Cond.code yX2_howOf cX2_howOf 2 (some .int) ∈ dm_W := dm_in (List.mem_append_right _ (dt_3 (List.mem_of_getElem? (i := 66) (by decide +kernel)))) (by decide +kernel)
theorem wd_606 : Cond.methodLink RX5 27 yX5_eventsIn ∈ dm_W := dm_in (List.mem_append_right _ (dt_3 (List.mem_of_getElem? (i := 67) (by decide +kernel)))) (by decide +kernel)
theorem wd_607 : Cond.static yX5_eventsIn ∈ dm_W := dm_in (List.mem_append_right _ (dt_3 (List.mem_of_getElem? (i := 68) (by decide +kernel)))) (by decide +kernel)
theorem wd_608 : Cond.code yX5_eventsIn cX5_eventsIn 4 (some .int) ∈ dm_W := dm_in (List.mem_append_right _ (dt_3 (List.mem_of_getElem? (i := 69) (by decide +kernel)))) (by decide +kernel)
theorem wd_612 : Cond.code yX10_meets cX10_meets 3 (some .boolean) ∈ dm_W := dm_in (List.mem_append_right _ (dt_3 (List.mem_of_getElem? (i := 73) (by decide +kernel)))) (by decide +kernel)
theorem wd_613 : Cond.methodLink RX10 142 yX7_overlap ∈ dm_W := dm_in (List.mem_append_right _ (dt_3 (List.mem_of_getElem? (i := 74) (by decide +kernel)))) (by decide +kernel)
theorem wd_614 : Cond.static yX7_overlap ∈ dm_W := dm_in (List.mem_append_right _ (dt_3 (List.mem_of_getElem? (i := 75) (by decide +kernel)))) (by decide +kernel)
theorem wd_615 : Cond.code yX7_overlap cX7_overlap 3 (some .boolean) ∈ dm_W := dm_in (List.mem_append_right _ (dt_3 (List.mem_of_getElem? (i := 76) (by decide +kernel)))) (by decide +kernel)
theorem wd_616 : Cond.methodLink RX7 39 yX7_overlapFrom ∈ dm_W := dm_in (List.mem_append_right _ (dt_3 (List.mem_of_getElem? (i := 77) (by decide +kernel)))) (by decide +kernel)
theorem wd_617 : Cond.static yX7_overlapFrom ∈ dm_W := dm_in (List.mem_append_right _ (dt_3 (List.mem_of_getElem? (i := 78) (by decide +kernel)))) (by decide +kernel)
theorem wd_618 : Cond.code yX7_overlapFrom cX7_overlapFrom 4 (some .boolean) ∈ dm_W := dm_in (List.mem_append_right _ (dt_3 (List.mem_of_getElem? (i := 79) (by decide +kernel)))) (by decide +kernel)
theorem wd_619 : Cond.methodLink RX7 43 yX8_isJust ∈ dm_W := dm_in (List.mem_append_right _ (dt_3 (List.mem_of_getElem? (i := 80) (by decide +kernel)))) (by decide +kernel)
theorem wd_623 : Cond.code yX10_stamp cX10_stamp 3 (some .int) ∈ dm_W := dm_in (List.mem_append_right _ (dt_3 (List.mem_of_getElem? (i := 84) (by decide +kernel)))) (by decide +kernel)
theorem wd_624 : Cond.methodLink RX10 165 yX8_nodesOf ∈ dm_W := dm_in (List.mem_append_right _ (dt_3 (List.mem_of_getElem? (i := 85) (by decide +kernel)))) (by decide +kernel)
theorem wd_625 : Cond.methodLink RX10 168 yX2_howOf ∈ dm_W := dm_in (List.mem_append_right _ (dt_3 (List.mem_of_getElem? (i := 86) (by decide +kernel)))) (by decide +kernel)
theorem wd_626 : Cond.methodLink RX10 171 yX2_firstOf ∈ dm_W := dm_in (List.mem_append_right _ (dt_3 (List.mem_of_getElem? (i := 87) (by decide +kernel)))) (by decide +kernel)
theorem wd_627 : Cond.methodLink RX10 174 yX2_secondOf ∈ dm_W := dm_in (List.mem_append_right _ (dt_3 (List.mem_of_getElem? (i := 88) (by decide +kernel)))) (by decide +kernel)
theorem wd_628 : Cond.methodLink RX10 177 yX10_draftOf ∈ dm_W := dm_in (List.mem_append_right _ (dt_3 (List.mem_of_getElem? (i := 89) (by decide +kernel)))) (by decide +kernel)
theorem wd_630 : Cond.instanceMethod yX10_draftOf ∈ dm_W := dm_in (List.mem_append_right _ (dt_3 (List.mem_of_getElem? (i := 91) (by decide +kernel)))) (by decide +kernel)
theorem wd_631 : Cond.code yX10_draftOf cX10_draftOf 2 (some .int) ∈ dm_W := dm_in (List.mem_append_right _ (dt_3 (List.mem_of_getElem? (i := 92) (by decide +kernel)))) (by decide +kernel)
theorem wd_633 : Cond.static yX9_shareFrom ∈ dm_W := dm_in (List.mem_append_right _ (dt_3 (List.mem_of_getElem? (i := 94) (by decide +kernel)))) (by decide +kernel)
theorem wd_634 : Cond.code yX9_shareFrom cX9_shareFrom 6 none ∈ dm_W := dm_in (List.mem_append_right _ (dt_3 (List.mem_of_getElem? (i := 95) (by decide +kernel)))) (by decide +kernel)
theorem wd_635 : Cond.methodLink RX9 9 yX8_isNumber ∈ dm_W := dm_in (List.mem_append_right _ (dt_3 (List.mem_of_getElem? (i := 96) (by decide +kernel)))) (by decide +kernel)
theorem wd_636 : Cond.methodLink RX9 15 yX8_numberOf ∈ dm_W := dm_in (List.mem_append_right _ (dt_3 (List.mem_of_getElem? (i := 97) (by decide +kernel)))) (by decide +kernel)
theorem wd_637 : Cond.methodLink RX9 19 yX1_push ∈ dm_W := dm_in (List.mem_append_right _ (dt_3 (List.mem_of_getElem? (i := 98) (by decide +kernel)))) (by decide +kernel)
theorem wd_638 : Cond.instanceMethod yX1_push ∈ dm_W := dm_in (List.mem_append_right _ (dt_3 (List.mem_of_getElem? (i := 99) (by decide +kernel)))) (by decide +kernel)
theorem wd_639 : Cond.selects RX1 yX1_push yX1_push ∈ dm_W := dm_in (List.mem_append_right _ (dt_3 (List.mem_of_getElem? (i := 100) (by decide +kernel)))) (by decide +kernel)
theorem wd_640 : Cond.code yX1_push cX1_push 5 none ∈ dm_W := dm_in (List.mem_append_right _ (dt_3 (List.mem_of_getElem? (i := 101) (by decide +kernel)))) (by decide +kernel)
theorem wd_641 : Cond.methodLink RX1 28 yX4_put ∈ dm_W := dm_in (List.mem_append_right _ (dt_3 (List.mem_of_getElem? (i := 102) (by decide +kernel)))) (by decide +kernel)
theorem wd_642 : Cond.methodLink RX9 25 yX8_leftOf ∈ dm_W := dm_in (List.mem_append_right _ (dt_3 (List.mem_of_getElem? (i := 103) (by decide +kernel)))) (by decide +kernel)
theorem wd_643 : Cond.methodLink RX9 28 yX8_isJust ∈ dm_W := dm_in (List.mem_append_right _ (dt_3 (List.mem_of_getElem? (i := 104) (by decide +kernel)))) (by decide +kernel)
theorem wd_644 : Cond.methodLink RX9 32 yX8_rightOf ∈ dm_W := dm_in (List.mem_append_right _ (dt_3 (List.mem_of_getElem? (i := 105) (by decide +kernel)))) (by decide +kernel)
theorem wd_645 : Cond.methodLink RX9 35 yX9_shareFrom ∈ dm_W := dm_in (List.mem_append_right _ (dt_3 (List.mem_of_getElem? (i := 106) (by decide +kernel)))) (by decide +kernel)
theorem wd_647 : Cond.static yX9_heightFrom ∈ dm_W := dm_in (List.mem_append_right _ (dt_3 (List.mem_of_getElem? (i := 108) (by decide +kernel)))) (by decide +kernel)
theorem wd_648 : Cond.code yX9_heightFrom cX9_heightFrom 7 none ∈ dm_W := dm_in (List.mem_append_right _ (dt_3 (List.mem_of_getElem? (i := 109) (by decide +kernel)))) (by decide +kernel)
theorem wd_649 : Cond.methodLink RX9 41 yX9_pushNumber ∈ dm_W := dm_in (List.mem_append_right _ (dt_3 (List.mem_of_getElem? (i := 110) (by decide +kernel)))) (by decide +kernel)
theorem wd_650 : Cond.static yX9_pushNumber ∈ dm_W := dm_in (List.mem_append_right _ (dt_3 (List.mem_of_getElem? (i := 111) (by decide +kernel)))) (by decide +kernel)
theorem wd_651 : Cond.code yX9_pushNumber cX9_pushNumber 4 none ∈ dm_W := dm_in (List.mem_append_right _ (dt_3 (List.mem_of_getElem? (i := 112) (by decide +kernel)))) (by decide +kernel)
theorem wd_652 : Cond.methodLink RX9 45 yX9_heightFrom ∈ dm_W := dm_in (List.mem_append_right _ (dt_3 (List.mem_of_getElem? (i := 113) (by decide +kernel)))) (by decide +kernel)
theorem wd_653 : Cond.methodLink RX10 213 yX1_size ∈ dm_W := dm_in (List.mem_append_right _ (dt_3 (List.mem_of_getElem? (i := 114) (by decide +kernel)))) (by decide +kernel)
theorem wd_654 : Cond.instanceMethod yX1_size ∈ dm_W := dm_in (List.mem_append_right _ (dt_3 (List.mem_of_getElem? (i := 115) (by decide +kernel)))) (by decide +kernel)
theorem wd_655 : Cond.selects RX1 yX1_size yX1_size ∈ dm_W := dm_in (List.mem_append_right _ (dt_3 (List.mem_of_getElem? (i := 116) (by decide +kernel)))) (by decide +kernel)
theorem wd_656 : Cond.code yX1_size cX1_size 1 (some .int) ∈ dm_W := dm_in (List.mem_append_right _ (dt_3 (List.mem_of_getElem? (i := 117) (by decide +kernel)))) (by decide +kernel)
theorem wd_657 : Cond.methodLink RX10 180 yX8_numberOf ∈ dm_W := dm_in (List.mem_append_right _ (dt_3 (List.mem_of_getElem? (i := 118) (by decide +kernel)))) (by decide +kernel)
theorem wd_658 : Cond.methodLink RX10 183 yX8_greatestOf ∈ dm_W := dm_in (List.mem_append_right _ (dt_3 (List.mem_of_getElem? (i := 119) (by decide +kernel)))) (by decide +kernel)
theorem wd_659 : Cond.methodLink RX10 186 yX5_seen ∈ dm_W := dm_in (List.mem_append_right _ (dt_3 (List.mem_of_getElem? (i := 120) (by decide +kernel)))) (by decide +kernel)
theorem wd_660 : Cond.instanceMethod yX5_seen ∈ dm_W := dm_in (List.mem_append_right _ (dt_3 (List.mem_of_getElem? (i := 121) (by decide +kernel)))) (by decide +kernel)
theorem wd_661 : Cond.selects RX5 yX5_seen yX5_seen ∈ dm_W := dm_in (List.mem_append_right _ (dt_3 (List.mem_of_getElem? (i := 122) (by decide +kernel)))) (by decide +kernel)
theorem wd_662 : Cond.code yX5_seen cX5_seen 3 (some .int) ∈ dm_W := dm_in (List.mem_append_right _ (dt_3 (List.mem_of_getElem? (i := 123) (by decide +kernel)))) (by decide +kernel)
theorem wd_666 : Cond.code yX10_witness cX10_witness 8 (some .boolean) ∈ dm_W := dm_in (List.mem_append_right _ (dt_3 (List.mem_of_getElem? (i := 127) (by decide +kernel)))) (by decide +kernel)
theorem wd_667 : Cond.methodLink RX10 190 yX10_relation ∈ dm_W := dm_in (List.mem_append_right _ (dt_3 (List.mem_of_getElem? (i := 128) (by decide +kernel)))) (by decide +kernel)
theorem wd_668 : Cond.methodLink RX10 194 yX7_firstAbove ∈ dm_W := dm_in (List.mem_append_right _ (dt_3 (List.mem_of_getElem? (i := 129) (by decide +kernel)))) (by decide +kernel)
theorem wd_669 : Cond.static yX7_firstAbove ∈ dm_W := dm_in (List.mem_append_right _ (dt_3 (List.mem_of_getElem? (i := 130) (by decide +kernel)))) (by decide +kernel)
theorem wd_670 : Cond.code yX7_firstAbove cX7_firstAbove 3 (some .long) ∈ dm_W := dm_in (List.mem_append_right _ (dt_3 (List.mem_of_getElem? (i := 131) (by decide +kernel)))) (by decide +kernel)
theorem wd_671 : Cond.methodLink RX7 31 yX7_seek ∈ dm_W := dm_in (List.mem_append_right _ (dt_3 (List.mem_of_getElem? (i := 132) (by decide +kernel)))) (by decide +kernel)
theorem wd_672 : Cond.static yX7_seek ∈ dm_W := dm_in (List.mem_append_right _ (dt_3 (List.mem_of_getElem? (i := 133) (by decide +kernel)))) (by decide +kernel)
theorem wd_673 : Cond.code yX7_seek cX7_seek 12 (some .long) ∈ dm_W := dm_in (List.mem_append_right _ (dt_3 (List.mem_of_getElem? (i := 134) (by decide +kernel)))) (by decide +kernel)
theorem wd_674 : Cond.constantLong RX7 35 (-1) ∈ dm_W := dm_in (List.mem_append_right _ (dt_3 (List.mem_of_getElem? (i := 135) (by decide +kernel)))) (by decide +kernel)
theorem wd_675 : Cond.constantLong RX7 37 (2) ∈ dm_W := dm_in (List.mem_append_right _ (dt_3 (List.mem_of_getElem? (i := 136) (by decide +kernel)))) (by decide +kernel)
theorem wd_679 : Cond.code yX10_place cX10_place 1 (some .long) ∈ dm_W := dm_in (List.mem_append_right _ (dt_3 (List.mem_of_getElem? (i := 140) (by decide +kernel)))) (by decide +kernel)
theorem wd_683 : Cond.code yX10_digits cX10_digits 1 (some .int) ∈ dm_W := dm_in (List.mem_append_right _ (dt_3 (List.mem_of_getElem? (i := 144) (by decide +kernel)))) (by decide +kernel)
theorem wd_687 : Cond.code yX10_check cX10_check 9 (some .int) ∈ dm_W := dm_in (List.mem_append_right _ (dt_3 (List.mem_of_getElem? (i := 148) (by decide +kernel)))) (by decide +kernel)
theorem wd_688 : Cond.methodLink RX10 148 yX10_isPlace ∈ dm_W := dm_in (List.mem_append_right _ (dt_3 (List.mem_of_getElem? (i := 149) (by decide +kernel)))) (by decide +kernel)
theorem wd_689 : Cond.static yX10_isPlace ∈ dm_W := dm_in (List.mem_append_right _ (dt_3 (List.mem_of_getElem? (i := 150) (by decide +kernel)))) (by decide +kernel)
theorem wd_690 : Cond.code yX10_isPlace cX10_isPlace 3 (some .boolean) ∈ dm_W := dm_in (List.mem_append_right _ (dt_3 (List.mem_of_getElem? (i := 151) (by decide +kernel)))) (by decide +kernel)
theorem wd_691 : Cond.methodLink RX10 206 yX10_isAboveAt ∈ dm_W := dm_in (List.mem_append_right _ (dt_3 (List.mem_of_getElem? (i := 152) (by decide +kernel)))) (by decide +kernel)
theorem wd_693 : Cond.instanceMethod yX10_isAboveAt ∈ dm_W := dm_in (List.mem_append_right _ (dt_3 (List.mem_of_getElem? (i := 154) (by decide +kernel)))) (by decide +kernel)
theorem wd_694 : Cond.code yX10_isAboveAt cX10_isAboveAt 6 (some .boolean) ∈ dm_W := dm_in (List.mem_append_right _ (dt_3 (List.mem_of_getElem? (i := 155) (by decide +kernel)))) (by decide +kernel)
theorem wd_695 : Cond.methodLink RX10 159 yX8_numberAt ∈ dm_W := dm_in (List.mem_append_right _ (dt_3 (List.mem_of_getElem? (i := 156) (by decide +kernel)))) (by decide +kernel)
theorem wd_696 : Cond.instanceMethod yX8_numberAt ∈ dm_W := dm_in (List.mem_append_right _ (dt_3 (List.mem_of_getElem? (i := 157) (by decide +kernel)))) (by decide +kernel)
theorem wd_697 : Cond.selects RX8 yX8_numberAt yX8_numberAt ∈ dm_W := dm_in (List.mem_append_right _ (dt_3 (List.mem_of_getElem? (i := 158) (by decide +kernel)))) (by decide +kernel)
theorem wd_698 : Cond.code yX8_numberAt cX8_numberAt 9 (some .int) ∈ dm_W := dm_in (List.mem_append_right _ (dt_3 (List.mem_of_getElem? (i := 159) (by decide +kernel)))) (by decide +kernel)
theorem wd_702 : Cond.code yX10_pack cX10_pack 2 (some .int) ∈ dm_W := dm_in (List.mem_append_right _ (dt_3 (List.mem_of_getElem? (i := 163) (by decide +kernel)))) (by decide +kernel)
theorem wd_703 : Cond.methodLink RX10 210 yX1_copyFrom ∈ dm_W := dm_in (List.mem_append_right _ (dt_3 (List.mem_of_getElem? (i := 164) (by decide +kernel)))) (by decide +kernel)
theorem wd_704 : Cond.instanceMethod yX1_copyFrom ∈ dm_W := dm_in (List.mem_append_right _ (dt_3 (List.mem_of_getElem? (i := 165) (by decide +kernel)))) (by decide +kernel)
theorem wd_705 : Cond.selects RX1 yX1_copyFrom yX1_copyFrom ∈ dm_W := dm_in (List.mem_append_right _ (dt_3 (List.mem_of_getElem? (i := 166) (by decide +kernel)))) (by decide +kernel)
theorem wd_706 : Cond.code yX1_copyFrom cX1_copyFrom 2 none ∈ dm_W := dm_in (List.mem_append_right _ (dt_3 (List.mem_of_getElem? (i := 167) (by decide +kernel)))) (by decide +kernel)
theorem wd_707 : Cond.methodLink RX1 32 yX4_copyFrom ∈ dm_W := dm_in (List.mem_append_right _ (dt_3 (List.mem_of_getElem? (i := 168) (by decide +kernel)))) (by decide +kernel)
theorem wd_708 : Cond.instanceMethod yX4_copyFrom ∈ dm_W := dm_in (List.mem_append_right _ (dt_3 (List.mem_of_getElem? (i := 169) (by decide +kernel)))) (by decide +kernel)
theorem wd_709 : Cond.selects RX4 yX4_copyFrom yX4_copyFrom ∈ dm_W := dm_in (List.mem_append_right _ (dt_3 (List.mem_of_getElem? (i := 170) (by decide +kernel)))) (by decide +kernel)
theorem wd_710 : Cond.code yX4_copyFrom cX4_copyFrom 4 none ∈ dm_W := dm_in (List.mem_append_right _ (dt_3 (List.mem_of_getElem? (i := 171) (by decide +kernel)))) (by decide +kernel)
theorem wd_711 : Cond.methodLink RX4 30 arraycopyName ∈ dm_W := dm_in (List.mem_append_right _ (dt_3 (List.mem_of_getElem? (i := 172) (by decide +kernel)))) (by decide +kernel)
theorem wd_715 : Cond.code yX10_bit cX10_bit 2 (some .int) ∈ dm_W := dm_in (List.mem_append_right _ (dt_3 (List.mem_of_getElem? (i := 176) (by decide +kernel)))) (by decide +kernel)
theorem wd_716 : Cond.methodLink RX10 214 yX1_bitAt ∈ dm_W := dm_in (List.mem_append_right _ (dt_3 (List.mem_of_getElem? (i := 177) (by decide +kernel)))) (by decide +kernel)
theorem wd_717 : Cond.instanceMethod yX1_bitAt ∈ dm_W := dm_in (List.mem_append_right _ (dt_3 (List.mem_of_getElem? (i := 178) (by decide +kernel)))) (by decide +kernel)
theorem wd_718 : Cond.selects RX1 yX1_bitAt yX1_bitAt ∈ dm_W := dm_in (List.mem_append_right _ (dt_3 (List.mem_of_getElem? (i := 179) (by decide +kernel)))) (by decide +kernel)
theorem wd_719 : Cond.code yX1_bitAt cX1_bitAt 2 (some .int) ∈ dm_W := dm_in (List.mem_append_right _ (dt_3 (List.mem_of_getElem? (i := 180) (by decide +kernel)))) (by decide +kernel)
theorem wd_720 : Cond.methodLink RX1 24 yX4_at ∈ dm_W := dm_in (List.mem_append_right _ (dt_3 (List.mem_of_getElem? (i := 181) (by decide +kernel)))) (by decide +kernel)
theorem wd_724 : Cond.code yX10_add cX10_add 4 (some .int) ∈ dm_W := dm_in (List.mem_append_right _ (dt_3 (List.mem_of_getElem? (i := 185) (by decide +kernel)))) (by decide +kernel)
theorem wd_725 : Cond.methodLink RX10 217 yX1_push ∈ dm_W := dm_in (List.mem_append_right _ (dt_3 (List.mem_of_getElem? (i := 186) (by decide +kernel)))) (by decide +kernel)
theorem wd_729 : Cond.code yX10_end cX10_end 2 (some .boolean) ∈ dm_W := dm_in (List.mem_append_right _ (dt_3 (List.mem_of_getElem? (i := 190) (by decide +kernel)))) (by decide +kernel)
theorem wd_733 : Cond.code yX10_read cX10_read 3 (some .int) ∈ dm_W := dm_in (List.mem_append_right _ (dt_3 (List.mem_of_getElem? (i := 194) (by decide +kernel)))) (by decide +kernel)
theorem wd_734 : Cond.methodLink RX10 224 yX6_scan ∈ dm_W := dm_in (List.mem_append_right _ (dt_3 (List.mem_of_getElem? (i := 195) (by decide +kernel)))) (by decide +kernel)
theorem wd_735 : Cond.instanceMethod yX6_scan ∈ dm_W := dm_in (List.mem_append_right _ (dt_3 (List.mem_of_getElem? (i := 196) (by decide +kernel)))) (by decide +kernel)
theorem wd_736 : Cond.selects RX6 yX6_scan yX6_scan ∈ dm_W := dm_in (List.mem_append_right _ (dt_3 (List.mem_of_getElem? (i := 197) (by decide +kernel)))) (by decide +kernel)
theorem wd_737 : Cond.code yX6_scan cX6_scan 3 (some .int) ∈ dm_W := dm_in (List.mem_append_right _ (dt_3 (List.mem_of_getElem? (i := 198) (by decide +kernel)))) (by decide +kernel)
theorem wd_738 : Cond.methodLink RX6 22 yX8_top ∈ dm_W := dm_in (List.mem_append_right _ (dt_3 (List.mem_of_getElem? (i := 199) (by decide +kernel)))) (by decide +kernel)
theorem wd_739 : Cond.methodLink RX6 28 yX6_shareFrom ∈ dm_W := dm_in (List.mem_append_right _ (dt_3 (List.mem_of_getElem? (i := 200) (by decide +kernel)))) (by decide +kernel)
theorem wd_740 : Cond.static yX6_shareFrom ∈ dm_W := dm_in (List.mem_append_right _ (dt_3 (List.mem_of_getElem? (i := 201) (by decide +kernel)))) (by decide +kernel)
theorem wd_741 : Cond.code yX6_shareFrom cX6_shareFrom 8 (some .int) ∈ dm_W := dm_in (List.mem_append_right _ (dt_3 (List.mem_of_getElem? (i := 202) (by decide +kernel)))) (by decide +kernel)
theorem wd_742 : Cond.methodLink RX6 41 yX6_blame ∈ dm_W := dm_in (List.mem_append_right _ (dt_3 (List.mem_of_getElem? (i := 203) (by decide +kernel)))) (by decide +kernel)
theorem wd_744 : Cond.instanceMethod yX6_blame ∈ dm_W := dm_in (List.mem_append_right _ (dt_3 (List.mem_of_getElem? (i := 205) (by decide +kernel)))) (by decide +kernel)
theorem wd_745 : Cond.code yX6_blame cX6_blame 2 none ∈ dm_W := dm_in (List.mem_append_right _ (dt_3 (List.mem_of_getElem? (i := 206) (by decide +kernel)))) (by decide +kernel)
theorem wd_746 : Cond.methodLink RX6 45 yX6_isFaulty ∈ dm_W := dm_in (List.mem_append_right _ (dt_3 (List.mem_of_getElem? (i := 207) (by decide +kernel)))) (by decide +kernel)
theorem wd_748 : Cond.instanceMethod yX6_isFaulty ∈ dm_W := dm_in (List.mem_append_right _ (dt_3 (List.mem_of_getElem? (i := 209) (by decide +kernel)))) (by decide +kernel)
theorem wd_749 : Cond.code yX6_isFaulty cX6_isFaulty 1 (some .boolean) ∈ dm_W := dm_in (List.mem_append_right _ (dt_3 (List.mem_of_getElem? (i := 210) (by decide +kernel)))) (by decide +kernel)
theorem wd_750 : Cond.methodLink RX6 56 yX6_twoBits ∈ dm_W := dm_in (List.mem_append_right _ (dt_3 (List.mem_of_getElem? (i := 211) (by decide +kernel)))) (by decide +kernel)
theorem wd_752 : Cond.instanceMethod yX6_twoBits ∈ dm_W := dm_in (List.mem_append_right _ (dt_3 (List.mem_of_getElem? (i := 213) (by decide +kernel)))) (by decide +kernel)
theorem wd_753 : Cond.code yX6_twoBits cX6_twoBits 3 (some .int) ∈ dm_W := dm_in (List.mem_append_right _ (dt_3 (List.mem_of_getElem? (i := 214) (by decide +kernel)))) (by decide +kernel)
theorem wd_754 : Cond.methodLink RX6 53 yX6_oneBit ∈ dm_W := dm_in (List.mem_append_right _ (dt_3 (List.mem_of_getElem? (i := 215) (by decide +kernel)))) (by decide +kernel)
theorem wd_756 : Cond.instanceMethod yX6_oneBit ∈ dm_W := dm_in (List.mem_append_right _ (dt_3 (List.mem_of_getElem? (i := 217) (by decide +kernel)))) (by decide +kernel)
theorem wd_757 : Cond.code yX6_oneBit cX6_oneBit 1 (some .int) ∈ dm_W := dm_in (List.mem_append_right _ (dt_3 (List.mem_of_getElem? (i := 218) (by decide +kernel)))) (by decide +kernel)
theorem wd_758 : Cond.methodLink RX6 36 yX1_size ∈ dm_W := dm_in (List.mem_append_right _ (dt_3 (List.mem_of_getElem? (i := 219) (by decide +kernel)))) (by decide +kernel)
theorem wd_759 : Cond.methodLink RX6 49 yX1_bitAt ∈ dm_W := dm_in (List.mem_append_right _ (dt_3 (List.mem_of_getElem? (i := 220) (by decide +kernel)))) (by decide +kernel)
theorem wd_760 : Cond.methodLink RX6 32 yX6_heightFrom ∈ dm_W := dm_in (List.mem_append_right _ (dt_3 (List.mem_of_getElem? (i := 221) (by decide +kernel)))) (by decide +kernel)
theorem wd_761 : Cond.static yX6_heightFrom ∈ dm_W := dm_in (List.mem_append_right _ (dt_3 (List.mem_of_getElem? (i := 222) (by decide +kernel)))) (by decide +kernel)
theorem wd_762 : Cond.code yX6_heightFrom cX6_heightFrom 9 none ∈ dm_W := dm_in (List.mem_append_right _ (dt_3 (List.mem_of_getElem? (i := 223) (by decide +kernel)))) (by decide +kernel)
theorem wd_763 : Cond.methodLink RX6 59 yX6_numberHere ∈ dm_W := dm_in (List.mem_append_right _ (dt_3 (List.mem_of_getElem? (i := 224) (by decide +kernel)))) (by decide +kernel)
theorem wd_765 : Cond.instanceMethod yX6_numberHere ∈ dm_W := dm_in (List.mem_append_right _ (dt_3 (List.mem_of_getElem? (i := 226) (by decide +kernel)))) (by decide +kernel)
theorem wd_766 : Cond.code yX6_numberHere cX6_numberHere 6 (some .int) ∈ dm_W := dm_in (List.mem_append_right _ (dt_3 (List.mem_of_getElem? (i := 227) (by decide +kernel)))) (by decide +kernel)
theorem wd_767 : Cond.methodLink RX6 62 yX8_grow ∈ dm_W := dm_in (List.mem_append_right _ (dt_3 (List.mem_of_getElem? (i := 228) (by decide +kernel)))) (by decide +kernel)
theorem wd_768 : Cond.methodLink RX6 65 yX8_turn ∈ dm_W := dm_in (List.mem_append_right _ (dt_3 (List.mem_of_getElem? (i := 229) (by decide +kernel)))) (by decide +kernel)
theorem wd_769 : Cond.methodLink RX6 68 yX6_isWellTold ∈ dm_W := dm_in (List.mem_append_right _ (dt_3 (List.mem_of_getElem? (i := 230) (by decide +kernel)))) (by decide +kernel)
theorem wd_770 : Cond.static yX6_isWellTold ∈ dm_W := dm_in (List.mem_append_right _ (dt_3 (List.mem_of_getElem? (i := 231) (by decide +kernel)))) (by decide +kernel)
theorem wd_771 : Cond.code yX6_isWellTold cX6_isWellTold 9 (some .boolean) ∈ dm_W := dm_in (List.mem_append_right _ (dt_3 (List.mem_of_getElem? (i := 232) (by decide +kernel)))) (by decide +kernel)
theorem wd_772 : Cond.methodLink RX6 72 yX8_leftOf ∈ dm_W := dm_in (List.mem_append_right _ (dt_3 (List.mem_of_getElem? (i := 233) (by decide +kernel)))) (by decide +kernel)
theorem wd_773 : Cond.methodLink RX6 75 yX8_rightOf ∈ dm_W := dm_in (List.mem_append_right _ (dt_3 (List.mem_of_getElem? (i := 234) (by decide +kernel)))) (by decide +kernel)
theorem wd_774 : Cond.methodLink RX6 78 yX8_isJust ∈ dm_W := dm_in (List.mem_append_right _ (dt_3 (List.mem_of_getElem? (i := 235) (by decide +kernel)))) (by decide +kernel)
theorem wd_775 : Cond.methodLink RX6 82 yX8_numberOf ∈ dm_W := dm_in (List.mem_append_right _ (dt_3 (List.mem_of_getElem? (i := 236) (by decide +kernel)))) (by decide +kernel)
theorem wd_776 : Cond.methodLink RX6 85 yX8_isNumber ∈ dm_W := dm_in (List.mem_append_right _ (dt_3 (List.mem_of_getElem? (i := 237) (by decide +kernel)))) (by decide +kernel)
theorem wd_777 : Cond.methodLink RX10 228 yX6_firstFault ∈ dm_W := dm_in (List.mem_append_right _ (dt_3 (List.mem_of_getElem? (i := 238) (by decide +kernel)))) (by decide +kernel)
theorem wd_778 : Cond.instanceMethod yX6_firstFault ∈ dm_W := dm_in (List.mem_append_right _ (dt_3 (List.mem_of_getElem? (i := 239) (by decide +kernel)))) (by decide +kernel)
theorem wd_779 : Cond.selects RX6 yX6_firstFault yX6_firstFault ∈ dm_W := dm_in (List.mem_append_right _ (dt_4 (List.mem_of_getElem? (i := 0) (by decide +kernel)))) (by decide +kernel)
theorem wd_780 : Cond.code yX6_firstFault cX6_firstFault 1 (some .int) ∈ dm_W := dm_in (List.mem_append_right _ (dt_4 (List.mem_of_getElem? (i := 1) (by decide +kernel)))) (by decide +kernel)
theorem wd_784 : Cond.code yX10_fault cX10_fault 1 (some .int) ∈ dm_W := dm_in (List.mem_append_right _ (dt_4 (List.mem_of_getElem? (i := 5) (by decide +kernel)))) (by decide +kernel)
theorem wd_788 : Cond.code yX10_image cX10_image 1 (some .boolean) ∈ dm_W := dm_in (List.mem_append_right _ (dt_4 (List.mem_of_getElem? (i := 9) (by decide +kernel)))) (by decide +kernel)
theorem wd_789 : Cond.methodLink RX10 234 yX2_copyFrom ∈ dm_W := dm_in (List.mem_append_right _ (dt_4 (List.mem_of_getElem? (i := 10) (by decide +kernel)))) (by decide +kernel)
theorem wd_790 : Cond.instanceMethod yX2_copyFrom ∈ dm_W := dm_in (List.mem_append_right _ (dt_4 (List.mem_of_getElem? (i := 11) (by decide +kernel)))) (by decide +kernel)
theorem wd_791 : Cond.selects RX2 yX2_copyFrom yX2_copyFrom ∈ dm_W := dm_in (List.mem_append_right _ (dt_4 (List.mem_of_getElem? (i := 12) (by decide +kernel)))) (by decide +kernel)
theorem wd_792 : Cond.code yX2_copyFrom cX2_copyFrom 2 none ∈ dm_W := dm_in (List.mem_append_right _ (dt_4 (List.mem_of_getElem? (i := 13) (by decide +kernel)))) (by decide +kernel)
theorem wd_793 : Cond.methodLink RX2 112 yX8_copyFrom ∈ dm_W := dm_in (List.mem_append_right _ (dt_4 (List.mem_of_getElem? (i := 14) (by decide +kernel)))) (by decide +kernel)
theorem wd_794 : Cond.instanceMethod yX8_copyFrom ∈ dm_W := dm_in (List.mem_append_right _ (dt_4 (List.mem_of_getElem? (i := 15) (by decide +kernel)))) (by decide +kernel)
theorem wd_795 : Cond.selects RX8 yX8_copyFrom yX8_copyFrom ∈ dm_W := dm_in (List.mem_append_right _ (dt_4 (List.mem_of_getElem? (i := 16) (by decide +kernel)))) (by decide +kernel)
theorem wd_796 : Cond.code yX8_copyFrom cX8_copyFrom 2 none ∈ dm_W := dm_in (List.mem_append_right _ (dt_4 (List.mem_of_getElem? (i := 17) (by decide +kernel)))) (by decide +kernel)
theorem wd_797 : Cond.methodLink RX8 72 yX4_copyFrom ∈ dm_W := dm_in (List.mem_append_right _ (dt_4 (List.mem_of_getElem? (i := 18) (by decide +kernel)))) (by decide +kernel)
theorem wd_798 : Cond.methodLink RX2 116 yX4_copyFrom ∈ dm_W := dm_in (List.mem_append_right _ (dt_4 (List.mem_of_getElem? (i := 19) (by decide +kernel)))) (by decide +kernel)
theorem wd_802 : Cond.code yX10_back cX10_back 1 (some .boolean) ∈ dm_W := dm_in (List.mem_append_right _ (dt_4 (List.mem_of_getElem? (i := 23) (by decide +kernel)))) (by decide +kernel)
theorem wd_806 : Cond.code yX10_count cX10_count 2 (some .int) ∈ dm_W := dm_in (List.mem_append_right _ (dt_4 (List.mem_of_getElem? (i := 27) (by decide +kernel)))) (by decide +kernel)
theorem wd_807 : Cond.methodLink RX10 240 yX2_owners ∈ dm_W := dm_in (List.mem_append_right _ (dt_4 (List.mem_of_getElem? (i := 28) (by decide +kernel)))) (by decide +kernel)
theorem wd_808 : Cond.instanceMethod yX2_owners ∈ dm_W := dm_in (List.mem_append_right _ (dt_4 (List.mem_of_getElem? (i := 29) (by decide +kernel)))) (by decide +kernel)
theorem wd_809 : Cond.selects RX2 yX2_owners yX2_owners ∈ dm_W := dm_in (List.mem_append_right _ (dt_4 (List.mem_of_getElem? (i := 30) (by decide +kernel)))) (by decide +kernel)
theorem wd_810 : Cond.code yX2_owners cX2_owners 3 (some .int) ∈ dm_W := dm_in (List.mem_append_right _ (dt_4 (List.mem_of_getElem? (i := 31) (by decide +kernel)))) (by decide +kernel)
theorem wd_811 : Cond.methodLink RX2 103 yX2_isOwner ∈ dm_W := dm_in (List.mem_append_right _ (dt_4 (List.mem_of_getElem? (i := 32) (by decide +kernel)))) (by decide +kernel)
theorem wd_812 : Cond.methodLink RX10 243 yX2_lostOnes ∈ dm_W := dm_in (List.mem_append_right _ (dt_4 (List.mem_of_getElem? (i := 33) (by decide +kernel)))) (by decide +kernel)
theorem wd_813 : Cond.instanceMethod yX2_lostOnes ∈ dm_W := dm_in (List.mem_append_right _ (dt_4 (List.mem_of_getElem? (i := 34) (by decide +kernel)))) (by decide +kernel)
theorem wd_814 : Cond.selects RX2 yX2_lostOnes yX2_lostOnes ∈ dm_W := dm_in (List.mem_append_right _ (dt_4 (List.mem_of_getElem? (i := 35) (by decide +kernel)))) (by decide +kernel)
theorem wd_815 : Cond.code yX2_lostOnes cX2_lostOnes 3 (some .int) ∈ dm_W := dm_in (List.mem_append_right _ (dt_4 (List.mem_of_getElem? (i := 36) (by decide +kernel)))) (by decide +kernel)
theorem wd_816 : Cond.methodLink RX2 106 yX2_isLost ∈ dm_W := dm_in (List.mem_append_right _ (dt_4 (List.mem_of_getElem? (i := 37) (by decide +kernel)))) (by decide +kernel)
theorem wd_817 : Cond.methodLink RX10 246 yX2_events ∈ dm_W := dm_in (List.mem_append_right _ (dt_4 (List.mem_of_getElem? (i := 38) (by decide +kernel)))) (by decide +kernel)
theorem wd_818 : Cond.instanceMethod yX2_events ∈ dm_W := dm_in (List.mem_append_right _ (dt_4 (List.mem_of_getElem? (i := 39) (by decide +kernel)))) (by decide +kernel)
theorem wd_819 : Cond.selects RX2 yX2_events yX2_events ∈ dm_W := dm_in (List.mem_append_right _ (dt_4 (List.mem_of_getElem? (i := 40) (by decide +kernel)))) (by decide +kernel)
theorem wd_820 : Cond.code yX2_events cX2_events 3 (some .int) ∈ dm_W := dm_in (List.mem_append_right _ (dt_4 (List.mem_of_getElem? (i := 41) (by decide +kernel)))) (by decide +kernel)
theorem wd_821 : Cond.methodLink RX2 109 yX2_howOf ∈ dm_W := dm_in (List.mem_append_right _ (dt_4 (List.mem_of_getElem? (i := 42) (by decide +kernel)))) (by decide +kernel)
theorem wd_822 : Cond.methodLink RX10 249 yX2_nodes ∈ dm_W := dm_in (List.mem_append_right _ (dt_4 (List.mem_of_getElem? (i := 43) (by decide +kernel)))) (by decide +kernel)
theorem wd_823 : Cond.methodLink RX10 252 yX0_size ∈ dm_W := dm_in (List.mem_append_right _ (dt_4 (List.mem_of_getElem? (i := 44) (by decide +kernel)))) (by decide +kernel)
theorem wd_824 : Cond.instanceMethod yX0_size ∈ dm_W := dm_in (List.mem_append_right _ (dt_4 (List.mem_of_getElem? (i := 45) (by decide +kernel)))) (by decide +kernel)
theorem wd_825 : Cond.selects RX0 yX0_size yX0_size ∈ dm_W := dm_in (List.mem_append_right _ (dt_4 (List.mem_of_getElem? (i := 46) (by decide +kernel)))) (by decide +kernel)
theorem wd_826 : Cond.code yX0_size cX0_size 1 (some .int) ∈ dm_W := dm_in (List.mem_append_right _ (dt_4 (List.mem_of_getElem? (i := 47) (by decide +kernel)))) (by decide +kernel)
theorem wd_834 : Cond.code yX10_height cX10_height 5 (some .int) ∈ dm_W := dm_in (List.mem_append_right _ (dt_4 (List.mem_of_getElem? (i := 55) (by decide +kernel)))) (by decide +kernel)
theorem wd_900 : Cond.arrayClass .byte ∈ dm_W := dm_in (List.mem_append_right _ (dt_4 (List.mem_of_getElem? (i := 121) (by decide +kernel)))) (by decide +kernel)
theorem wd_907 : Cond.code yX10_owns cX10_owns 5 (some .boolean) ∈ dm_W := dm_in (List.mem_append_right _ (dt_4 (List.mem_of_getElem? (i := 128) (by decide +kernel)))) (by decide +kernel)
theorem wd_912 : Cond.code yX11_init cX11_init 1 none ∈ dm_W := dm_in (List.mem_append_right _ (dt_4 (List.mem_of_getElem? (i := 133) (by decide +kernel)))) (by decide +kernel)
theorem wd_913 : Cond.methodLink RX11 1 Lib.objectInit ∈ dm_W := dm_in (List.mem_append_right _ (dt_4 (List.mem_of_getElem? (i := 134) (by decide +kernel)))) (by decide +kernel)
theorem wd_914 : Cond.methodLink RX11 162 yX11_seed ∈ dm_W := dm_in (List.mem_append_right _ (dt_4 (List.mem_of_getElem? (i := 135) (by decide +kernel)))) (by decide +kernel)
theorem wd_915 : Cond.instanceMethod yX11_seed ∈ dm_W := dm_in (List.mem_append_right _ (dt_4 (List.mem_of_getElem? (i := 136) (by decide +kernel)))) (by decide +kernel)
theorem wd_916 : Cond.selects RX11 yX11_seed yX11_seed ∈ dm_W := dm_in (List.mem_append_right _ (dt_4 (List.mem_of_getElem? (i := 137) (by decide +kernel)))) (by decide +kernel)
theorem wd_917 : Cond.code yX11_seed cX11_seed 1 none ∈ dm_W := dm_in (List.mem_append_right _ (dt_4 (List.mem_of_getElem? (i := 138) (by decide +kernel)))) (by decide +kernel)
theorem wd_918 : Cond.constantLong RX11 186 (1152921504606846976) ∈ dm_W := dm_in (List.mem_append_right _ (dt_4 (List.mem_of_getElem? (i := 139) (by decide +kernel)))) (by decide +kernel)
theorem wd_919 : Cond.methodLink RX11 188 yX11_make ∈ dm_W := dm_in (List.mem_append_right _ (dt_4 (List.mem_of_getElem? (i := 140) (by decide +kernel)))) (by decide +kernel)
theorem wd_921 : Cond.instanceMethod yX11_make ∈ dm_W := dm_in (List.mem_append_right _ (dt_4 (List.mem_of_getElem? (i := 142) (by decide +kernel)))) (by decide +kernel)
theorem wd_922 : Cond.code yX11_make cX11_make 6 (some .int) ∈ dm_W := dm_in (List.mem_append_right _ (dt_4 (List.mem_of_getElem? (i := 143) (by decide +kernel)))) (by decide +kernel)
theorem wd_923 : Cond.methodLink RX11 196 yX11_shareNodes ∈ dm_W := dm_in (List.mem_append_right _ (dt_4 (List.mem_of_getElem? (i := 144) (by decide +kernel)))) (by decide +kernel)
theorem wd_925 : Cond.instanceMethod yX11_shareNodes ∈ dm_W := dm_in (List.mem_append_right _ (dt_4 (List.mem_of_getElem? (i := 146) (by decide +kernel)))) (by decide +kernel)
theorem wd_926 : Cond.code yX11_shareNodes cX11_shareNodes 5 (some .int) ∈ dm_W := dm_in (List.mem_append_right _ (dt_4 (List.mem_of_getElem? (i := 147) (by decide +kernel)))) (by decide +kernel)
theorem wd_927 : Cond.methodLink RX11 226 yX11_part ∈ dm_W := dm_in (List.mem_append_right _ (dt_4 (List.mem_of_getElem? (i := 148) (by decide +kernel)))) (by decide +kernel)
theorem wd_929 : Cond.instanceMethod yX11_part ∈ dm_W := dm_in (List.mem_append_right _ (dt_4 (List.mem_of_getElem? (i := 150) (by decide +kernel)))) (by decide +kernel)
theorem wd_930 : Cond.code yX11_part cX11_part 8 (some .int) ∈ dm_W := dm_in (List.mem_append_right _ (dt_4 (List.mem_of_getElem? (i := 151) (by decide +kernel)))) (by decide +kernel)
theorem wd_931 : Cond.constantLong RX11 224 (2) ∈ dm_W := dm_in (List.mem_append_right _ (dt_4 (List.mem_of_getElem? (i := 152) (by decide +kernel)))) (by decide +kernel)
theorem wd_932 : Cond.methodLink RX11 200 yX11_heightNodes ∈ dm_W := dm_in (List.mem_append_right _ (dt_4 (List.mem_of_getElem? (i := 153) (by decide +kernel)))) (by decide +kernel)
theorem wd_934 : Cond.instanceMethod yX11_heightNodes ∈ dm_W := dm_in (List.mem_append_right _ (dt_4 (List.mem_of_getElem? (i := 155) (by decide +kernel)))) (by decide +kernel)
theorem wd_935 : Cond.code yX11_heightNodes cX11_heightNodes 5 (some .int) ∈ dm_W := dm_in (List.mem_append_right _ (dt_4 (List.mem_of_getElem? (i := 156) (by decide +kernel)))) (by decide +kernel)
theorem wd_936 : Cond.methodLink RX11 220 yX11_isFlat ∈ dm_W := dm_in (List.mem_append_right _ (dt_4 (List.mem_of_getElem? (i := 157) (by decide +kernel)))) (by decide +kernel)
theorem wd_938 : Cond.instanceMethod yX11_isFlat ∈ dm_W := dm_in (List.mem_append_right _ (dt_4 (List.mem_of_getElem? (i := 159) (by decide +kernel)))) (by decide +kernel)
theorem wd_939 : Cond.code yX11_isFlat cX11_isFlat 5 (some .boolean) ∈ dm_W := dm_in (List.mem_append_right _ (dt_4 (List.mem_of_getElem? (i := 160) (by decide +kernel)))) (by decide +kernel)
theorem wd_940 : Cond.methodLink RX11 203 yX11_at ∈ dm_W := dm_in (List.mem_append_right _ (dt_4 (List.mem_of_getElem? (i := 161) (by decide +kernel)))) (by decide +kernel)
theorem wd_942 : Cond.instanceMethod yX11_at ∈ dm_W := dm_in (List.mem_append_right _ (dt_4 (List.mem_of_getElem? (i := 163) (by decide +kernel)))) (by decide +kernel)
theorem wd_943 : Cond.code yX11_at cX11_at 6 (some .int) ∈ dm_W := dm_in (List.mem_append_right _ (dt_4 (List.mem_of_getElem? (i := 164) (by decide +kernel)))) (by decide +kernel)
theorem wd_944 : Cond.methodLink RX11 207 yX11_behind ∈ dm_W := dm_in (List.mem_append_right _ (dt_4 (List.mem_of_getElem? (i := 165) (by decide +kernel)))) (by decide +kernel)
theorem wd_946 : Cond.instanceMethod yX11_behind ∈ dm_W := dm_in (List.mem_append_right _ (dt_4 (List.mem_of_getElem? (i := 167) (by decide +kernel)))) (by decide +kernel)
theorem wd_947 : Cond.code yX11_behind cX11_behind 2 (some .long) ∈ dm_W := dm_in (List.mem_append_right _ (dt_4 (List.mem_of_getElem? (i := 168) (by decide +kernel)))) (by decide +kernel)
theorem wd_948 : Cond.fieldLink RX11 9 "SplitClocksModel" "steps" "[J" ∈ dm_W := dm_in (List.mem_append_right _ (dt_4 (List.mem_of_getElem? (i := 169) (by decide +kernel)))) (by decide +kernel)
theorem wd_949 : Cond.fieldLink RX11 13 "SplitClocksModel" "heights" "[I" ∈ dm_W := dm_in (List.mem_append_right _ (dt_4 (List.mem_of_getElem? (i := 170) (by decide +kernel)))) (by decide +kernel)
theorem wd_950 : Cond.fieldLink RX11 17 "SplitClocksModel" "froms" "[J" ∈ dm_W := dm_in (List.mem_append_right _ (dt_4 (List.mem_of_getElem? (i := 171) (by decide +kernel)))) (by decide +kernel)
theorem wd_951 : Cond.fieldLink RX11 20 "SplitClocksModel" "tos" "[J" ∈ dm_W := dm_in (List.mem_append_right _ (dt_4 (List.mem_of_getElem? (i := 172) (by decide +kernel)))) (by decide +kernel)
theorem wd_952 : Cond.fieldLink RX11 23 "SplitClocksModel" "stepFrom" "[I" ∈ dm_W := dm_in (List.mem_append_right _ (dt_4 (List.mem_of_getElem? (i := 173) (by decide +kernel)))) (by decide +kernel)
theorem wd_953 : Cond.fieldLink RX11 26 "SplitClocksModel" "spanFrom" "[I" ∈ dm_W := dm_in (List.mem_append_right _ (dt_4 (List.mem_of_getElem? (i := 174) (by decide +kernel)))) (by decide +kernel)
theorem wd_954 : Cond.fieldLink RX11 29 "SplitClocksModel" "lives" "[Z" ∈ dm_W := dm_in (List.mem_append_right _ (dt_4 (List.mem_of_getElem? (i := 175) (by decide +kernel)))) (by decide +kernel)
theorem wd_955 : Cond.fieldLink RX11 33 "SplitClocksModel" "lost" "[Z" ∈ dm_W := dm_in (List.mem_append_right _ (dt_4 (List.mem_of_getElem? (i := 176) (by decide +kernel)))) (by decide +kernel)
theorem wd_956 : Cond.fieldLink RX11 36 "SplitClocksModel" "strange" "[Z" ∈ dm_W := dm_in (List.mem_append_right _ (dt_4 (List.mem_of_getElem? (i := 177) (by decide +kernel)))) (by decide +kernel)
theorem wd_957 : Cond.fieldLink RX11 39 "SplitClocksModel" "how" "[B" ∈ dm_W := dm_in (List.mem_append_right _ (dt_4 (List.mem_of_getElem? (i := 178) (by decide +kernel)))) (by decide +kernel)
theorem wd_958 : Cond.fieldLink RX11 43 "SplitClocksModel" "first" "[S" ∈ dm_W := dm_in (List.mem_append_right _ (dt_4 (List.mem_of_getElem? (i := 179) (by decide +kernel)))) (by decide +kernel)
theorem wd_959 : Cond.fieldLink RX11 47 "SplitClocksModel" "second" "[S" ∈ dm_W := dm_in (List.mem_append_right _ (dt_4 (List.mem_of_getElem? (i := 180) (by decide +kernel)))) (by decide +kernel)
theorem wd_960 : Cond.fieldLink RX11 50 "SplitClocksModel" "ownNodes" "[I" ∈ dm_W := dm_in (List.mem_append_right _ (dt_4 (List.mem_of_getElem? (i := 181) (by decide +kernel)))) (by decide +kernel)
theorem wd_961 : Cond.fieldLink RX11 53 "SplitClocksModel" "knownNodes" "[I" ∈ dm_W := dm_in (List.mem_append_right _ (dt_4 (List.mem_of_getElem? (i := 182) (by decide +kernel)))) (by decide +kernel)
theorem wd_962 : Cond.fieldLink RX11 56 "SplitClocksModel" "seen" "[J" ∈ dm_W := dm_in (List.mem_append_right _ (dt_4 (List.mem_of_getElem? (i := 183) (by decide +kernel)))) (by decide +kernel)
theorem wd_963 : Cond.fieldLink RX11 168 "SplitClocksModel" "many" "I" ∈ dm_W := dm_in (List.mem_append_right _ (dt_4 (List.mem_of_getElem? (i := 184) (by decide +kernel)))) (by decide +kernel)
theorem wd_964 : Cond.fieldLink RX11 171 "SplitClocksModel" "events" "I" ∈ dm_W := dm_in (List.mem_append_right _ (dt_4 (List.mem_of_getElem? (i := 185) (by decide +kernel)))) (by decide +kernel)
theorem wd_965 : Cond.fieldLink RX11 174 "SplitClocksModel" "nodes" "I" ∈ dm_W := dm_in (List.mem_append_right _ (dt_4 (List.mem_of_getElem? (i := 186) (by decide +kernel)))) (by decide +kernel)
theorem wd_966 : Cond.fieldLink RX11 59 "SplitClocksModel" "actMany" "[S" ∈ dm_W := dm_in (List.mem_append_right _ (dt_4 (List.mem_of_getElem? (i := 187) (by decide +kernel)))) (by decide +kernel)
theorem wd_967 : Cond.fieldLink RX11 62 "SplitClocksModel" "actEvents" "[S" ∈ dm_W := dm_in (List.mem_append_right _ (dt_4 (List.mem_of_getElem? (i := 188) (by decide +kernel)))) (by decide +kernel)
theorem wd_968 : Cond.fieldLink RX11 65 "SplitClocksModel" "actOne" "[S" ∈ dm_W := dm_in (List.mem_append_right _ (dt_4 (List.mem_of_getElem? (i := 189) (by decide +kernel)))) (by decide +kernel)
theorem wd_969 : Cond.fieldLink RX11 68 "SplitClocksModel" "actTwo" "[S" ∈ dm_W := dm_in (List.mem_append_right _ (dt_4 (List.mem_of_getElem? (i := 190) (by decide +kernel)))) (by decide +kernel)
theorem wd_970 : Cond.fieldLink RX11 71 "SplitClocksModel" "actOneLived" "[Z" ∈ dm_W := dm_in (List.mem_append_right _ (dt_4 (List.mem_of_getElem? (i := 191) (by decide +kernel)))) (by decide +kernel)
theorem wd_971 : Cond.fieldLink RX11 74 "SplitClocksModel" "actTwoLived" "[Z" ∈ dm_W := dm_in (List.mem_append_right _ (dt_4 (List.mem_of_getElem? (i := 192) (by decide +kernel)))) (by decide +kernel)
theorem wd_972 : Cond.fieldLink RX11 77 "SplitClocksModel" "actLost" "[S" ∈ dm_W := dm_in (List.mem_append_right _ (dt_4 (List.mem_of_getElem? (i := 193) (by decide +kernel)))) (by decide +kernel)
theorem wd_973 : Cond.fieldLink RX11 80 "SplitClocksModel" "actHome" "[S" ∈ dm_W := dm_in (List.mem_append_right _ (dt_4 (List.mem_of_getElem? (i := 194) (by decide +kernel)))) (by decide +kernel)
theorem wd_974 : Cond.fieldLink RX11 177 "SplitClocksModel" "acts" "I" ∈ dm_W := dm_in (List.mem_append_right _ (dt_4 (List.mem_of_getElem? (i := 195) (by decide +kernel)))) (by decide +kernel)
theorem wd_975 : Cond.fieldLink RX11 83 "SplitClocksModel" "w" "[J" ∈ dm_W := dm_in (List.mem_append_right _ (dt_4 (List.mem_of_getElem? (i := 196) (by decide +kernel)))) (by decide +kernel)
theorem wd_976 : Cond.fieldLink RX11 86 "SplitClocksModel" "wh" "[I" ∈ dm_W := dm_in (List.mem_append_right _ (dt_4 (List.mem_of_getElem? (i := 197) (by decide +kernel)))) (by decide +kernel)
theorem wd_977 : Cond.fieldLink RX11 180 "SplitClocksModel" "wMany" "I" ∈ dm_W := dm_in (List.mem_append_right _ (dt_4 (List.mem_of_getElem? (i := 198) (by decide +kernel)))) (by decide +kernel)
theorem wd_978 : Cond.fieldLink RX11 89 "SplitClocksModel" "x" "[J" ∈ dm_W := dm_in (List.mem_append_right _ (dt_4 (List.mem_of_getElem? (i := 199) (by decide +kernel)))) (by decide +kernel)
theorem wd_979 : Cond.fieldLink RX11 92 "SplitClocksModel" "xh" "[I" ∈ dm_W := dm_in (List.mem_append_right _ (dt_4 (List.mem_of_getElem? (i := 200) (by decide +kernel)))) (by decide +kernel)
theorem wd_980 : Cond.fieldLink RX11 95 "SplitClocksModel" "of" "[J" ∈ dm_W := dm_in (List.mem_append_right _ (dt_4 (List.mem_of_getElem? (i := 201) (by decide +kernel)))) (by decide +kernel)
theorem wd_981 : Cond.fieldLink RX11 98 "SplitClocksModel" "ot" "[J" ∈ dm_W := dm_in (List.mem_append_right _ (dt_4 (List.mem_of_getElem? (i := 202) (by decide +kernel)))) (by decide +kernel)
theorem wd_982 : Cond.fieldLink RX11 183 "SplitClocksModel" "oMany" "I" ∈ dm_W := dm_in (List.mem_append_right _ (dt_4 (List.mem_of_getElem? (i := 203) (by decide +kernel)))) (by decide +kernel)
theorem wd_983 : Cond.fieldLink RX11 101 "SplitClocksModel" "row" "[Z" ∈ dm_W := dm_in (List.mem_append_right _ (dt_4 (List.mem_of_getElem? (i := 204) (by decide +kernel)))) (by decide +kernel)
theorem wd_984 : Cond.fieldLink RX11 352 "SplitClocksModel" "bits" "I" ∈ dm_W := dm_in (List.mem_append_right _ (dt_4 (List.mem_of_getElem? (i := 205) (by decide +kernel)))) (by decide +kernel)
theorem wd_985 : Cond.fieldLink RX11 104 "SplitClocksModel" "fault" "I" ∈ dm_W := dm_in (List.mem_append_right _ (dt_4 (List.mem_of_getElem? (i := 206) (by decide +kernel)))) (by decide +kernel)
theorem wd_986 : Cond.fieldLink RX11 329 "SplitClocksModel" "witnessPlace" "J" ∈ dm_W := dm_in (List.mem_append_right _ (dt_4 (List.mem_of_getElem? (i := 207) (by decide +kernel)))) (by decide +kernel)
theorem wd_987 : Cond.fieldLink RX11 108 "SplitClocksModel" "witnessDigits" "I" ∈ dm_W := dm_in (List.mem_append_right _ (dt_4 (List.mem_of_getElem? (i := 208) (by decide +kernel)))) (by decide +kernel)
theorem wd_988 : Cond.fieldLink RX11 165 "SplitClocksModel" "thrown" "I" ∈ dm_W := dm_in (List.mem_append_right _ (dt_4 (List.mem_of_getElem? (i := 209) (by decide +kernel)))) (by decide +kernel)
theorem wd_989 : Cond.fieldLink RX11 381 "SplitClocksModel" "hasImage" "Z" ∈ dm_W := dm_in (List.mem_append_right _ (dt_4 (List.mem_of_getElem? (i := 210) (by decide +kernel)))) (by decide +kernel)
theorem wd_990 : Cond.fieldLink RX11 111 "SplitClocksModel" "kSteps" "[J" ∈ dm_W := dm_in (List.mem_append_right _ (dt_4 (List.mem_of_getElem? (i := 211) (by decide +kernel)))) (by decide +kernel)
theorem wd_991 : Cond.fieldLink RX11 114 "SplitClocksModel" "kHeights" "[I" ∈ dm_W := dm_in (List.mem_append_right _ (dt_4 (List.mem_of_getElem? (i := 212) (by decide +kernel)))) (by decide +kernel)
theorem wd_992 : Cond.fieldLink RX11 117 "SplitClocksModel" "kFroms" "[J" ∈ dm_W := dm_in (List.mem_append_right _ (dt_4 (List.mem_of_getElem? (i := 213) (by decide +kernel)))) (by decide +kernel)
theorem wd_993 : Cond.fieldLink RX11 120 "SplitClocksModel" "kTos" "[J" ∈ dm_W := dm_in (List.mem_append_right _ (dt_4 (List.mem_of_getElem? (i := 214) (by decide +kernel)))) (by decide +kernel)
theorem wd_994 : Cond.fieldLink RX11 123 "SplitClocksModel" "kStepFrom" "[I" ∈ dm_W := dm_in (List.mem_append_right _ (dt_4 (List.mem_of_getElem? (i := 215) (by decide +kernel)))) (by decide +kernel)
theorem wd_995 : Cond.fieldLink RX11 126 "SplitClocksModel" "kSpanFrom" "[I" ∈ dm_W := dm_in (List.mem_append_right _ (dt_4 (List.mem_of_getElem? (i := 216) (by decide +kernel)))) (by decide +kernel)
theorem wd_996 : Cond.fieldLink RX11 129 "SplitClocksModel" "kLives" "[Z" ∈ dm_W := dm_in (List.mem_append_right _ (dt_4 (List.mem_of_getElem? (i := 217) (by decide +kernel)))) (by decide +kernel)
theorem wd_997 : Cond.fieldLink RX11 132 "SplitClocksModel" "kLost" "[Z" ∈ dm_W := dm_in (List.mem_append_right _ (dt_4 (List.mem_of_getElem? (i := 218) (by decide +kernel)))) (by decide +kernel)
theorem wd_998 : Cond.fieldLink RX11 135 "SplitClocksModel" "kStrange" "[Z" ∈ dm_W := dm_in (List.mem_append_right _ (dt_4 (List.mem_of_getElem? (i := 219) (by decide +kernel)))) (by decide +kernel)
theorem wd_999 : Cond.fieldLink RX11 138 "SplitClocksModel" "kHow" "[B" ∈ dm_W := dm_in (List.mem_append_right _ (dt_4 (List.mem_of_getElem? (i := 220) (by decide +kernel)))) (by decide +kernel)
theorem wd_1000 : Cond.fieldLink RX11 141 "SplitClocksModel" "kFirst" "[S" ∈ dm_W := dm_in (List.mem_append_right _ (dt_4 (List.mem_of_getElem? (i := 221) (by decide +kernel)))) (by decide +kernel)
theorem wd_1001 : Cond.fieldLink RX11 144 "SplitClocksModel" "kSecond" "[S" ∈ dm_W := dm_in (List.mem_append_right _ (dt_4 (List.mem_of_getElem? (i := 222) (by decide +kernel)))) (by decide +kernel)
theorem wd_1002 : Cond.fieldLink RX11 147 "SplitClocksModel" "kOwnNodes" "[I" ∈ dm_W := dm_in (List.mem_append_right _ (dt_4 (List.mem_of_getElem? (i := 223) (by decide +kernel)))) (by decide +kernel)
theorem wd_1003 : Cond.fieldLink RX11 150 "SplitClocksModel" "kKnownNodes" "[I" ∈ dm_W := dm_in (List.mem_append_right _ (dt_4 (List.mem_of_getElem? (i := 224) (by decide +kernel)))) (by decide +kernel)
theorem wd_1004 : Cond.fieldLink RX11 153 "SplitClocksModel" "kSeen" "[J" ∈ dm_W := dm_in (List.mem_append_right _ (dt_4 (List.mem_of_getElem? (i := 225) (by decide +kernel)))) (by decide +kernel)
theorem wd_1005 : Cond.fieldLink RX11 384 "SplitClocksModel" "kMany" "I" ∈ dm_W := dm_in (List.mem_append_right _ (dt_4 (List.mem_of_getElem? (i := 226) (by decide +kernel)))) (by decide +kernel)
theorem wd_1006 : Cond.fieldLink RX11 387 "SplitClocksModel" "kEvents" "I" ∈ dm_W := dm_in (List.mem_append_right _ (dt_4 (List.mem_of_getElem? (i := 227) (by decide +kernel)))) (by decide +kernel)
theorem wd_1007 : Cond.fieldLink RX11 390 "SplitClocksModel" "kNodes" "I" ∈ dm_W := dm_in (List.mem_append_right _ (dt_4 (List.mem_of_getElem? (i := 228) (by decide +kernel)))) (by decide +kernel)
theorem wd_1008 : Cond.fieldLink RX11 270 "SplitClocksModel" "growFrom" "J" ∈ dm_W := dm_in (List.mem_append_right _ (dt_4 (List.mem_of_getElem? (i := 229) (by decide +kernel)))) (by decide +kernel)
theorem wd_1009 : Cond.fieldLink RX11 274 "SplitClocksModel" "growSize" "J" ∈ dm_W := dm_in (List.mem_append_right _ (dt_4 (List.mem_of_getElem? (i := 230) (by decide +kernel)))) (by decide +kernel)
theorem wd_1010 : Cond.fieldLink RX11 156 "SplitClocksModel" "oldSteps" "[J" ∈ dm_W := dm_in (List.mem_append_right _ (dt_4 (List.mem_of_getElem? (i := 231) (by decide +kernel)))) (by decide +kernel)
theorem wd_1011 : Cond.fieldLink RX11 159 "SplitClocksModel" "oldHeights" "[I" ∈ dm_W := dm_in (List.mem_append_right _ (dt_4 (List.mem_of_getElem? (i := 232) (by decide +kernel)))) (by decide +kernel)
theorem wd_1012 : Cond.fieldLink RX11 332 "SplitClocksModel" "writes" "Z" ∈ dm_W := dm_in (List.mem_append_right _ (dt_4 (List.mem_of_getElem? (i := 233) (by decide +kernel)))) (by decide +kernel)
theorem wd_1013 : Cond.fieldLink RX11 336 "SplitClocksModel" "at" "I" ∈ dm_W := dm_in (List.mem_append_right _ (dt_4 (List.mem_of_getElem? (i := 234) (by decide +kernel)))) (by decide +kernel)
theorem wd_1014 : Cond.fieldLink RX11 355 "SplitClocksModel" "wrong" "I" ∈ dm_W := dm_in (List.mem_append_right _ (dt_4 (List.mem_of_getElem? (i := 235) (by decide +kernel)))) (by decide +kernel)
theorem wd_1015 : Cond.fieldLink RX11 368 "SplitClocksModel" "isNumber" "Z" ∈ dm_W := dm_in (List.mem_append_right _ (dt_4 (List.mem_of_getElem? (i := 236) (by decide +kernel)))) (by decide +kernel)
theorem wd_1153 : Cond.arrayClass .long ∈ dm_W := dm_in (List.mem_append_right _ (dt_5 (List.mem_of_getElem? (i := 134) (by decide +kernel)))) (by decide +kernel)
theorem wd_1154 : Cond.arrayClass .boolean ∈ dm_W := dm_in (List.mem_append_right _ (dt_5 (List.mem_of_getElem? (i := 135) (by decide +kernel)))) (by decide +kernel)
theorem wd_1155 : Cond.arrayClass .short ∈ dm_W := dm_in (List.mem_append_right _ (dt_5 (List.mem_of_getElem? (i := 136) (by decide +kernel)))) (by decide +kernel)
theorem wd_1160 : Cond.code yX11_fork cX11_fork 11 (some .int) ∈ dm_W := dm_in (List.mem_append_right _ (dt_5 (List.mem_of_getElem? (i := 141) (by decide +kernel)))) (by decide +kernel)
theorem wd_1161 : Cond.methodLink RX11 232 yX11_isAlive ∈ dm_W := dm_in (List.mem_append_right _ (dt_5 (List.mem_of_getElem? (i := 142) (by decide +kernel)))) (by decide +kernel)
theorem wd_1163 : Cond.instanceMethod yX11_isAlive ∈ dm_W := dm_in (List.mem_append_right _ (dt_5 (List.mem_of_getElem? (i := 144) (by decide +kernel)))) (by decide +kernel)
theorem wd_1164 : Cond.code yX11_isAlive cX11_isAlive 2 (some .boolean) ∈ dm_W := dm_in (List.mem_append_right _ (dt_5 (List.mem_of_getElem? (i := 145) (by decide +kernel)))) (by decide +kernel)
theorem wd_1165 : Cond.methodLink RX11 192 yX11_is ∈ dm_W := dm_in (List.mem_append_right _ (dt_5 (List.mem_of_getElem? (i := 146) (by decide +kernel)))) (by decide +kernel)
theorem wd_1167 : Cond.instanceMethod yX11_is ∈ dm_W := dm_in (List.mem_append_right _ (dt_5 (List.mem_of_getElem? (i := 148) (by decide +kernel)))) (by decide +kernel)
theorem wd_1168 : Cond.code yX11_is cX11_is 2 (some .boolean) ∈ dm_W := dm_in (List.mem_append_right _ (dt_5 (List.mem_of_getElem? (i := 149) (by decide +kernel)))) (by decide +kernel)
theorem wd_1169 : Cond.methodLink RX11 229 yX11_owns ∈ dm_W := dm_in (List.mem_append_right _ (dt_5 (List.mem_of_getElem? (i := 150) (by decide +kernel)))) (by decide +kernel)
theorem wd_1171 : Cond.instanceMethod yX11_owns ∈ dm_W := dm_in (List.mem_append_right _ (dt_5 (List.mem_of_getElem? (i := 152) (by decide +kernel)))) (by decide +kernel)
theorem wd_1172 : Cond.code yX11_owns cX11_owns 2 (some .boolean) ∈ dm_W := dm_in (List.mem_append_right _ (dt_5 (List.mem_of_getElem? (i := 153) (by decide +kernel)))) (by decide +kernel)
theorem wd_1173 : Cond.methodLink RX11 235 yX11_takeOwn ∈ dm_W := dm_in (List.mem_append_right _ (dt_5 (List.mem_of_getElem? (i := 154) (by decide +kernel)))) (by decide +kernel)
theorem wd_1175 : Cond.instanceMethod yX11_takeOwn ∈ dm_W := dm_in (List.mem_append_right _ (dt_5 (List.mem_of_getElem? (i := 156) (by decide +kernel)))) (by decide +kernel)
theorem wd_1176 : Cond.code yX11_takeOwn cX11_takeOwn 3 none ∈ dm_W := dm_in (List.mem_append_right _ (dt_5 (List.mem_of_getElem? (i := 157) (by decide +kernel)))) (by decide +kernel)
theorem wd_1177 : Cond.methodLink RX11 238 yX11_cut ∈ dm_W := dm_in (List.mem_append_right _ (dt_5 (List.mem_of_getElem? (i := 158) (by decide +kernel)))) (by decide +kernel)
theorem wd_1179 : Cond.instanceMethod yX11_cut ∈ dm_W := dm_in (List.mem_append_right _ (dt_5 (List.mem_of_getElem? (i := 160) (by decide +kernel)))) (by decide +kernel)
theorem wd_1180 : Cond.code yX11_cut cX11_cut 11 none ∈ dm_W := dm_in (List.mem_append_right _ (dt_5 (List.mem_of_getElem? (i := 161) (by decide +kernel)))) (by decide +kernel)
theorem wd_1181 : Cond.methodLink RX11 242 yX11_hasRoom ∈ dm_W := dm_in (List.mem_append_right _ (dt_5 (List.mem_of_getElem? (i := 162) (by decide +kernel)))) (by decide +kernel)
theorem wd_1183 : Cond.instanceMethod yX11_hasRoom ∈ dm_W := dm_in (List.mem_append_right _ (dt_5 (List.mem_of_getElem? (i := 164) (by decide +kernel)))) (by decide +kernel)
theorem wd_1184 : Cond.code yX11_hasRoom cX11_hasRoom 3 (some .boolean) ∈ dm_W := dm_in (List.mem_append_right _ (dt_5 (List.mem_of_getElem? (i := 165) (by decide +kernel)))) (by decide +kernel)
theorem wd_1185 : Cond.methodLink RX11 246 yX11_note ∈ dm_W := dm_in (List.mem_append_right _ (dt_5 (List.mem_of_getElem? (i := 166) (by decide +kernel)))) (by decide +kernel)
theorem wd_1187 : Cond.instanceMethod yX11_note ∈ dm_W := dm_in (List.mem_append_right _ (dt_5 (List.mem_of_getElem? (i := 168) (by decide +kernel)))) (by decide +kernel)
theorem wd_1188 : Cond.code yX11_note cX11_note 3 none ∈ dm_W := dm_in (List.mem_append_right _ (dt_5 (List.mem_of_getElem? (i := 169) (by decide +kernel)))) (by decide +kernel)
theorem wd_1189 : Cond.methodLink RX11 250 yX11_takeKnown ∈ dm_W := dm_in (List.mem_append_right _ (dt_5 (List.mem_of_getElem? (i := 170) (by decide +kernel)))) (by decide +kernel)
theorem wd_1191 : Cond.instanceMethod yX11_takeKnown ∈ dm_W := dm_in (List.mem_append_right _ (dt_5 (List.mem_of_getElem? (i := 172) (by decide +kernel)))) (by decide +kernel)
theorem wd_1192 : Cond.code yX11_takeKnown cX11_takeKnown 3 none ∈ dm_W := dm_in (List.mem_append_right _ (dt_5 (List.mem_of_getElem? (i := 173) (by decide +kernel)))) (by decide +kernel)
theorem wd_1193 : Cond.methodLink RX11 253 yX11_spend ∈ dm_W := dm_in (List.mem_append_right _ (dt_5 (List.mem_of_getElem? (i := 174) (by decide +kernel)))) (by decide +kernel)
theorem wd_1195 : Cond.instanceMethod yX11_spend ∈ dm_W := dm_in (List.mem_append_right _ (dt_5 (List.mem_of_getElem? (i := 176) (by decide +kernel)))) (by decide +kernel)
theorem wd_1196 : Cond.code yX11_spend cX11_spend 2 none ∈ dm_W := dm_in (List.mem_append_right _ (dt_5 (List.mem_of_getElem? (i := 177) (by decide +kernel)))) (by decide +kernel)
theorem wd_1200 : Cond.code yX11_event cX11_event 3 (some .int) ∈ dm_W := dm_in (List.mem_append_right _ (dt_5 (List.mem_of_getElem? (i := 181) (by decide +kernel)))) (by decide +kernel)
theorem wd_1201 : Cond.methodLink RX11 280 yX11_happen ∈ dm_W := dm_in (List.mem_append_right _ (dt_5 (List.mem_of_getElem? (i := 182) (by decide +kernel)))) (by decide +kernel)
theorem wd_1203 : Cond.instanceMethod yX11_happen ∈ dm_W := dm_in (List.mem_append_right _ (dt_5 (List.mem_of_getElem? (i := 184) (by decide +kernel)))) (by decide +kernel)
theorem wd_1204 : Cond.code yX11_happen cX11_happen 4 none ∈ dm_W := dm_in (List.mem_append_right _ (dt_5 (List.mem_of_getElem? (i := 185) (by decide +kernel)))) (by decide +kernel)
theorem wd_1205 : Cond.methodLink RX11 263 yX11_fill ∈ dm_W := dm_in (List.mem_append_right _ (dt_5 (List.mem_of_getElem? (i := 186) (by decide +kernel)))) (by decide +kernel)
theorem wd_1207 : Cond.instanceMethod yX11_fill ∈ dm_W := dm_in (List.mem_append_right _ (dt_5 (List.mem_of_getElem? (i := 188) (by decide +kernel)))) (by decide +kernel)
theorem wd_1208 : Cond.code yX11_fill cX11_fill 12 none ∈ dm_W := dm_in (List.mem_append_right _ (dt_5 (List.mem_of_getElem? (i := 189) (by decide +kernel)))) (by decide +kernel)
theorem wd_1209 : Cond.methodLink RX11 256 yX11_most ∈ dm_W := dm_in (List.mem_append_right _ (dt_5 (List.mem_of_getElem? (i := 190) (by decide +kernel)))) (by decide +kernel)
theorem wd_1211 : Cond.instanceMethod yX11_most ∈ dm_W := dm_in (List.mem_append_right _ (dt_5 (List.mem_of_getElem? (i := 192) (by decide +kernel)))) (by decide +kernel)
theorem wd_1212 : Cond.code yX11_most cX11_most 7 (some .int) ∈ dm_W := dm_in (List.mem_append_right _ (dt_5 (List.mem_of_getElem? (i := 193) (by decide +kernel)))) (by decide +kernel)
theorem wd_1213 : Cond.methodLink RX11 259 yX11_set ∈ dm_W := dm_in (List.mem_append_right _ (dt_5 (List.mem_of_getElem? (i := 194) (by decide +kernel)))) (by decide +kernel)
theorem wd_1215 : Cond.instanceMethod yX11_set ∈ dm_W := dm_in (List.mem_append_right _ (dt_5 (List.mem_of_getElem? (i := 196) (by decide +kernel)))) (by decide +kernel)
theorem wd_1216 : Cond.code yX11_set cX11_set 13 none ∈ dm_W := dm_in (List.mem_append_right _ (dt_5 (List.mem_of_getElem? (i := 197) (by decide +kernel)))) (by decide +kernel)
theorem wd_1217 : Cond.methodLink RX11 212 yX11_lay ∈ dm_W := dm_in (List.mem_append_right _ (dt_5 (List.mem_of_getElem? (i := 198) (by decide +kernel)))) (by decide +kernel)
theorem wd_1219 : Cond.instanceMethod yX11_lay ∈ dm_W := dm_in (List.mem_append_right _ (dt_5 (List.mem_of_getElem? (i := 200) (by decide +kernel)))) (by decide +kernel)
theorem wd_1220 : Cond.code yX11_lay cX11_lay 5 (some .int) ∈ dm_W := dm_in (List.mem_append_right _ (dt_5 (List.mem_of_getElem? (i := 201) (by decide +kernel)))) (by decide +kernel)
theorem wd_1221 : Cond.methodLink RX11 216 yX11_become ∈ dm_W := dm_in (List.mem_append_right _ (dt_5 (List.mem_of_getElem? (i := 202) (by decide +kernel)))) (by decide +kernel)
theorem wd_1223 : Cond.instanceMethod yX11_become ∈ dm_W := dm_in (List.mem_append_right _ (dt_5 (List.mem_of_getElem? (i := 204) (by decide +kernel)))) (by decide +kernel)
theorem wd_1224 : Cond.code yX11_become cX11_become 3 none ∈ dm_W := dm_in (List.mem_append_right _ (dt_5 (List.mem_of_getElem? (i := 205) (by decide +kernel)))) (by decide +kernel)
theorem wd_1225 : Cond.methodLink RX11 267 yX11_least ∈ dm_W := dm_in (List.mem_append_right _ (dt_5 (List.mem_of_getElem? (i := 206) (by decide +kernel)))) (by decide +kernel)
theorem wd_1227 : Cond.instanceMethod yX11_least ∈ dm_W := dm_in (List.mem_append_right _ (dt_5 (List.mem_of_getElem? (i := 208) (by decide +kernel)))) (by decide +kernel)
theorem wd_1228 : Cond.code yX11_least cX11_least 7 (some .int) ∈ dm_W := dm_in (List.mem_append_right _ (dt_5 (List.mem_of_getElem? (i := 209) (by decide +kernel)))) (by decide +kernel)
theorem wd_1229 : Cond.constant RX11 211 (2147483647) ∈ dm_W := dm_in (List.mem_append_right _ (dt_5 (List.mem_of_getElem? (i := 210) (by decide +kernel)))) (by decide +kernel)
theorem wd_1230 : Cond.methodLink RX11 277 yX11_grow ∈ dm_W := dm_in (List.mem_append_right _ (dt_5 (List.mem_of_getElem? (i := 211) (by decide +kernel)))) (by decide +kernel)
theorem wd_1232 : Cond.instanceMethod yX11_grow ∈ dm_W := dm_in (List.mem_append_right _ (dt_5 (List.mem_of_getElem? (i := 213) (by decide +kernel)))) (by decide +kernel)
theorem wd_1233 : Cond.code yX11_grow cX11_grow 14 (some .int) ∈ dm_W := dm_in (List.mem_append_right _ (dt_5 (List.mem_of_getElem? (i := 214) (by decide +kernel)))) (by decide +kernel)
theorem wd_1234 : Cond.methodLink RX11 283 yX11_mark ∈ dm_W := dm_in (List.mem_append_right _ (dt_5 (List.mem_of_getElem? (i := 215) (by decide +kernel)))) (by decide +kernel)
theorem wd_1236 : Cond.instanceMethod yX11_mark ∈ dm_W := dm_in (List.mem_append_right _ (dt_5 (List.mem_of_getElem? (i := 217) (by decide +kernel)))) (by decide +kernel)
theorem wd_1237 : Cond.code yX11_mark cX11_mark 2 none ∈ dm_W := dm_in (List.mem_append_right _ (dt_5 (List.mem_of_getElem? (i := 218) (by decide +kernel)))) (by decide +kernel)
theorem wd_1241 : Cond.code yX11_join cX11_join 3 (some .int) ∈ dm_W := dm_in (List.mem_append_right _ (dt_5 (List.mem_of_getElem? (i := 222) (by decide +kernel)))) (by decide +kernel)
theorem wd_1242 : Cond.methodLink RX11 292 yX11_joined ∈ dm_W := dm_in (List.mem_append_right _ (dt_5 (List.mem_of_getElem? (i := 223) (by decide +kernel)))) (by decide +kernel)
theorem wd_1244 : Cond.instanceMethod yX11_joined ∈ dm_W := dm_in (List.mem_append_right _ (dt_5 (List.mem_of_getElem? (i := 225) (by decide +kernel)))) (by decide +kernel)
theorem wd_1245 : Cond.code yX11_joined cX11_joined 5 (some .int) ∈ dm_W := dm_in (List.mem_append_right _ (dt_5 (List.mem_of_getElem? (i := 226) (by decide +kernel)))) (by decide +kernel)
theorem wd_1246 : Cond.methodLink RX11 286 yX11_together ∈ dm_W := dm_in (List.mem_append_right _ (dt_5 (List.mem_of_getElem? (i := 227) (by decide +kernel)))) (by decide +kernel)
theorem wd_1248 : Cond.instanceMethod yX11_together ∈ dm_W := dm_in (List.mem_append_right _ (dt_5 (List.mem_of_getElem? (i := 229) (by decide +kernel)))) (by decide +kernel)
theorem wd_1249 : Cond.code yX11_together cX11_together 12 none ∈ dm_W := dm_in (List.mem_append_right _ (dt_5 (List.mem_of_getElem? (i := 230) (by decide +kernel)))) (by decide +kernel)
theorem wd_1250 : Cond.methodLink RX11 289 yX11_share ∈ dm_W := dm_in (List.mem_append_right _ (dt_5 (List.mem_of_getElem? (i := 231) (by decide +kernel)))) (by decide +kernel)
theorem wd_1252 : Cond.instanceMethod yX11_share ∈ dm_W := dm_in (List.mem_append_right _ (dt_5 (List.mem_of_getElem? (i := 233) (by decide +kernel)))) (by decide +kernel)
theorem wd_1253 : Cond.code yX11_share cX11_share 10 none ∈ dm_W := dm_in (List.mem_append_right _ (dt_5 (List.mem_of_getElem? (i := 234) (by decide +kernel)))) (by decide +kernel)
theorem wd_1257 : Cond.code yX11_peek cX11_peek 2 (some .int) ∈ dm_W := dm_in (List.mem_append_right _ (dt_5 (List.mem_of_getElem? (i := 238) (by decide +kernel)))) (by decide +kernel)
theorem wd_1261 : Cond.code yX11_send cX11_send 4 (some .int) ∈ dm_W := dm_in (List.mem_append_right _ (dt_6 (List.mem_of_getElem? (i := 2) (by decide +kernel)))) (by decide +kernel)
theorem wd_1265 : Cond.code yX11_take cX11_take 7 (some .int) ∈ dm_W := dm_in (List.mem_append_right _ (dt_6 (List.mem_of_getElem? (i := 6) (by decide +kernel)))) (by decide +kernel)
theorem wd_1269 : Cond.code yX11_lose cX11_lose 2 (some .boolean) ∈ dm_W := dm_in (List.mem_append_right _ (dt_6 (List.mem_of_getElem? (i := 10) (by decide +kernel)))) (by decide +kernel)
theorem wd_1273 : Cond.code yX11_home cX11_home 4 (some .int) ∈ dm_W := dm_in (List.mem_append_right _ (dt_6 (List.mem_of_getElem? (i := 14) (by decide +kernel)))) (by decide +kernel)
theorem wd_1274 : Cond.methodLink RX11 295 yX11_leads ∈ dm_W := dm_in (List.mem_append_right _ (dt_6 (List.mem_of_getElem? (i := 15) (by decide +kernel)))) (by decide +kernel)
theorem wd_1276 : Cond.instanceMethod yX11_leads ∈ dm_W := dm_in (List.mem_append_right _ (dt_6 (List.mem_of_getElem? (i := 17) (by decide +kernel)))) (by decide +kernel)
theorem wd_1277 : Cond.code yX11_leads cX11_leads 11 (some .boolean) ∈ dm_W := dm_in (List.mem_append_right _ (dt_6 (List.mem_of_getElem? (i := 18) (by decide +kernel)))) (by decide +kernel)
theorem wd_1281 : Cond.code yX11_undo cX11_undo 1 (some .boolean) ∈ dm_W := dm_in (List.mem_append_right _ (dt_6 (List.mem_of_getElem? (i := 22) (by decide +kernel)))) (by decide +kernel)
theorem wd_1285 : Cond.code yX11_relation cX11_relation 5 (some .int) ∈ dm_W := dm_in (List.mem_append_right _ (dt_6 (List.mem_of_getElem? (i := 26) (by decide +kernel)))) (by decide +kernel)
theorem wd_1287 : Cond.instanceMethod yX11_unseen ∈ dm_W := dm_in (List.mem_append_right _ (dt_6 (List.mem_of_getElem? (i := 28) (by decide +kernel)))) (by decide +kernel)
theorem wd_1288 : Cond.selects RX11 yX11_unseen yX11_unseen ∈ dm_W := dm_in (List.mem_append_right _ (dt_6 (List.mem_of_getElem? (i := 29) (by decide +kernel)))) (by decide +kernel)
theorem wd_1289 : Cond.code yX11_unseen cX11_unseen 5 (some .int) ∈ dm_W := dm_in (List.mem_append_right _ (dt_6 (List.mem_of_getElem? (i := 30) (by decide +kernel)))) (by decide +kernel)
theorem wd_1290 : Cond.constantLong RX11 298 (-1) ∈ dm_W := dm_in (List.mem_append_right _ (dt_6 (List.mem_of_getElem? (i := 31) (by decide +kernel)))) (by decide +kernel)
theorem wd_1291 : Cond.methodLink RX11 300 yJ13_bitCount_95d88 ∈ dm_W := dm_in (List.mem_append_right _ (dt_6 (List.mem_of_getElem? (i := 32) (by decide +kernel)))) (by decide +kernel)
theorem wd_1292 : Cond.static yJ13_bitCount_95d88 ∈ dm_W := dm_in (List.mem_append_right _ (dt_6 (List.mem_of_getElem? (i := 33) (by decide +kernel)))) (by decide +kernel)
theorem wd_1293 : Cond.code yJ13_bitCount_95d88 cJ13_bitCount_95d88 2 (some .int) ∈ dm_W := dm_in (List.mem_append_right _ (dt_6 (List.mem_of_getElem? (i := 34) (by decide +kernel)))) (by decide +kernel)
theorem wd_1294 : Cond.constantLong RJ13 314 (6148914691236517205) ∈ dm_W := dm_in (List.mem_append_right _ (dt_6 (List.mem_of_getElem? (i := 35) (by decide +kernel)))) (by decide +kernel)
theorem wd_1295 : Cond.constantLong RJ13 316 (3689348814741910323) ∈ dm_W := dm_in (List.mem_append_right _ (dt_6 (List.mem_of_getElem? (i := 36) (by decide +kernel)))) (by decide +kernel)
theorem wd_1296 : Cond.constantLong RJ13 318 (1085102592571150095) ∈ dm_W := dm_in (List.mem_append_right _ (dt_6 (List.mem_of_getElem? (i := 37) (by decide +kernel)))) (by decide +kernel)
theorem wd_1300 : Cond.code yX11_meets cX11_meets 5 (some .boolean) ∈ dm_W := dm_in (List.mem_append_right _ (dt_6 (List.mem_of_getElem? (i := 41) (by decide +kernel)))) (by decide +kernel)
theorem wd_1304 : Cond.code yX11_height cX11_height 5 (some .int) ∈ dm_W := dm_in (List.mem_append_right _ (dt_6 (List.mem_of_getElem? (i := 45) (by decide +kernel)))) (by decide +kernel)
theorem wd_1305 : Cond.methodLink RX11 305 yX11_isPlace ∈ dm_W := dm_in (List.mem_append_right _ (dt_6 (List.mem_of_getElem? (i := 46) (by decide +kernel)))) (by decide +kernel)
theorem wd_1306 : Cond.static yX11_isPlace ∈ dm_W := dm_in (List.mem_append_right _ (dt_6 (List.mem_of_getElem? (i := 47) (by decide +kernel)))) (by decide +kernel)
theorem wd_1307 : Cond.code yX11_isPlace cX11_isPlace 3 (some .boolean) ∈ dm_W := dm_in (List.mem_append_right _ (dt_6 (List.mem_of_getElem? (i := 48) (by decide +kernel)))) (by decide +kernel)
theorem wd_1308 : Cond.methodLink RX11 309 yX11_heightAt ∈ dm_W := dm_in (List.mem_append_right _ (dt_6 (List.mem_of_getElem? (i := 49) (by decide +kernel)))) (by decide +kernel)
theorem wd_1310 : Cond.instanceMethod yX11_heightAt ∈ dm_W := dm_in (List.mem_append_right _ (dt_6 (List.mem_of_getElem? (i := 51) (by decide +kernel)))) (by decide +kernel)
theorem wd_1311 : Cond.code yX11_heightAt cX11_heightAt 5 (some .int) ∈ dm_W := dm_in (List.mem_append_right _ (dt_6 (List.mem_of_getElem? (i := 52) (by decide +kernel)))) (by decide +kernel)
theorem wd_1315 : Cond.code yX11_owns_ cX11_owns_ 9 (some .boolean) ∈ dm_W := dm_in (List.mem_append_right _ (dt_6 (List.mem_of_getElem? (i := 56) (by decide +kernel)))) (by decide +kernel)
theorem wd_1319 : Cond.code yX11_stamp cX11_stamp 3 (some .int) ∈ dm_W := dm_in (List.mem_append_right _ (dt_6 (List.mem_of_getElem? (i := 60) (by decide +kernel)))) (by decide +kernel)
theorem wd_1320 : Cond.methodLink RX11 313 yX11_written ∈ dm_W := dm_in (List.mem_append_right _ (dt_6 (List.mem_of_getElem? (i := 61) (by decide +kernel)))) (by decide +kernel)
theorem wd_1322 : Cond.instanceMethod yX11_written ∈ dm_W := dm_in (List.mem_append_right _ (dt_6 (List.mem_of_getElem? (i := 63) (by decide +kernel)))) (by decide +kernel)
theorem wd_1323 : Cond.code yX11_written cX11_written 2 (some .int) ∈ dm_W := dm_in (List.mem_append_right _ (dt_6 (List.mem_of_getElem? (i := 64) (by decide +kernel)))) (by decide +kernel)
theorem wd_1324 : Cond.methodLink RX11 342 yX11_writeShare ∈ dm_W := dm_in (List.mem_append_right _ (dt_6 (List.mem_of_getElem? (i := 65) (by decide +kernel)))) (by decide +kernel)
theorem wd_1326 : Cond.instanceMethod yX11_writeShare ∈ dm_W := dm_in (List.mem_append_right _ (dt_6 (List.mem_of_getElem? (i := 67) (by decide +kernel)))) (by decide +kernel)
theorem wd_1327 : Cond.code yX11_writeShare cX11_writeShare 10 none ∈ dm_W := dm_in (List.mem_append_right _ (dt_6 (List.mem_of_getElem? (i := 68) (by decide +kernel)))) (by decide +kernel)
theorem wd_1328 : Cond.methodLink RX11 338 yX11_bit ∈ dm_W := dm_in (List.mem_append_right _ (dt_6 (List.mem_of_getElem? (i := 69) (by decide +kernel)))) (by decide +kernel)
theorem wd_1330 : Cond.instanceMethod yX11_bit ∈ dm_W := dm_in (List.mem_append_right _ (dt_6 (List.mem_of_getElem? (i := 71) (by decide +kernel)))) (by decide +kernel)
theorem wd_1331 : Cond.code yX11_bit cX11_bit 2 none ∈ dm_W := dm_in (List.mem_append_right _ (dt_6 (List.mem_of_getElem? (i := 72) (by decide +kernel)))) (by decide +kernel)
theorem wd_1332 : Cond.methodLink RX11 348 yX11_writeHeight ∈ dm_W := dm_in (List.mem_append_right _ (dt_6 (List.mem_of_getElem? (i := 73) (by decide +kernel)))) (by decide +kernel)
theorem wd_1334 : Cond.instanceMethod yX11_writeHeight ∈ dm_W := dm_in (List.mem_append_right _ (dt_6 (List.mem_of_getElem? (i := 75) (by decide +kernel)))) (by decide +kernel)
theorem wd_1335 : Cond.code yX11_writeHeight cX11_writeHeight 11 none ∈ dm_W := dm_in (List.mem_append_right _ (dt_6 (List.mem_of_getElem? (i := 76) (by decide +kernel)))) (by decide +kernel)
theorem wd_1336 : Cond.methodLink RX11 345 yX11_number ∈ dm_W := dm_in (List.mem_append_right _ (dt_6 (List.mem_of_getElem? (i := 77) (by decide +kernel)))) (by decide +kernel)
theorem wd_1338 : Cond.instanceMethod yX11_number ∈ dm_W := dm_in (List.mem_append_right _ (dt_6 (List.mem_of_getElem? (i := 79) (by decide +kernel)))) (by decide +kernel)
theorem wd_1339 : Cond.code yX11_number cX11_number 5 none ∈ dm_W := dm_in (List.mem_append_right _ (dt_6 (List.mem_of_getElem? (i := 80) (by decide +kernel)))) (by decide +kernel)
theorem wd_1340 : Cond.methodLink RX11 317 yX11_unseen ∈ dm_W := dm_in (List.mem_append_right _ (dt_6 (List.mem_of_getElem? (i := 81) (by decide +kernel)))) (by decide +kernel)
theorem wd_1341 : Cond.methodLink RX11 321 yX11_history ∈ dm_W := dm_in (List.mem_append_right _ (dt_6 (List.mem_of_getElem? (i := 82) (by decide +kernel)))) (by decide +kernel)
theorem wd_1343 : Cond.instanceMethod yX11_history ∈ dm_W := dm_in (List.mem_append_right _ (dt_6 (List.mem_of_getElem? (i := 84) (by decide +kernel)))) (by decide +kernel)
theorem wd_1344 : Cond.code yX11_history cX11_history 4 (some .int) ∈ dm_W := dm_in (List.mem_append_right _ (dt_6 (List.mem_of_getElem? (i := 85) (by decide +kernel)))) (by decide +kernel)
theorem wd_1348 : Cond.code yX11_witness cX11_witness 11 (some .boolean) ∈ dm_W := dm_in (List.mem_append_right _ (dt_6 (List.mem_of_getElem? (i := 89) (by decide +kernel)))) (by decide +kernel)
theorem wd_1349 : Cond.methodLink RX11 325 yX11_turn ∈ dm_W := dm_in (List.mem_append_right _ (dt_6 (List.mem_of_getElem? (i := 90) (by decide +kernel)))) (by decide +kernel)
theorem wd_1351 : Cond.instanceMethod yX11_turn ∈ dm_W := dm_in (List.mem_append_right _ (dt_6 (List.mem_of_getElem? (i := 92) (by decide +kernel)))) (by decide +kernel)
theorem wd_1352 : Cond.code yX11_turn cX11_turn 16 (some .long) ∈ dm_W := dm_in (List.mem_append_right _ (dt_6 (List.mem_of_getElem? (i := 93) (by decide +kernel)))) (by decide +kernel)
theorem wd_1356 : Cond.code yX11_place cX11_place 1 (some .long) ∈ dm_W := dm_in (List.mem_append_right _ (dt_6 (List.mem_of_getElem? (i := 97) (by decide +kernel)))) (by decide +kernel)
theorem wd_1360 : Cond.code yX11_digits cX11_digits 1 (some .int) ∈ dm_W := dm_in (List.mem_append_right _ (dt_6 (List.mem_of_getElem? (i := 101) (by decide +kernel)))) (by decide +kernel)
theorem wd_1364 : Cond.code yX11_check cX11_check 13 (some .int) ∈ dm_W := dm_in (List.mem_append_right _ (dt_6 (List.mem_of_getElem? (i := 105) (by decide +kernel)))) (by decide +kernel)
theorem wd_1368 : Cond.code yX11_pack cX11_pack 2 (some .int) ∈ dm_W := dm_in (List.mem_append_right _ (dt_6 (List.mem_of_getElem? (i := 109) (by decide +kernel)))) (by decide +kernel)
theorem wd_1372 : Cond.code yX11_bit_ cX11_bit_ 2 (some .int) ∈ dm_W := dm_in (List.mem_append_right _ (dt_6 (List.mem_of_getElem? (i := 113) (by decide +kernel)))) (by decide +kernel)
theorem wd_1376 : Cond.code yX11_add cX11_add 5 (some .int) ∈ dm_W := dm_in (List.mem_append_right _ (dt_6 (List.mem_of_getElem? (i := 117) (by decide +kernel)))) (by decide +kernel)
theorem wd_1380 : Cond.code yX11_end cX11_end 2 (some .boolean) ∈ dm_W := dm_in (List.mem_append_right _ (dt_6 (List.mem_of_getElem? (i := 121) (by decide +kernel)))) (by decide +kernel)
theorem wd_1384 : Cond.code yX11_read cX11_read 1 (some .int) ∈ dm_W := dm_in (List.mem_append_right _ (dt_6 (List.mem_of_getElem? (i := 125) (by decide +kernel)))) (by decide +kernel)
theorem wd_1385 : Cond.methodLink RX11 365 yX11_readShare ∈ dm_W := dm_in (List.mem_append_right _ (dt_6 (List.mem_of_getElem? (i := 126) (by decide +kernel)))) (by decide +kernel)
theorem wd_1387 : Cond.instanceMethod yX11_readShare ∈ dm_W := dm_in (List.mem_append_right _ (dt_6 (List.mem_of_getElem? (i := 128) (by decide +kernel)))) (by decide +kernel)
theorem wd_1388 : Cond.code yX11_readShare cX11_readShare 7 (some .int) ∈ dm_W := dm_in (List.mem_append_right _ (dt_6 (List.mem_of_getElem? (i := 129) (by decide +kernel)))) (by decide +kernel)
theorem wd_1389 : Cond.methodLink RX11 358 yX11_fails ∈ dm_W := dm_in (List.mem_append_right _ (dt_6 (List.mem_of_getElem? (i := 130) (by decide +kernel)))) (by decide +kernel)
theorem wd_1391 : Cond.instanceMethod yX11_fails ∈ dm_W := dm_in (List.mem_append_right _ (dt_6 (List.mem_of_getElem? (i := 132) (by decide +kernel)))) (by decide +kernel)
theorem wd_1392 : Cond.code yX11_fails cX11_fails 2 none ∈ dm_W := dm_in (List.mem_append_right _ (dt_6 (List.mem_of_getElem? (i := 133) (by decide +kernel)))) (by decide +kernel)
theorem wd_1393 : Cond.methodLink RX11 361 yX11_next ∈ dm_W := dm_in (List.mem_append_right _ (dt_6 (List.mem_of_getElem? (i := 134) (by decide +kernel)))) (by decide +kernel)
theorem wd_1395 : Cond.instanceMethod yX11_next ∈ dm_W := dm_in (List.mem_append_right _ (dt_6 (List.mem_of_getElem? (i := 136) (by decide +kernel)))) (by decide +kernel)
theorem wd_1396 : Cond.code yX11_next cX11_next 1 (some .int) ∈ dm_W := dm_in (List.mem_append_right _ (dt_6 (List.mem_of_getElem? (i := 137) (by decide +kernel)))) (by decide +kernel)
theorem wd_1397 : Cond.methodLink RX11 378 yX11_readHeight ∈ dm_W := dm_in (List.mem_append_right _ (dt_6 (List.mem_of_getElem? (i := 138) (by decide +kernel)))) (by decide +kernel)
theorem wd_1399 : Cond.instanceMethod yX11_readHeight ∈ dm_W := dm_in (List.mem_append_right _ (dt_6 (List.mem_of_getElem? (i := 140) (by decide +kernel)))) (by decide +kernel)
theorem wd_1400 : Cond.code yX11_readHeight cX11_readHeight 17 (some .int) ∈ dm_W := dm_in (List.mem_append_right _ (dt_6 (List.mem_of_getElem? (i := 141) (by decide +kernel)))) (by decide +kernel)
theorem wd_1401 : Cond.methodLink RX11 371 yX11_readNumber ∈ dm_W := dm_in (List.mem_append_right _ (dt_6 (List.mem_of_getElem? (i := 142) (by decide +kernel)))) (by decide +kernel)
theorem wd_1403 : Cond.instanceMethod yX11_readNumber ∈ dm_W := dm_in (List.mem_append_right _ (dt_6 (List.mem_of_getElem? (i := 144) (by decide +kernel)))) (by decide +kernel)
theorem wd_1404 : Cond.code yX11_readNumber cX11_readNumber 5 (some .int) ∈ dm_W := dm_in (List.mem_append_right _ (dt_6 (List.mem_of_getElem? (i := 145) (by decide +kernel)))) (by decide +kernel)
theorem wd_1405 : Cond.methodLink RX11 374 yX11_step ∈ dm_W := dm_in (List.mem_append_right _ (dt_6 (List.mem_of_getElem? (i := 146) (by decide +kernel)))) (by decide +kernel)
theorem wd_1407 : Cond.instanceMethod yX11_step ∈ dm_W := dm_in (List.mem_append_right _ (dt_6 (List.mem_of_getElem? (i := 148) (by decide +kernel)))) (by decide +kernel)
theorem wd_1408 : Cond.code yX11_step cX11_step 4 (some .int) ∈ dm_W := dm_in (List.mem_append_right _ (dt_6 (List.mem_of_getElem? (i := 149) (by decide +kernel)))) (by decide +kernel)
theorem wd_1412 : Cond.code yX11_fault cX11_fault 1 (some .int) ∈ dm_W := dm_in (List.mem_append_right _ (dt_6 (List.mem_of_getElem? (i := 153) (by decide +kernel)))) (by decide +kernel)
theorem wd_1416 : Cond.code yX11_image cX11_image 2 (some .boolean) ∈ dm_W := dm_in (List.mem_append_right _ (dt_6 (List.mem_of_getElem? (i := 157) (by decide +kernel)))) (by decide +kernel)
theorem wd_1420 : Cond.code yX11_back cX11_back 2 (some .boolean) ∈ dm_W := dm_in (List.mem_append_right _ (dt_6 (List.mem_of_getElem? (i := 161) (by decide +kernel)))) (by decide +kernel)
theorem wd_1424 : Cond.code yX11_count cX11_count 4 (some .int) ∈ dm_W := dm_in (List.mem_append_right _ (dt_6 (List.mem_of_getElem? (i := 165) (by decide +kernel)))) (by decide +kernel)
theorem mo_0 : dm_Mok dm_tb 0 := ⟨wd_166, wd_65, ⟨by decide, by decide⟩, by decide, by decide⟩
theorem pd_0 : (parseMethodDescriptor (dm_tb 0).1.desc).map (fun d => d.parameters.length) = some 0 := by decide +kernel
theorem mo_1 : dm_Mok dm_tb 1 := ⟨wd_305, wd_65, ⟨by decide, by decide⟩, by decide, by decide⟩
theorem pd_1 : (parseMethodDescriptor (dm_tb 1).1.desc).map (fun d => d.parameters.length) = some 0 := by decide +kernel
theorem mo_2 : dm_Mok dm_tb 2 := ⟨wd_826, wd_65, ⟨by decide, by decide⟩, by decide, by decide⟩
theorem pd_2 : (parseMethodDescriptor (dm_tb 2).1.desc).map (fun d => d.parameters.length) = some 0 := by decide +kernel
theorem mo_3 : dm_Mok dm_tb 3 := ⟨wd_442, wd_65, ⟨by decide, by decide⟩, by decide, by decide⟩
theorem pd_3 : (parseMethodDescriptor (dm_tb 3).1.desc).map (fun d => d.parameters.length) = some 4 := by decide +kernel
theorem mo_4 : dm_Mok dm_tb 4 := ⟨wd_571, wd_65, ⟨by decide, by decide⟩, by decide, by decide⟩
theorem pd_4 : (parseMethodDescriptor (dm_tb 4).1.desc).map (fun d => d.parameters.length) = some 1 := by decide +kernel
theorem mo_5 : dm_Mok dm_tb 5 := ⟨wd_208, wd_67, ⟨by decide, by decide⟩, by decide, by decide⟩
theorem pd_5 : (parseMethodDescriptor (dm_tb 5).1.desc).map (fun d => d.parameters.length) = some 0 := by decide +kernel
theorem mo_6 : dm_Mok dm_tb 6 := ⟨wd_656, wd_67, ⟨by decide, by decide⟩, by decide, by decide⟩
theorem pd_6 : (parseMethodDescriptor (dm_tb 6).1.desc).map (fun d => d.parameters.length) = some 0 := by decide +kernel
theorem mo_7 : dm_Mok dm_tb 7 := ⟨wd_719, wd_67, ⟨by decide, by decide⟩, by decide, by decide⟩
theorem pd_7 : (parseMethodDescriptor (dm_tb 7).1.desc).map (fun d => d.parameters.length) = some 1 := by decide +kernel
theorem mo_8 : dm_Mok dm_tb 8 := ⟨wd_640, wd_67, ⟨by decide, by decide⟩, by decide, by decide⟩
theorem pd_8 : (parseMethodDescriptor (dm_tb 8).1.desc).map (fun d => d.parameters.length) = some 2 := by decide +kernel
theorem mo_9 : dm_Mok dm_tb 9 := ⟨wd_309, wd_67, ⟨by decide, by decide⟩, by decide, by decide⟩
theorem pd_9 : (parseMethodDescriptor (dm_tb 9).1.desc).map (fun d => d.parameters.length) = some 1 := by decide +kernel
theorem mo_10 : dm_Mok dm_tb 10 := ⟨wd_706, wd_67, ⟨by decide, by decide⟩, by decide, by decide⟩
theorem pd_10 : (parseMethodDescriptor (dm_tb 10).1.desc).map (fun d => d.parameters.length) = some 1 := by decide +kernel
theorem mo_11 : dm_Mok dm_tb 11 := ⟨wd_92, wd_61, ⟨by decide, by decide⟩, by decide, by decide⟩
theorem pd_11 : (parseMethodDescriptor (dm_tb 11).1.desc).map (fun d => d.parameters.length) = some 0 := by decide +kernel
theorem mo_12 : dm_Mok dm_tb 12 := ⟨wd_242, wd_61, ⟨by decide, by decide⟩, by decide, by decide⟩
theorem pd_12 : (parseMethodDescriptor (dm_tb 12).1.desc).map (fun d => d.parameters.length) = some 0 := by decide +kernel
theorem mo_13 : dm_Mok dm_tb 13 := ⟨wd_404, wd_61, ⟨by decide, by decide⟩, by decide, by decide⟩
theorem pd_13 : (parseMethodDescriptor (dm_tb 13).1.desc).map (fun d => d.parameters.length) = some 0 := by decide +kernel
theorem mo_14 : dm_Mok dm_tb 14 := ⟨wd_283, wd_61, ⟨by decide, by decide⟩, by decide, by decide⟩
theorem pd_14 : (parseMethodDescriptor (dm_tb 14).1.desc).map (fun d => d.parameters.length) = some 0 := by decide +kernel
theorem mo_15 : dm_Mok dm_tb 15 := ⟨wd_279, wd_61, ⟨by decide, by decide⟩, by decide, by decide⟩
theorem pd_15 : (parseMethodDescriptor (dm_tb 15).1.desc).map (fun d => d.parameters.length) = some 5 := by decide +kernel
theorem mo_16 : dm_Mok dm_tb 16 := ⟨wd_434, wd_61, ⟨by decide, by decide⟩, by decide, by decide⟩
theorem pd_16 : (parseMethodDescriptor (dm_tb 16).1.desc).map (fun d => d.parameters.length) = some 1 := by decide +kernel
theorem mo_17 : dm_Mok dm_tb 17 := ⟨wd_363, wd_61, ⟨by decide, by decide⟩, by decide, by decide⟩
theorem pd_17 : (parseMethodDescriptor (dm_tb 17).1.desc).map (fun d => d.parameters.length) = some 1 := by decide +kernel
theorem mo_18 : dm_Mok dm_tb 18 := ⟨wd_375, wd_61, ⟨by decide, by decide⟩, by decide, by decide⟩
theorem pd_18 : (parseMethodDescriptor (dm_tb 18).1.desc).map (fun d => d.parameters.length) = some 1 := by decide +kernel
theorem mo_19 : dm_Mok dm_tb 19 := ⟨wd_408, wd_61, ⟨by decide, by decide⟩, by decide, by decide⟩
theorem pd_19 : (parseMethodDescriptor (dm_tb 19).1.desc).map (fun d => d.parameters.length) = some 1 := by decide +kernel
theorem mo_20 : dm_Mok dm_tb 20 := ⟨wd_605, wd_61, ⟨by decide, by decide⟩, by decide, by decide⟩
theorem pd_20 : (parseMethodDescriptor (dm_tb 20).1.desc).map (fun d => d.parameters.length) = some 1 := by decide +kernel
theorem mo_21 : dm_Mok dm_tb 21 := ⟨wd_597, wd_61, ⟨by decide, by decide⟩, by decide, by decide⟩
theorem pd_21 : (parseMethodDescriptor (dm_tb 21).1.desc).map (fun d => d.parameters.length) = some 1 := by decide +kernel
theorem mo_22 : dm_Mok dm_tb 22 := ⟨wd_601, wd_61, ⟨by decide, by decide⟩, by decide, by decide⟩
theorem pd_22 : (parseMethodDescriptor (dm_tb 22).1.desc).map (fun d => d.parameters.length) = some 1 := by decide +kernel
theorem mo_23 : dm_Mok dm_tb 23 := ⟨wd_367, wd_61, ⟨by decide, by decide⟩, by decide, by decide⟩
theorem pd_23 : (parseMethodDescriptor (dm_tb 23).1.desc).map (fun d => d.parameters.length) = some 1 := by decide +kernel
theorem mo_24 : dm_Mok dm_tb 24 := ⟨wd_452, wd_61, ⟨by decide, by decide⟩, by decide, by decide⟩
theorem pd_24 : (parseMethodDescriptor (dm_tb 24).1.desc).map (fun d => d.parameters.length) = some 2 := by decide +kernel
theorem mo_25 : dm_Mok dm_tb 25 := ⟨wd_371, wd_61, ⟨by decide, by decide⟩, by decide, by decide⟩
theorem pd_25 : (parseMethodDescriptor (dm_tb 25).1.desc).map (fun d => d.parameters.length) = some 1 := by decide +kernel
theorem mo_26 : dm_Mok dm_tb 26 := ⟨wd_359, wd_61, ⟨by decide, by decide⟩, by decide, by decide⟩
theorem pd_26 : (parseMethodDescriptor (dm_tb 26).1.desc).map (fun d => d.parameters.length) = some 1 := by decide +kernel
theorem mo_27 : dm_Mok dm_tb 27 := ⟨wd_355, wd_61, ⟨by decide, by decide⟩, by decide, by decide⟩
theorem pd_27 : (parseMethodDescriptor (dm_tb 27).1.desc).map (fun d => d.parameters.length) = some 1 := by decide +kernel
theorem mo_28 : dm_Mok dm_tb 28 := ⟨wd_549, wd_61, ⟨by decide, by decide⟩, by decide, by decide⟩
theorem pd_28 : (parseMethodDescriptor (dm_tb 28).1.desc).map (fun d => d.parameters.length) = some 1 := by decide +kernel
theorem mo_29 : dm_Mok dm_tb 29 := ⟨wd_448, wd_61, ⟨by decide, by decide⟩, by decide, by decide⟩
theorem pd_29 : (parseMethodDescriptor (dm_tb 29).1.desc).map (fun d => d.parameters.length) = some 1 := by decide +kernel
theorem mo_30 : dm_Mok dm_tb 30 := ⟨wd_810, wd_61, ⟨by decide, by decide⟩, by decide, by decide⟩
theorem pd_30 : (parseMethodDescriptor (dm_tb 30).1.desc).map (fun d => d.parameters.length) = some 0 := by decide +kernel
theorem mo_31 : dm_Mok dm_tb 31 := ⟨wd_815, wd_61, ⟨by decide, by decide⟩, by decide, by decide⟩
theorem pd_31 : (parseMethodDescriptor (dm_tb 31).1.desc).map (fun d => d.parameters.length) = some 0 := by decide +kernel
theorem mo_32 : dm_Mok dm_tb 32 := ⟨wd_820, wd_61, ⟨by decide, by decide⟩, by decide, by decide⟩
theorem pd_32 : (parseMethodDescriptor (dm_tb 32).1.desc).map (fun d => d.parameters.length) = some 0 := by decide +kernel
theorem mo_33 : dm_Mok dm_tb 33 := ⟨wd_792, wd_61, ⟨by decide, by decide⟩, by decide, by decide⟩
theorem pd_33 : (parseMethodDescriptor (dm_tb 33).1.desc).map (fun d => d.parameters.length) = some 1 := by decide +kernel
theorem mo_34 : dm_Mok dm_tb 34 := ⟨wd_387, wd_72, ⟨by decide, by decide⟩, by decide, by decide⟩
theorem pd_34 : (parseMethodDescriptor (dm_tb 34).1.desc).map (fun d => d.parameters.length) = some 2 := by decide +kernel
theorem mo_35 : dm_Mok dm_tb 35 := ⟨wd_390, wd_72, ⟨by decide, by decide⟩, by decide, by decide⟩
theorem pd_35 : (parseMethodDescriptor (dm_tb 35).1.desc).map (fun d => d.parameters.length) = some 2 := by decide +kernel
theorem mo_36 : dm_Mok dm_tb 36 := ⟨wd_411, wd_72, ⟨by decide, by decide⟩, by decide, by decide⟩
theorem pd_36 : (parseMethodDescriptor (dm_tb 36).1.desc).map (fun d => d.parameters.length) = some 3 := by decide +kernel
theorem mo_37 : dm_Mok dm_tb 37 := ⟨wd_415, wd_72, ⟨by decide, by decide⟩, by decide, by decide⟩
theorem pd_37 : (parseMethodDescriptor (dm_tb 37).1.desc).map (fun d => d.parameters.length) = some 4 := by decide +kernel
theorem mo_38 : dm_Mok dm_tb 38 := ⟨wd_517, wd_72, ⟨by decide, by decide⟩, by decide, by decide⟩
theorem pd_38 : (parseMethodDescriptor (dm_tb 38).1.desc).map (fun d => d.parameters.length) = some 3 := by decide +kernel
theorem mo_39 : dm_Mok dm_tb 39 := ⟨wd_520, wd_72, ⟨by decide, by decide⟩, by decide, by decide⟩
theorem pd_39 : (parseMethodDescriptor (dm_tb 39).1.desc).map (fun d => d.parameters.length) = some 6 := by decide +kernel
theorem mo_40 : dm_Mok dm_tb 40 := ⟨wd_463, wd_72, ⟨by decide, by decide⟩, by decide, by decide⟩
theorem pd_40 : (parseMethodDescriptor (dm_tb 40).1.desc).map (fun d => d.parameters.length) = some 3 := by decide +kernel
theorem mo_41 : dm_Mok dm_tb 41 := ⟨wd_466, wd_72, ⟨by decide, by decide⟩, by decide, by decide⟩
theorem pd_41 : (parseMethodDescriptor (dm_tb 41).1.desc).map (fun d => d.parameters.length) = some 4 := by decide +kernel
theorem mo_42 : dm_Mok dm_tb 42 := ⟨wd_496, wd_72, ⟨by decide, by decide⟩, by decide, by decide⟩
theorem pd_42 : (parseMethodDescriptor (dm_tb 42).1.desc).map (fun d => d.parameters.length) = some 4 := by decide +kernel
theorem mo_43 : dm_Mok dm_tb 43 := ⟨wd_499, wd_72, ⟨by decide, by decide⟩, by decide, by decide⟩
theorem pd_43 : (parseMethodDescriptor (dm_tb 43).1.desc).map (fun d => d.parameters.length) = some 4 := by decide +kernel
theorem mo_44 : dm_Mok dm_tb 44 := ⟨wd_105, wd_63, ⟨by decide, by decide⟩, by decide, by decide⟩
theorem pd_44 : (parseMethodDescriptor (dm_tb 44).1.desc).map (fun d => d.parameters.length) = some 1 := by decide +kernel
theorem mo_45 : dm_Mok dm_tb 45 := ⟨wd_287, wd_63, ⟨by decide, by decide⟩, by decide, by decide⟩
theorem pd_45 : (parseMethodDescriptor (dm_tb 45).1.desc).map (fun d => d.parameters.length) = some 1 := by decide +kernel
theorem mo_46 : dm_Mok dm_tb 46 := ⟨wd_254, wd_63, ⟨by decide, by decide⟩, by decide, by decide⟩
theorem pd_46 : (parseMethodDescriptor (dm_tb 46).1.desc).map (fun d => d.parameters.length) = some 2 := by decide +kernel
theorem mo_47 : dm_Mok dm_tb 47 := ⟨wd_710, wd_63, ⟨by decide, by decide⟩, by decide, by decide⟩
theorem pd_47 : (parseMethodDescriptor (dm_tb 47).1.desc).map (fun d => d.parameters.length) = some 2 := by decide +kernel
theorem mo_48 : dm_Mok dm_tb 48 := ⟨wd_258, wd_63, ⟨by decide, by decide⟩, by decide, by decide⟩
theorem pd_48 : (parseMethodDescriptor (dm_tb 48).1.desc).map (fun d => d.parameters.length) = some 1 := by decide +kernel
theorem mo_49 : dm_Mok dm_tb 49 := ⟨wd_193, wd_66, ⟨by decide, by decide⟩, by decide, by decide⟩
theorem pd_49 : (parseMethodDescriptor (dm_tb 49).1.desc).map (fun d => d.parameters.length) = some 0 := by decide +kernel
theorem mo_50 : dm_Mok dm_tb 50 := ⟨wd_662, wd_66, ⟨by decide, by decide⟩, by decide, by decide⟩
theorem pd_50 : (parseMethodDescriptor (dm_tb 50).1.desc).map (fun d => d.parameters.length) = some 2 := by decide +kernel
theorem mo_51 : dm_Mok dm_tb 51 := ⟨wd_587, wd_66, ⟨by decide, by decide⟩, by decide, by decide⟩
theorem pd_51 : (parseMethodDescriptor (dm_tb 51).1.desc).map (fun d => d.parameters.length) = some 3 := by decide +kernel
theorem mo_52 : dm_Mok dm_tb 52 := ⟨wd_608, wd_66, ⟨by decide, by decide⟩, by decide, by decide⟩
theorem pd_52 : (parseMethodDescriptor (dm_tb 52).1.desc).map (fun d => d.parameters.length) = some 2 := by decide +kernel
theorem mo_53 : dm_Mok dm_tb 53 := ⟨wd_590, wd_66, ⟨by decide, by decide⟩, by decide, by decide⟩
theorem pd_53 : (parseMethodDescriptor (dm_tb 53).1.desc).map (fun d => d.parameters.length) = some 3 := by decide +kernel
theorem mo_54 : dm_Mok dm_tb 54 := ⟨wd_223, wd_68, ⟨by decide, by decide⟩, by decide, by decide⟩
theorem pd_54 : (parseMethodDescriptor (dm_tb 54).1.desc).map (fun d => d.parameters.length) = some 1 := by decide +kernel
theorem mo_55 : dm_Mok dm_tb 55 := ⟨wd_780, wd_68, ⟨by decide, by decide⟩, by decide, by decide⟩
theorem pd_55 : (parseMethodDescriptor (dm_tb 55).1.desc).map (fun d => d.parameters.length) = some 0 := by decide +kernel
theorem mo_56 : dm_Mok dm_tb 56 := ⟨wd_737, wd_68, ⟨by decide, by decide⟩, by decide, by decide⟩
theorem pd_56 : (parseMethodDescriptor (dm_tb 56).1.desc).map (fun d => d.parameters.length) = some 1 := by decide +kernel
theorem mo_57 : dm_Mok dm_tb 57 := ⟨wd_749, wd_68, ⟨by decide, by decide⟩, by decide, by decide⟩
theorem pd_57 : (parseMethodDescriptor (dm_tb 57).1.desc).map (fun d => d.parameters.length) = some 0 := by decide +kernel
theorem mo_58 : dm_Mok dm_tb 58 := ⟨wd_745, wd_68, ⟨by decide, by decide⟩, by decide, by decide⟩
theorem pd_58 : (parseMethodDescriptor (dm_tb 58).1.desc).map (fun d => d.parameters.length) = some 1 := by decide +kernel
theorem mo_59 : dm_Mok dm_tb 59 := ⟨wd_757, wd_68, ⟨by decide, by decide⟩, by decide, by decide⟩
theorem pd_59 : (parseMethodDescriptor (dm_tb 59).1.desc).map (fun d => d.parameters.length) = some 0 := by decide +kernel
theorem mo_60 : dm_Mok dm_tb 60 := ⟨wd_753, wd_68, ⟨by decide, by decide⟩, by decide, by decide⟩
theorem pd_60 : (parseMethodDescriptor (dm_tb 60).1.desc).map (fun d => d.parameters.length) = some 0 := by decide +kernel
theorem mo_61 : dm_Mok dm_tb 61 := ⟨wd_766, wd_68, ⟨by decide, by decide⟩, by decide, by decide⟩
theorem pd_61 : (parseMethodDescriptor (dm_tb 61).1.desc).map (fun d => d.parameters.length) = some 0 := by decide +kernel
theorem mo_62 : dm_Mok dm_tb 62 := ⟨wd_741, wd_68, ⟨by decide, by decide⟩, by decide, by decide⟩
theorem pd_62 : (parseMethodDescriptor (dm_tb 62).1.desc).map (fun d => d.parameters.length) = some 2 := by decide +kernel
theorem mo_63 : dm_Mok dm_tb 63 := ⟨wd_762, wd_68, ⟨by decide, by decide⟩, by decide, by decide⟩
theorem pd_63 : (parseMethodDescriptor (dm_tb 63).1.desc).map (fun d => d.parameters.length) = some 3 := by decide +kernel
theorem mo_64 : dm_Mok dm_tb 64 := ⟨wd_771, wd_68, ⟨by decide, by decide⟩, by decide, by decide⟩
theorem pd_64 : (parseMethodDescriptor (dm_tb 64).1.desc).map (fun d => d.parameters.length) = some 3 := by decide +kernel
theorem mo_65 : dm_Mok dm_tb 65 := ⟨wd_556, wd_73, ⟨by decide, by decide⟩, by decide, by decide⟩
theorem pd_65 : (parseMethodDescriptor (dm_tb 65).1.desc).map (fun d => d.parameters.length) = some 3 := by decide +kernel
theorem mo_66 : dm_Mok dm_tb 66 := ⟨wd_559, wd_73, ⟨by decide, by decide⟩, by decide, by decide⟩
theorem pd_66 : (parseMethodDescriptor (dm_tb 66).1.desc).map (fun d => d.parameters.length) = some 5 := by decide +kernel
theorem mo_67 : dm_Mok dm_tb 67 := ⟨wd_670, wd_73, ⟨by decide, by decide⟩, by decide, by decide⟩
theorem pd_67 : (parseMethodDescriptor (dm_tb 67).1.desc).map (fun d => d.parameters.length) = some 3 := by decide +kernel
theorem mo_68 : dm_Mok dm_tb 68 := ⟨wd_673, wd_73, ⟨by decide, by decide⟩, by decide, by decide⟩
theorem pd_68 : (parseMethodDescriptor (dm_tb 68).1.desc).map (fun d => d.parameters.length) = some 6 := by decide +kernel
theorem mo_69 : dm_Mok dm_tb 69 := ⟨wd_615, wd_73, ⟨by decide, by decide⟩, by decide, by decide⟩
theorem pd_69 : (parseMethodDescriptor (dm_tb 69).1.desc).map (fun d => d.parameters.length) = some 3 := by decide +kernel
theorem mo_70 : dm_Mok dm_tb 70 := ⟨wd_618, wd_73, ⟨by decide, by decide⟩, by decide, by decide⟩
theorem pd_70 : (parseMethodDescriptor (dm_tb 70).1.desc).map (fun d => d.parameters.length) = some 4 := by decide +kernel
theorem mo_71 : dm_Mok dm_tb 71 := ⟨wd_98, wd_62, ⟨by decide, by decide⟩, by decide, by decide⟩
theorem pd_71 : (parseMethodDescriptor (dm_tb 71).1.desc).map (fun d => d.parameters.length) = some 0 := by decide +kernel
theorem mo_72 : dm_Mok dm_tb 72 := ⟨wd_246, wd_62, ⟨by decide, by decide⟩, by decide, by decide⟩
theorem pd_72 : (parseMethodDescriptor (dm_tb 72).1.desc).map (fun d => d.parameters.length) = some 0 := by decide +kernel
theorem mo_73 : dm_Mok dm_tb 73 := ⟨wd_301, wd_62, ⟨by decide, by decide⟩, by decide, by decide⟩
theorem pd_73 : (parseMethodDescriptor (dm_tb 73).1.desc).map (fun d => d.parameters.length) = some 0 := by decide +kernel
theorem mo_74 : dm_Mok dm_tb 74 := ⟨wd_438, wd_62, ⟨by decide, by decide⟩, by decide, by decide⟩
theorem pd_74 : (parseMethodDescriptor (dm_tb 74).1.desc).map (fun d => d.parameters.length) = some 1 := by decide +kernel
theorem mo_75 : dm_Mok dm_tb 75 := ⟨wd_383, wd_62, ⟨by decide, by decide⟩, by decide, by decide⟩
theorem pd_75 : (parseMethodDescriptor (dm_tb 75).1.desc).map (fun d => d.parameters.length) = some 1 := by decide +kernel
theorem mo_76 : dm_Mok dm_tb 76 := ⟨wd_482, wd_62, ⟨by decide, by decide⟩, by decide, by decide⟩
theorem pd_76 : (parseMethodDescriptor (dm_tb 76).1.desc).map (fun d => d.parameters.length) = some 2 := by decide +kernel
theorem mo_77 : dm_Mok dm_tb 77 := ⟨wd_295, wd_62, ⟨by decide, by decide⟩, by decide, by decide⟩
theorem pd_77 : (parseMethodDescriptor (dm_tb 77).1.desc).map (fun d => d.parameters.length) = some 1 := by decide +kernel
theorem mo_78 : dm_Mok dm_tb 78 := ⟨wd_379, wd_62, ⟨by decide, by decide⟩, by decide, by decide⟩
theorem pd_78 : (parseMethodDescriptor (dm_tb 78).1.desc).map (fun d => d.parameters.length) = some 2 := by decide +kernel
theorem mo_79 : dm_Mok dm_tb 79 := ⟨wd_395, wd_62, ⟨by decide, by decide⟩, by decide, by decide⟩
theorem pd_79 : (parseMethodDescriptor (dm_tb 79).1.desc).map (fun d => d.parameters.length) = some 1 := by decide +kernel
theorem mo_80 : dm_Mok dm_tb 80 := ⟨wd_400, wd_62, ⟨by decide, by decide⟩, by decide, by decide⟩
theorem pd_80 : (parseMethodDescriptor (dm_tb 80).1.desc).map (fun d => d.parameters.length) = some 1 := by decide +kernel
theorem mo_81 : dm_Mok dm_tb 81 := ⟨wd_250, wd_62, ⟨by decide, by decide⟩, by decide, by decide⟩
theorem pd_81 : (parseMethodDescriptor (dm_tb 81).1.desc).map (fun d => d.parameters.length) = some 1 := by decide +kernel
theorem mo_82 : dm_Mok dm_tb 82 := ⟨wd_420, wd_62, ⟨by decide, by decide⟩, by decide, by decide⟩
theorem pd_82 : (parseMethodDescriptor (dm_tb 82).1.desc).map (fun d => d.parameters.length) = some 1 := by decide +kernel
theorem mo_83 : dm_Mok dm_tb 83 := ⟨wd_486, wd_62, ⟨by decide, by decide⟩, by decide, by decide⟩
theorem pd_83 : (parseMethodDescriptor (dm_tb 83).1.desc).map (fun d => d.parameters.length) = some 1 := by decide +kernel
theorem mo_84 : dm_Mok dm_tb 84 := ⟨wd_291, wd_62, ⟨by decide, by decide⟩, by decide, by decide⟩
theorem pd_84 : (parseMethodDescriptor (dm_tb 84).1.desc).map (fun d => d.parameters.length) = some 1 := by decide +kernel
theorem mo_85 : dm_Mok dm_tb 85 := ⟨wd_424, wd_62, ⟨by decide, by decide⟩, by decide, by decide⟩
theorem pd_85 : (parseMethodDescriptor (dm_tb 85).1.desc).map (fun d => d.parameters.length) = some 1 := by decide +kernel
theorem mo_86 : dm_Mok dm_tb 86 := ⟨wd_492, wd_62, ⟨by decide, by decide⟩, by decide, by decide⟩
theorem pd_86 : (parseMethodDescriptor (dm_tb 86).1.desc).map (fun d => d.parameters.length) = some 2 := by decide +kernel
theorem mo_87 : dm_Mok dm_tb 87 := ⟨wd_698, wd_62, ⟨by decide, by decide⟩, by decide, by decide⟩
theorem pd_87 : (parseMethodDescriptor (dm_tb 87).1.desc).map (fun d => d.parameters.length) = some 3 := by decide +kernel
theorem mo_88 : dm_Mok dm_tb 88 := ⟨wd_470, wd_62, ⟨by decide, by decide⟩, by decide, by decide⟩
theorem pd_88 : (parseMethodDescriptor (dm_tb 88).1.desc).map (fun d => d.parameters.length) = some 1 := by decide +kernel
theorem mo_89 : dm_Mok dm_tb 89 := ⟨wd_473, wd_62, ⟨by decide, by decide⟩, by decide, by decide⟩
theorem pd_89 : (parseMethodDescriptor (dm_tb 89).1.desc).map (fun d => d.parameters.length) = some 3 := by decide +kernel
theorem mo_90 : dm_Mok dm_tb 90 := ⟨wd_796, wd_62, ⟨by decide, by decide⟩, by decide, by decide⟩
theorem pd_90 : (parseMethodDescriptor (dm_tb 90).1.desc).map (fun d => d.parameters.length) = some 1 := by decide +kernel
theorem mo_91 : dm_Mok dm_tb 91 := ⟨wd_634, wd_79, ⟨by decide, by decide⟩, by decide, by decide⟩
theorem pd_91 : (parseMethodDescriptor (dm_tb 91).1.desc).map (fun d => d.parameters.length) = some 4 := by decide +kernel
theorem mo_92 : dm_Mok dm_tb 92 := ⟨wd_648, wd_79, ⟨by decide, by decide⟩, by decide, by decide⟩
theorem pd_92 : (parseMethodDescriptor (dm_tb 92).1.desc).map (fun d => d.parameters.length) = some 4 := by decide +kernel
theorem mo_93 : dm_Mok dm_tb 93 := ⟨wd_651, wd_79, ⟨by decide, by decide⟩, by decide, by decide⟩
theorem pd_93 : (parseMethodDescriptor (dm_tb 93).1.desc).map (fun d => d.parameters.length) = some 2 := by decide +kernel
theorem mo_94 : dm_Mok dm_tb 94 := ⟨wd_84, wd_60, ⟨by decide, by decide⟩, by decide, by decide⟩
theorem pd_94 : (parseMethodDescriptor (dm_tb 94).1.desc).map (fun d => d.parameters.length) = some 0 := by decide +kernel
theorem mo_95 : dm_Mok dm_tb 95 := ⟨wd_347, wd_60, ⟨by decide, by decide⟩, by decide, by decide⟩
theorem pd_95 : (parseMethodDescriptor (dm_tb 95).1.desc).map (fun d => d.parameters.length) = some 0 := by decide +kernel
theorem mo_96 : dm_Mok dm_tb 96 := ⟨wd_351, wd_60, ⟨by decide, by decide⟩, by decide, by decide⟩
theorem pd_96 : (parseMethodDescriptor (dm_tb 96).1.desc).map (fun d => d.parameters.length) = some 1 := by decide +kernel
theorem mo_97 : dm_Mok dm_tb 97 := ⟨wd_456, wd_60, ⟨by decide, by decide⟩, by decide, by decide⟩
theorem pd_97 : (parseMethodDescriptor (dm_tb 97).1.desc).map (fun d => d.parameters.length) = some 1 := by decide +kernel
theorem mo_98 : dm_Mok dm_tb 98 := ⟨wd_505, wd_60, ⟨by decide, by decide⟩, by decide, by decide⟩
theorem pd_98 : (parseMethodDescriptor (dm_tb 98).1.desc).map (fun d => d.parameters.length) = some 2 := by decide +kernel
theorem mo_99 : dm_Mok dm_tb 99 := ⟨wd_524, wd_60, ⟨by decide, by decide⟩, by decide, by decide⟩
theorem pd_99 : (parseMethodDescriptor (dm_tb 99).1.desc).map (fun d => d.parameters.length) = some 1 := by decide +kernel
theorem mo_100 : dm_Mok dm_tb 100 := ⟨wd_532, wd_60, ⟨by decide, by decide⟩, by decide, by decide⟩
theorem pd_100 : (parseMethodDescriptor (dm_tb 100).1.desc).map (fun d => d.parameters.length) = some 1 := by decide +kernel
theorem mo_101 : dm_Mok dm_tb 101 := ⟨wd_536, wd_60, ⟨by decide, by decide⟩, by decide, by decide⟩
theorem pd_101 : (parseMethodDescriptor (dm_tb 101).1.desc).map (fun d => d.parameters.length) = some 2 := by decide +kernel
theorem mo_102 : dm_Mok dm_tb 102 := ⟨wd_540, wd_60, ⟨by decide, by decide⟩, by decide, by decide⟩
theorem pd_102 : (parseMethodDescriptor (dm_tb 102).1.desc).map (fun d => d.parameters.length) = some 1 := by decide +kernel
theorem mo_103 : dm_Mok dm_tb 103 := ⟨wd_545, wd_60, ⟨by decide, by decide⟩, by decide, by decide⟩
theorem pd_103 : (parseMethodDescriptor (dm_tb 103).1.desc).map (fun d => d.parameters.length) = some 2 := by decide +kernel
theorem mo_104 : dm_Mok dm_tb 104 := ⟨wd_567, wd_60, ⟨by decide, by decide⟩, by decide, by decide⟩
theorem pd_104 : (parseMethodDescriptor (dm_tb 104).1.desc).map (fun d => d.parameters.length) = some 0 := by decide +kernel
theorem mo_105 : dm_Mok dm_tb 105 := ⟨wd_578, wd_60, ⟨by decide, by decide⟩, by decide, by decide⟩
theorem pd_105 : (parseMethodDescriptor (dm_tb 105).1.desc).map (fun d => d.parameters.length) = some 2 := by decide +kernel
theorem mo_106 : dm_Mok dm_tb 106 := ⟨wd_583, wd_60, ⟨by decide, by decide⟩, by decide, by decide⟩
theorem pd_106 : (parseMethodDescriptor (dm_tb 106).1.desc).map (fun d => d.parameters.length) = some 2 := by decide +kernel
theorem mo_107 : dm_Mok dm_tb 107 := ⟨wd_612, wd_60, ⟨by decide, by decide⟩, by decide, by decide⟩
theorem pd_107 : (parseMethodDescriptor (dm_tb 107).1.desc).map (fun d => d.parameters.length) = some 2 := by decide +kernel
theorem mo_108 : dm_Mok dm_tb 108 := ⟨wd_834, wd_60, ⟨by decide, by decide⟩, by decide, by decide⟩
theorem pd_108 : (parseMethodDescriptor (dm_tb 108).1.desc).map (fun d => d.parameters.length) = some 3 := by decide +kernel
theorem mo_109 : dm_Mok dm_tb 109 := ⟨wd_907, wd_60, ⟨by decide, by decide⟩, by decide, by decide⟩
theorem pd_109 : (parseMethodDescriptor (dm_tb 109).1.desc).map (fun d => d.parameters.length) = some 3 := by decide +kernel
theorem mo_110 : dm_Mok dm_tb 110 := ⟨wd_623, wd_60, ⟨by decide, by decide⟩, by decide, by decide⟩
theorem pd_110 : (parseMethodDescriptor (dm_tb 110).1.desc).map (fun d => d.parameters.length) = some 2 := by decide +kernel
theorem mo_111 : dm_Mok dm_tb 111 := ⟨wd_666, wd_60, ⟨by decide, by decide⟩, by decide, by decide⟩
theorem pd_111 : (parseMethodDescriptor (dm_tb 111).1.desc).map (fun d => d.parameters.length) = some 3 := by decide +kernel
theorem mo_112 : dm_Mok dm_tb 112 := ⟨wd_679, wd_60, ⟨by decide, by decide⟩, by decide, by decide⟩
theorem pd_112 : (parseMethodDescriptor (dm_tb 112).1.desc).map (fun d => d.parameters.length) = some 0 := by decide +kernel
theorem mo_113 : dm_Mok dm_tb 113 := ⟨wd_683, wd_60, ⟨by decide, by decide⟩, by decide, by decide⟩
theorem pd_113 : (parseMethodDescriptor (dm_tb 113).1.desc).map (fun d => d.parameters.length) = some 0 := by decide +kernel
theorem mo_114 : dm_Mok dm_tb 114 := ⟨wd_687, wd_60, ⟨by decide, by decide⟩, by decide, by decide⟩
theorem pd_114 : (parseMethodDescriptor (dm_tb 114).1.desc).map (fun d => d.parameters.length) = some 6 := by decide +kernel
theorem mo_115 : dm_Mok dm_tb 115 := ⟨wd_702, wd_60, ⟨by decide, by decide⟩, by decide, by decide⟩
theorem pd_115 : (parseMethodDescriptor (dm_tb 115).1.desc).map (fun d => d.parameters.length) = some 1 := by decide +kernel
theorem mo_116 : dm_Mok dm_tb 116 := ⟨wd_715, wd_60, ⟨by decide, by decide⟩, by decide, by decide⟩
theorem pd_116 : (parseMethodDescriptor (dm_tb 116).1.desc).map (fun d => d.parameters.length) = some 1 := by decide +kernel
theorem mo_117 : dm_Mok dm_tb 117 := ⟨wd_724, wd_60, ⟨by decide, by decide⟩, by decide, by decide⟩
theorem pd_117 : (parseMethodDescriptor (dm_tb 117).1.desc).map (fun d => d.parameters.length) = some 2 := by decide +kernel
theorem mo_118 : dm_Mok dm_tb 118 := ⟨wd_729, wd_60, ⟨by decide, by decide⟩, by decide, by decide⟩
theorem pd_118 : (parseMethodDescriptor (dm_tb 118).1.desc).map (fun d => d.parameters.length) = some 1 := by decide +kernel
theorem mo_119 : dm_Mok dm_tb 119 := ⟨wd_733, wd_60, ⟨by decide, by decide⟩, by decide, by decide⟩
theorem pd_119 : (parseMethodDescriptor (dm_tb 119).1.desc).map (fun d => d.parameters.length) = some 0 := by decide +kernel
theorem mo_120 : dm_Mok dm_tb 120 := ⟨wd_784, wd_60, ⟨by decide, by decide⟩, by decide, by decide⟩
theorem pd_120 : (parseMethodDescriptor (dm_tb 120).1.desc).map (fun d => d.parameters.length) = some 0 := by decide +kernel
theorem mo_121 : dm_Mok dm_tb 121 := ⟨wd_788, wd_60, ⟨by decide, by decide⟩, by decide, by decide⟩
theorem pd_121 : (parseMethodDescriptor (dm_tb 121).1.desc).map (fun d => d.parameters.length) = some 0 := by decide +kernel
theorem mo_122 : dm_Mok dm_tb 122 := ⟨wd_802, wd_60, ⟨by decide, by decide⟩, by decide, by decide⟩
theorem pd_122 : (parseMethodDescriptor (dm_tb 122).1.desc).map (fun d => d.parameters.length) = some 0 := by decide +kernel
theorem mo_123 : dm_Mok dm_tb 123 := ⟨wd_806, wd_60, ⟨by decide, by decide⟩, by decide, by decide⟩
theorem pd_123 : (parseMethodDescriptor (dm_tb 123).1.desc).map (fun d => d.parameters.length) = some 1 := by decide +kernel
theorem mo_124 : dm_Mok dm_tb 124 := ⟨wd_238, wd_60, ⟨by decide, by decide⟩, by decide, by decide⟩
theorem pd_124 : (parseMethodDescriptor (dm_tb 124).1.desc).map (fun d => d.parameters.length) = some 0 := by decide +kernel
theorem mo_125 : dm_Mok dm_tb 125 := ⟨wd_430, wd_60, ⟨by decide, by decide⟩, by decide, by decide⟩
theorem pd_125 : (parseMethodDescriptor (dm_tb 125).1.desc).map (fun d => d.parameters.length) = some 4 := by decide +kernel
theorem mo_126 : dm_Mok dm_tb 126 := ⟨wd_509, wd_60, ⟨by decide, by decide⟩, by decide, by decide⟩
theorem pd_126 : (parseMethodDescriptor (dm_tb 126).1.desc).map (fun d => d.parameters.length) = some 2 := by decide +kernel
theorem mo_127 : dm_Mok dm_tb 127 := ⟨wd_553, wd_60, ⟨by decide, by decide⟩, by decide, by decide⟩
theorem pd_127 : (parseMethodDescriptor (dm_tb 127).1.desc).map (fun d => d.parameters.length) = some 2 := by decide +kernel
theorem mo_128 : dm_Mok dm_tb 128 := ⟨wd_460, wd_60, ⟨by decide, by decide⟩, by decide, by decide⟩
theorem pd_128 : (parseMethodDescriptor (dm_tb 128).1.desc).map (fun d => d.parameters.length) = some 1 := by decide +kernel
theorem mo_129 : dm_Mok dm_tb 129 := ⟨wd_514, wd_60, ⟨by decide, by decide⟩, by decide, by decide⟩
theorem pd_129 : (parseMethodDescriptor (dm_tb 129).1.desc).map (fun d => d.parameters.length) = some 3 := by decide +kernel
theorem mo_130 : dm_Mok dm_tb 130 := ⟨wd_528, wd_60, ⟨by decide, by decide⟩, by decide, by decide⟩
theorem pd_130 : (parseMethodDescriptor (dm_tb 130).1.desc).map (fun d => d.parameters.length) = some 1 := by decide +kernel
theorem mo_131 : dm_Mok dm_tb 131 := ⟨wd_694, wd_60, ⟨by decide, by decide⟩, by decide, by decide⟩
theorem pd_131 : (parseMethodDescriptor (dm_tb 131).1.desc).map (fun d => d.parameters.length) = some 4 := by decide +kernel
theorem mo_132 : dm_Mok dm_tb 132 := ⟨wd_631, wd_60, ⟨by decide, by decide⟩, by decide, by decide⟩
theorem pd_132 : (parseMethodDescriptor (dm_tb 132).1.desc).map (fun d => d.parameters.length) = some 1 := by decide +kernel
theorem mo_133 : dm_Mok dm_tb 133 := ⟨wd_690, wd_60, ⟨by decide, by decide⟩, by decide, by decide⟩
theorem pd_133 : (parseMethodDescriptor (dm_tb 133).1.desc).map (fun d => d.parameters.length) = some 2 := by decide +kernel
theorem mo_134 : dm_Mok dm_tb 134 := ⟨wd_912, wd_71, ⟨by decide, by decide⟩, by decide, by decide⟩
theorem pd_134 : (parseMethodDescriptor (dm_tb 134).1.desc).map (fun d => d.parameters.length) = some 0 := by decide +kernel
theorem mo_135 : dm_Mok dm_tb 135 := ⟨wd_917, wd_71, ⟨by decide, by decide⟩, by decide, by decide⟩
theorem pd_135 : (parseMethodDescriptor (dm_tb 135).1.desc).map (fun d => d.parameters.length) = some 0 := by decide +kernel
theorem mo_136 : dm_Mok dm_tb 136 := ⟨wd_1168, wd_71, ⟨by decide, by decide⟩, by decide, by decide⟩
theorem pd_136 : (parseMethodDescriptor (dm_tb 136).1.desc).map (fun d => d.parameters.length) = some 1 := by decide +kernel
theorem mo_137 : dm_Mok dm_tb 137 := ⟨wd_1164, wd_71, ⟨by decide, by decide⟩, by decide, by decide⟩
theorem pd_137 : (parseMethodDescriptor (dm_tb 137).1.desc).map (fun d => d.parameters.length) = some 1 := by decide +kernel
theorem mo_138 : dm_Mok dm_tb 138 := ⟨wd_1172, wd_71, ⟨by decide, by decide⟩, by decide, by decide⟩
theorem pd_138 : (parseMethodDescriptor (dm_tb 138).1.desc).map (fun d => d.parameters.length) = some 1 := by decide +kernel
theorem mo_139 : dm_Mok dm_tb 139 := ⟨wd_1184, wd_71, ⟨by decide, by decide⟩, by decide, by decide⟩
theorem pd_139 : (parseMethodDescriptor (dm_tb 139).1.desc).map (fun d => d.parameters.length) = some 2 := by decide +kernel
theorem mo_140 : dm_Mok dm_tb 140 := ⟨wd_922, wd_71, ⟨by decide, by decide⟩, by decide, by decide⟩
theorem pd_140 : (parseMethodDescriptor (dm_tb 140).1.desc).map (fun d => d.parameters.length) = some 3 := by decide +kernel
theorem mo_141 : dm_Mok dm_tb 141 := ⟨wd_1192, wd_71, ⟨by decide, by decide⟩, by decide, by decide⟩
theorem pd_141 : (parseMethodDescriptor (dm_tb 141).1.desc).map (fun d => d.parameters.length) = some 1 := by decide +kernel
theorem mo_142 : dm_Mok dm_tb 142 := ⟨wd_1176, wd_71, ⟨by decide, by decide⟩, by decide, by decide⟩
theorem pd_142 : (parseMethodDescriptor (dm_tb 142).1.desc).map (fun d => d.parameters.length) = some 1 := by decide +kernel
theorem mo_143 : dm_Mok dm_tb 143 := ⟨wd_943, wd_71, ⟨by decide, by decide⟩, by decide, by decide⟩
theorem pd_143 : (parseMethodDescriptor (dm_tb 143).1.desc).map (fun d => d.parameters.length) = some 1 := by decide +kernel
theorem mo_144 : dm_Mok dm_tb 144 := ⟨wd_947, wd_71, ⟨by decide, by decide⟩, by decide, by decide⟩
theorem pd_144 : (parseMethodDescriptor (dm_tb 144).1.desc).map (fun d => d.parameters.length) = some 1 := by decide +kernel
theorem mo_145 : dm_Mok dm_tb 145 := ⟨wd_939, wd_71, ⟨by decide, by decide⟩, by decide, by decide⟩
theorem pd_145 : (parseMethodDescriptor (dm_tb 145).1.desc).map (fun d => d.parameters.length) = some 2 := by decide +kernel
theorem mo_146 : dm_Mok dm_tb 146 := ⟨wd_1212, wd_71, ⟨by decide, by decide⟩, by decide, by decide⟩
theorem pd_146 : (parseMethodDescriptor (dm_tb 146).1.desc).map (fun d => d.parameters.length) = some 2 := by decide +kernel
theorem mo_147 : dm_Mok dm_tb 147 := ⟨wd_1228, wd_71, ⟨by decide, by decide⟩, by decide, by decide⟩
theorem pd_147 : (parseMethodDescriptor (dm_tb 147).1.desc).map (fun d => d.parameters.length) = some 2 := by decide +kernel
theorem mo_148 : dm_Mok dm_tb 148 := ⟨wd_1220, wd_71, ⟨by decide, by decide⟩, by decide, by decide⟩
theorem pd_148 : (parseMethodDescriptor (dm_tb 148).1.desc).map (fun d => d.parameters.length) = some 3 := by decide +kernel
theorem mo_149 : dm_Mok dm_tb 149 := ⟨wd_1224, wd_71, ⟨by decide, by decide⟩, by decide, by decide⟩
theorem pd_149 : (parseMethodDescriptor (dm_tb 149).1.desc).map (fun d => d.parameters.length) = some 1 := by decide +kernel
theorem mo_150 : dm_Mok dm_tb 150 := ⟨wd_1216, wd_71, ⟨by decide, by decide⟩, by decide, by decide⟩
theorem pd_150 : (parseMethodDescriptor (dm_tb 150).1.desc).map (fun d => d.parameters.length) = some 4 := by decide +kernel
theorem mo_151 : dm_Mok dm_tb 151 := ⟨wd_935, wd_71, ⟨by decide, by decide⟩, by decide, by decide⟩
theorem pd_151 : (parseMethodDescriptor (dm_tb 151).1.desc).map (fun d => d.parameters.length) = some 2 := by decide +kernel
theorem mo_152 : dm_Mok dm_tb 152 := ⟨wd_930, wd_71, ⟨by decide, by decide⟩, by decide, by decide⟩
theorem pd_152 : (parseMethodDescriptor (dm_tb 152).1.desc).map (fun d => d.parameters.length) = some 2 := by decide +kernel
theorem mo_153 : dm_Mok dm_tb 153 := ⟨wd_926, wd_71, ⟨by decide, by decide⟩, by decide, by decide⟩
theorem pd_153 : (parseMethodDescriptor (dm_tb 153).1.desc).map (fun d => d.parameters.length) = some 2 := by decide +kernel
theorem mo_154 : dm_Mok dm_tb 154 := ⟨wd_1180, wd_71, ⟨by decide, by decide⟩, by decide, by decide⟩
theorem pd_154 : (parseMethodDescriptor (dm_tb 154).1.desc).map (fun d => d.parameters.length) = some 3 := by decide +kernel
theorem mo_155 : dm_Mok dm_tb 155 := ⟨wd_1188, wd_71, ⟨by decide, by decide⟩, by decide, by decide⟩
theorem pd_155 : (parseMethodDescriptor (dm_tb 155).1.desc).map (fun d => d.parameters.length) = some 2 := by decide +kernel
theorem mo_156 : dm_Mok dm_tb 156 := ⟨wd_1196, wd_71, ⟨by decide, by decide⟩, by decide, by decide⟩
theorem pd_156 : (parseMethodDescriptor (dm_tb 156).1.desc).map (fun d => d.parameters.length) = some 1 := by decide +kernel
theorem mo_157 : dm_Mok dm_tb 157 := ⟨wd_1160, wd_71, ⟨by decide, by decide⟩, by decide, by decide⟩
theorem pd_157 : (parseMethodDescriptor (dm_tb 157).1.desc).map (fun d => d.parameters.length) = some 1 := by decide +kernel
theorem mo_158 : dm_Mok dm_tb 158 := ⟨wd_1208, wd_71, ⟨by decide, by decide⟩, by decide, by decide⟩
theorem pd_158 : (parseMethodDescriptor (dm_tb 158).1.desc).map (fun d => d.parameters.length) = some 2 := by decide +kernel
theorem mo_159 : dm_Mok dm_tb 159 := ⟨wd_1233, wd_71, ⟨by decide, by decide⟩, by decide, by decide⟩
theorem pd_159 : (parseMethodDescriptor (dm_tb 159).1.desc).map (fun d => d.parameters.length) = some 2 := by decide +kernel
theorem mo_160 : dm_Mok dm_tb 160 := ⟨wd_1204, wd_71, ⟨by decide, by decide⟩, by decide, by decide⟩
theorem pd_160 : (parseMethodDescriptor (dm_tb 160).1.desc).map (fun d => d.parameters.length) = some 0 := by decide +kernel
theorem mo_161 : dm_Mok dm_tb 161 := ⟨wd_1237, wd_71, ⟨by decide, by decide⟩, by decide, by decide⟩
theorem pd_161 : (parseMethodDescriptor (dm_tb 161).1.desc).map (fun d => d.parameters.length) = some 1 := by decide +kernel
theorem mo_162 : dm_Mok dm_tb 162 := ⟨wd_1200, wd_71, ⟨by decide, by decide⟩, by decide, by decide⟩
theorem pd_162 : (parseMethodDescriptor (dm_tb 162).1.desc).map (fun d => d.parameters.length) = some 1 := by decide +kernel
theorem mo_163 : dm_Mok dm_tb 163 := ⟨wd_1249, wd_71, ⟨by decide, by decide⟩, by decide, by decide⟩
theorem pd_163 : (parseMethodDescriptor (dm_tb 163).1.desc).map (fun d => d.parameters.length) = some 2 := by decide +kernel
theorem mo_164 : dm_Mok dm_tb 164 := ⟨wd_1253, wd_71, ⟨by decide, by decide⟩, by decide, by decide⟩
theorem pd_164 : (parseMethodDescriptor (dm_tb 164).1.desc).map (fun d => d.parameters.length) = some 2 := by decide +kernel
theorem mo_165 : dm_Mok dm_tb 165 := ⟨wd_1245, wd_71, ⟨by decide, by decide⟩, by decide, by decide⟩
theorem pd_165 : (parseMethodDescriptor (dm_tb 165).1.desc).map (fun d => d.parameters.length) = some 3 := by decide +kernel
theorem mo_166 : dm_Mok dm_tb 166 := ⟨wd_1241, wd_71, ⟨by decide, by decide⟩, by decide, by decide⟩
theorem pd_166 : (parseMethodDescriptor (dm_tb 166).1.desc).map (fun d => d.parameters.length) = some 2 := by decide +kernel
theorem mo_167 : dm_Mok dm_tb 167 := ⟨wd_1257, wd_71, ⟨by decide, by decide⟩, by decide, by decide⟩
theorem pd_167 : (parseMethodDescriptor (dm_tb 167).1.desc).map (fun d => d.parameters.length) = some 1 := by decide +kernel
theorem mo_168 : dm_Mok dm_tb 168 := ⟨wd_1261, wd_71, ⟨by decide, by decide⟩, by decide, by decide⟩
theorem pd_168 : (parseMethodDescriptor (dm_tb 168).1.desc).map (fun d => d.parameters.length) = some 1 := by decide +kernel
theorem mo_169 : dm_Mok dm_tb 169 := ⟨wd_1265, wd_71, ⟨by decide, by decide⟩, by decide, by decide⟩
theorem pd_169 : (parseMethodDescriptor (dm_tb 169).1.desc).map (fun d => d.parameters.length) = some 2 := by decide +kernel
theorem mo_170 : dm_Mok dm_tb 170 := ⟨wd_1269, wd_71, ⟨by decide, by decide⟩, by decide, by decide⟩
theorem pd_170 : (parseMethodDescriptor (dm_tb 170).1.desc).map (fun d => d.parameters.length) = some 1 := by decide +kernel
theorem mo_171 : dm_Mok dm_tb 171 := ⟨wd_1273, wd_71, ⟨by decide, by decide⟩, by decide, by decide⟩
theorem pd_171 : (parseMethodDescriptor (dm_tb 171).1.desc).map (fun d => d.parameters.length) = some 2 := by decide +kernel
theorem mo_172 : dm_Mok dm_tb 172 := ⟨wd_1281, wd_71, ⟨by decide, by decide⟩, by decide, by decide⟩
theorem pd_172 : (parseMethodDescriptor (dm_tb 172).1.desc).map (fun d => d.parameters.length) = some 0 := by decide +kernel
theorem mo_173 : dm_Mok dm_tb 173 := ⟨wd_1277, wd_71, ⟨by decide, by decide⟩, by decide, by decide⟩
theorem pd_173 : (parseMethodDescriptor (dm_tb 173).1.desc).map (fun d => d.parameters.length) = some 2 := by decide +kernel
theorem mo_174 : dm_Mok dm_tb 174 := ⟨wd_1285, wd_71, ⟨by decide, by decide⟩, by decide, by decide⟩
theorem pd_174 : (parseMethodDescriptor (dm_tb 174).1.desc).map (fun d => d.parameters.length) = some 2 := by decide +kernel
theorem mo_175 : dm_Mok dm_tb 175 := ⟨wd_1289, wd_71, ⟨by decide, by decide⟩, by decide, by decide⟩
theorem pd_175 : (parseMethodDescriptor (dm_tb 175).1.desc).map (fun d => d.parameters.length) = some 2 := by decide +kernel
theorem mo_176 : dm_Mok dm_tb 176 := ⟨wd_1300, wd_71, ⟨by decide, by decide⟩, by decide, by decide⟩
theorem pd_176 : (parseMethodDescriptor (dm_tb 176).1.desc).map (fun d => d.parameters.length) = some 2 := by decide +kernel
theorem mo_177 : dm_Mok dm_tb 177 := ⟨wd_1307, wd_71, ⟨by decide, by decide⟩, by decide, by decide⟩
theorem pd_177 : (parseMethodDescriptor (dm_tb 177).1.desc).map (fun d => d.parameters.length) = some 2 := by decide +kernel
theorem mo_178 : dm_Mok dm_tb 178 := ⟨wd_1311, wd_71, ⟨by decide, by decide⟩, by decide, by decide⟩
theorem pd_178 : (parseMethodDescriptor (dm_tb 178).1.desc).map (fun d => d.parameters.length) = some 2 := by decide +kernel
theorem mo_179 : dm_Mok dm_tb 179 := ⟨wd_1304, wd_71, ⟨by decide, by decide⟩, by decide, by decide⟩
theorem pd_179 : (parseMethodDescriptor (dm_tb 179).1.desc).map (fun d => d.parameters.length) = some 3 := by decide +kernel
theorem mo_180 : dm_Mok dm_tb 180 := ⟨wd_1315, wd_71, ⟨by decide, by decide⟩, by decide, by decide⟩
theorem pd_180 : (parseMethodDescriptor (dm_tb 180).1.desc).map (fun d => d.parameters.length) = some 3 := by decide +kernel
theorem mo_181 : dm_Mok dm_tb 181 := ⟨wd_1319, wd_71, ⟨by decide, by decide⟩, by decide, by decide⟩
theorem pd_181 : (parseMethodDescriptor (dm_tb 181).1.desc).map (fun d => d.parameters.length) = some 2 := by decide +kernel
theorem mo_182 : dm_Mok dm_tb 182 := ⟨wd_1344, wd_71, ⟨by decide, by decide⟩, by decide, by decide⟩
theorem pd_182 : (parseMethodDescriptor (dm_tb 182).1.desc).map (fun d => d.parameters.length) = some 1 := by decide +kernel
theorem mo_183 : dm_Mok dm_tb 183 := ⟨wd_1352, wd_71, ⟨by decide, by decide⟩, by decide, by decide⟩
theorem pd_183 : (parseMethodDescriptor (dm_tb 183).1.desc).map (fun d => d.parameters.length) = some 4 := by decide +kernel
theorem mo_184 : dm_Mok dm_tb 184 := ⟨wd_1348, wd_71, ⟨by decide, by decide⟩, by decide, by decide⟩
theorem pd_184 : (parseMethodDescriptor (dm_tb 184).1.desc).map (fun d => d.parameters.length) = some 3 := by decide +kernel
theorem mo_185 : dm_Mok dm_tb 185 := ⟨wd_1356, wd_71, ⟨by decide, by decide⟩, by decide, by decide⟩
theorem pd_185 : (parseMethodDescriptor (dm_tb 185).1.desc).map (fun d => d.parameters.length) = some 0 := by decide +kernel
theorem mo_186 : dm_Mok dm_tb 186 := ⟨wd_1360, wd_71, ⟨by decide, by decide⟩, by decide, by decide⟩
theorem pd_186 : (parseMethodDescriptor (dm_tb 186).1.desc).map (fun d => d.parameters.length) = some 0 := by decide +kernel
theorem mo_187 : dm_Mok dm_tb 187 := ⟨wd_1364, wd_71, ⟨by decide, by decide⟩, by decide, by decide⟩
theorem pd_187 : (parseMethodDescriptor (dm_tb 187).1.desc).map (fun d => d.parameters.length) = some 6 := by decide +kernel
theorem mo_188 : dm_Mok dm_tb 188 := ⟨wd_1331, wd_71, ⟨by decide, by decide⟩, by decide, by decide⟩
theorem pd_188 : (parseMethodDescriptor (dm_tb 188).1.desc).map (fun d => d.parameters.length) = some 1 := by decide +kernel
theorem mo_189 : dm_Mok dm_tb 189 := ⟨wd_1339, wd_71, ⟨by decide, by decide⟩, by decide, by decide⟩
theorem pd_189 : (parseMethodDescriptor (dm_tb 189).1.desc).map (fun d => d.parameters.length) = some 1 := by decide +kernel
theorem mo_190 : dm_Mok dm_tb 190 := ⟨wd_1327, wd_71, ⟨by decide, by decide⟩, by decide, by decide⟩
theorem pd_190 : (parseMethodDescriptor (dm_tb 190).1.desc).map (fun d => d.parameters.length) = some 2 := by decide +kernel
theorem mo_191 : dm_Mok dm_tb 191 := ⟨wd_1335, wd_71, ⟨by decide, by decide⟩, by decide, by decide⟩
theorem pd_191 : (parseMethodDescriptor (dm_tb 191).1.desc).map (fun d => d.parameters.length) = some 3 := by decide +kernel
theorem mo_192 : dm_Mok dm_tb 192 := ⟨wd_1323, wd_71, ⟨by decide, by decide⟩, by decide, by decide⟩
theorem pd_192 : (parseMethodDescriptor (dm_tb 192).1.desc).map (fun d => d.parameters.length) = some 1 := by decide +kernel
theorem mo_193 : dm_Mok dm_tb 193 := ⟨wd_1368, wd_71, ⟨by decide, by decide⟩, by decide, by decide⟩
theorem pd_193 : (parseMethodDescriptor (dm_tb 193).1.desc).map (fun d => d.parameters.length) = some 1 := by decide +kernel
theorem mo_194 : dm_Mok dm_tb 194 := ⟨wd_1372, wd_71, ⟨by decide, by decide⟩, by decide, by decide⟩
theorem pd_194 : (parseMethodDescriptor (dm_tb 194).1.desc).map (fun d => d.parameters.length) = some 1 := by decide +kernel
theorem mo_195 : dm_Mok dm_tb 195 := ⟨wd_1376, wd_71, ⟨by decide, by decide⟩, by decide, by decide⟩
theorem pd_195 : (parseMethodDescriptor (dm_tb 195).1.desc).map (fun d => d.parameters.length) = some 2 := by decide +kernel
theorem mo_196 : dm_Mok dm_tb 196 := ⟨wd_1380, wd_71, ⟨by decide, by decide⟩, by decide, by decide⟩
theorem pd_196 : (parseMethodDescriptor (dm_tb 196).1.desc).map (fun d => d.parameters.length) = some 1 := by decide +kernel
theorem mo_197 : dm_Mok dm_tb 197 := ⟨wd_1392, wd_71, ⟨by decide, by decide⟩, by decide, by decide⟩
theorem pd_197 : (parseMethodDescriptor (dm_tb 197).1.desc).map (fun d => d.parameters.length) = some 1 := by decide +kernel
theorem mo_198 : dm_Mok dm_tb 198 := ⟨wd_1396, wd_71, ⟨by decide, by decide⟩, by decide, by decide⟩
theorem pd_198 : (parseMethodDescriptor (dm_tb 198).1.desc).map (fun d => d.parameters.length) = some 0 := by decide +kernel
theorem mo_199 : dm_Mok dm_tb 199 := ⟨wd_1404, wd_71, ⟨by decide, by decide⟩, by decide, by decide⟩
theorem pd_199 : (parseMethodDescriptor (dm_tb 199).1.desc).map (fun d => d.parameters.length) = some 0 := by decide +kernel
theorem mo_200 : dm_Mok dm_tb 200 := ⟨wd_1388, wd_71, ⟨by decide, by decide⟩, by decide, by decide⟩
theorem pd_200 : (parseMethodDescriptor (dm_tb 200).1.desc).map (fun d => d.parameters.length) = some 1 := by decide +kernel
theorem mo_201 : dm_Mok dm_tb 201 := ⟨wd_1400, wd_71, ⟨by decide, by decide⟩, by decide, by decide⟩
theorem pd_201 : (parseMethodDescriptor (dm_tb 201).1.desc).map (fun d => d.parameters.length) = some 3 := by decide +kernel
theorem mo_202 : dm_Mok dm_tb 202 := ⟨wd_1408, wd_71, ⟨by decide, by decide⟩, by decide, by decide⟩
theorem pd_202 : (parseMethodDescriptor (dm_tb 202).1.desc).map (fun d => d.parameters.length) = some 2 := by decide +kernel
theorem mo_203 : dm_Mok dm_tb 203 := ⟨wd_1384, wd_71, ⟨by decide, by decide⟩, by decide, by decide⟩
theorem pd_203 : (parseMethodDescriptor (dm_tb 203).1.desc).map (fun d => d.parameters.length) = some 0 := by decide +kernel
theorem mo_204 : dm_Mok dm_tb 204 := ⟨wd_1412, wd_71, ⟨by decide, by decide⟩, by decide, by decide⟩
theorem pd_204 : (parseMethodDescriptor (dm_tb 204).1.desc).map (fun d => d.parameters.length) = some 0 := by decide +kernel
theorem mo_205 : dm_Mok dm_tb 205 := ⟨wd_1416, wd_71, ⟨by decide, by decide⟩, by decide, by decide⟩
theorem pd_205 : (parseMethodDescriptor (dm_tb 205).1.desc).map (fun d => d.parameters.length) = some 0 := by decide +kernel
theorem mo_206 : dm_Mok dm_tb 206 := ⟨wd_1420, wd_71, ⟨by decide, by decide⟩, by decide, by decide⟩
theorem pd_206 : (parseMethodDescriptor (dm_tb 206).1.desc).map (fun d => d.parameters.length) = some 0 := by decide +kernel
theorem mo_207 : dm_Mok dm_tb 207 := ⟨wd_1424, wd_71, ⟨by decide, by decide⟩, by decide, by decide⟩
theorem pd_207 : (parseMethodDescriptor (dm_tb 207).1.desc).map (fun d => d.parameters.length) = some 1 := by decide +kernel
theorem mo_208 : dm_Mok dm_tb 208 := ⟨wd_1293, wd_74, ⟨by decide, by decide⟩, by decide, by decide⟩
theorem pd_208 : (parseMethodDescriptor (dm_tb 208).1.desc).map (fun d => d.parameters.length) = some 1 := by decide +kernel
theorem mo_209 : dm_Mok dm_tb 209 := ⟨wd_264, wd_69, ⟨by decide, by decide⟩, by decide, by decide⟩
theorem pd_209 : (parseMethodDescriptor (dm_tb 209).1.desc).map (fun d => d.parameters.length) = some 2 := by decide +kernel
