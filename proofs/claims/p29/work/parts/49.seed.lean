/-! the reference seeded -/
set_option maxHeartbeats 4000000 in
theorem op_135 {X : dm_Mem} {q : rS} {M : dm_Mem} {T : Int} (hM : Rm X q M) (hR : RI T q) (hT6 : 0 ≤ T ∧ T ≤ 600)  : hT 65 135 [.ref 68] M (fun r M' => r = none ∧ ∃ q' : rS, Rm X q' M' ∧ RI (T + 1) q' ∧ q'.1 41 = q.1 41) := by
  refine hx (t := cd_135) rfl (Nat.le_of_ble_eq_true rfl) (lv := [(0, .ref 68)]) rfl ?_
  refine hs (f := dm_ald 1 0) rfl rfl ?_
  refine hs (f := dm_push 2 (.int 0)) rfl rfl ?_
  refine r_puti rfl hM rfl (fun M1 hM1 => ?_)
  replace hM1 := rm_to (q' := (sF q 40 (0 : Int32))) hM1 (show sF q 40 (0 : Int32) = (sF q 40 (0 : Int32)) from (show sF q 40 (0 : Int32) = (sF q 40 (0 : Int32)) from rfl))
  obtain ⟨q2, eq2⟩ : ∃ z, z = (sF q 40 (0 : Int32)) := ⟨_, rfl⟩
  rw [← eq2] at hM1
  have Rq2 : RI T q2 := by rw [eq2]; exact hR
  have Kq2 : KP q q2 := by rw [eq2]; exact ⟨rfl, rfl, rfl, rfl, rfl, rfl, rfl, rfl, rfl, rfl, rfl, rfl, rfl⟩
  have fq2 : q2.1 41 = q.1 41 := Kq2.2.2.2.2.1
  have evq2 := Rq2.2.2.1
  have mxq2 := Rq2.1.2.1
  have btq2 := Rq2.2.2.2.2.2.1
  refine hs (f := dm_ald 6 0) rfl rfl ?_
  refine hs (f := dm_push 7 (.int 0)) rfl rfl ?_
  refine r_puti rfl hM1 rfl (fun M3 hM3 => ?_)
  replace hM3 := rm_to (q' := (sF q2 15 (0 : Int32))) hM3 (show sF q2 15 (0 : Int32) = (sF q2 15 (0 : Int32)) from (show sF q2 15 (0 : Int32) = (sF q2 15 (0 : Int32)) from rfl))
  refine hs (f := dm_ald 11 0) rfl rfl ?_
  refine hs (f := dm_push 12 (.int 0)) rfl rfl ?_
  refine r_puti rfl hM3 rfl (fun M4 hM4 => ?_)
  replace hM4 := rm_to (q' := (sF (sF q2 15 (0 : Int32)) 16 (0 : Int32))) hM4 (show sF (sF q2 15 (0 : Int32)) 16 (0 : Int32) = (sF (sF q2 15 (0 : Int32)) 16 (0 : Int32)) from (show sF (sF q2 15 (0 : Int32)) 16 (0 : Int32) = (sF (sF q2 15 (0 : Int32)) 16 (0 : Int32)) from rfl))
  refine hs (f := dm_ald 16 0) rfl rfl ?_
  refine hs (f := dm_push 17 (.int 0)) rfl rfl ?_
  refine r_puti rfl hM4 rfl (fun M5 hM5 => ?_)
  replace hM5 := rm_to (q' := (sF (sF (sF q2 15 (0 : Int32)) 16 (0 : Int32)) 17 (0 : Int32))) hM5 (show sF (sF (sF q2 15 (0 : Int32)) 16 (0 : Int32)) 17 (0 : Int32) = (sF (sF (sF q2 15 (0 : Int32)) 16 (0 : Int32)) 17 (0 : Int32)) from (show sF (sF (sF q2 15 (0 : Int32)) 16 (0 : Int32)) 17 (0 : Int32) = (sF (sF (sF q2 15 (0 : Int32)) 16 (0 : Int32)) 17 (0 : Int32)) from rfl))
  refine hs (f := dm_ald 21 0) rfl rfl ?_
  refine hs (f := dm_push 22 (.int 0)) rfl rfl ?_
  refine r_puti rfl hM5 rfl (fun M6 hM6 => ?_)
  replace hM6 := rm_to (q' := (sF (sF (sF (sF q2 15 (0 : Int32)) 16 (0 : Int32)) 17 (0 : Int32)) 26 (0 : Int32))) hM6 (show sF (sF (sF (sF q2 15 (0 : Int32)) 16 (0 : Int32)) 17 (0 : Int32)) 26 (0 : Int32) = (sF (sF (sF (sF q2 15 (0 : Int32)) 16 (0 : Int32)) 17 (0 : Int32)) 26 (0 : Int32)) from (show sF (sF (sF (sF q2 15 (0 : Int32)) 16 (0 : Int32)) 17 (0 : Int32)) 26 (0 : Int32) = (sF (sF (sF (sF q2 15 (0 : Int32)) 16 (0 : Int32)) 17 (0 : Int32)) 26 (0 : Int32)) from rfl))
  refine hs (f := dm_ald 26 0) rfl rfl ?_
  refine r_geta (c := 70) rfl hM6 rfl ?_
  refine hs (f := dm_push 30 (.int 0)) rfl rfl ?_
  refine hs (f := dm_push 31 (.int 0)) rfl rfl ?_
  refine r_iast (L := 1001) (i := (0 : Int32)) (x := (0 : Int32)) (q2.2.2.1 73) rfl hM6 rfl (by decide) rfl (fun M7 hM7 => ?_)
  replace hM7 := rm_to (q' := (sA (sF (sF (sF (sF q2 15 (0 : Int32)) 16 (0 : Int32)) 17 (0 : Int32)) 26 (0 : Int32)) 73 (upd (q2.2.2.1 73) (0 : Int32).toInt.toNat (0 : Int32)))) hM7 (show sA (sF (sF (sF (sF q2 15 (0 : Int32)) 16 (0 : Int32)) 17 (0 : Int32)) 26 (0 : Int32)) 73 (upd (q2.2.2.1 73) (0 : Int32).toInt.toNat (0 : Int32)) = (sA (sF (sF (sF (sF q2 15 (0 : Int32)) 16 (0 : Int32)) 17 (0 : Int32)) 26 (0 : Int32)) 73 (upd (q2.2.2.1 73) (0 : Int32).toInt.toNat (0 : Int32))) from (show sA (sF (sF (sF (sF q2 15 (0 : Int32)) 16 (0 : Int32)) 17 (0 : Int32)) 26 (0 : Int32)) 73 (upd (q2.2.2.1 73) (0 : Int32).toInt.toNat (0 : Int32)) = (sA (sF (sF (sF (sF q2 15 (0 : Int32)) 16 (0 : Int32)) 17 (0 : Int32)) 26 (0 : Int32)) 73 (upd (q2.2.2.1 73) (0 : Int32).toInt.toNat (0 : Int32))) from rfl))
  refine hs (f := dm_ald 33 0) rfl rfl ?_
  refine r_geta (c := 71) rfl hM7 rfl ?_
  refine hs (f := dm_push 37 (.int 0)) rfl rfl ?_
  refine hs (f := dm_push 38 (.int 0)) rfl rfl ?_
  refine r_iast (L := 1001) (i := (0 : Int32)) (x := (0 : Int32)) (q2.2.2.1 74) rfl hM7 rfl (by decide) rfl (fun M8 hM8 => ?_)
  replace hM8 := rm_to (q' := (sA (sA (sF (sF (sF (sF q2 15 (0 : Int32)) 16 (0 : Int32)) 17 (0 : Int32)) 26 (0 : Int32)) 73 (upd (q2.2.2.1 73) (0 : Int32).toInt.toNat (0 : Int32))) 74 (upd (q2.2.2.1 74) (0 : Int32).toInt.toNat (0 : Int32)))) hM8 (show sA (sA (sF (sF (sF (sF q2 15 (0 : Int32)) 16 (0 : Int32)) 17 (0 : Int32)) 26 (0 : Int32)) 73 (upd (q2.2.2.1 73) (0 : Int32).toInt.toNat (0 : Int32))) 74 (upd (q2.2.2.1 74) (0 : Int32).toInt.toNat (0 : Int32)) = (sA (sA (sF (sF (sF (sF q2 15 (0 : Int32)) 16 (0 : Int32)) 17 (0 : Int32)) 26 (0 : Int32)) 73 (upd (q2.2.2.1 73) (0 : Int32).toInt.toNat (0 : Int32))) 74 (upd (q2.2.2.1 74) (0 : Int32).toInt.toNat (0 : Int32))) from (show sA (sA (sF (sF (sF (sF q2 15 (0 : Int32)) 16 (0 : Int32)) 17 (0 : Int32)) 26 (0 : Int32)) 73 (upd (q2.2.2.1 73) (0 : Int32).toInt.toNat (0 : Int32))) 74 (upd (q2.2.2.1 74) (0 : Int32).toInt.toNat (0 : Int32)) = (sA (sA (sF (sF (sF (sF q2 15 (0 : Int32)) 16 (0 : Int32)) 17 (0 : Int32)) 26 (0 : Int32)) 73 (upd (q2.2.2.1 73) (0 : Int32).toInt.toNat (0 : Int32))) 74 (upd (q2.2.2.1 74) (0 : Int32).toInt.toNat (0 : Int32))) from rfl))
  refine hs (f := dm_ald 40 0) rfl rfl ?_
  refine hs (f := dm_push 41 (.int 1)) rfl rfl ?_
  refine r_puti rfl hM8 rfl (fun M9 hM9 => ?_)
  replace hM9 := rm_to (q' := (sA (sA (sF (sF (sF (sF (sF q2 15 (0 : Int32)) 16 (0 : Int32)) 17 (0 : Int32)) 26 (0 : Int32)) 29 (1 : Int32)) 73 (upd (q2.2.2.1 73) (0 : Int32).toInt.toNat (0 : Int32))) 74 (upd (q2.2.2.1 74) (0 : Int32).toInt.toNat (0 : Int32)))) hM9 (show sF (sA (sA (sF (sF (sF (sF q2 15 (0 : Int32)) 16 (0 : Int32)) 17 (0 : Int32)) 26 (0 : Int32)) 73 (upd (q2.2.2.1 73) (0 : Int32).toInt.toNat (0 : Int32))) 74 (upd (q2.2.2.1 74) (0 : Int32).toInt.toNat (0 : Int32))) 29 (1 : Int32) = (sA (sA (sF (sF (sF (sF (sF q2 15 (0 : Int32)) 16 (0 : Int32)) 17 (0 : Int32)) 26 (0 : Int32)) 29 (1 : Int32)) 73 (upd (q2.2.2.1 73) (0 : Int32).toInt.toNat (0 : Int32))) 74 (upd (q2.2.2.1 74) (0 : Int32).toInt.toNat (0 : Int32))) from (congrArg (fun z => (sA (sA z 73 (upd (q2.2.2.1 73) (0 : Int32).toInt.toNat (0 : Int32))) 74 (upd (q2.2.2.1 74) (0 : Int32).toInt.toNat (0 : Int32)))) (show sF (sF (sF (sF (sF q2 15 (0 : Int32)) 16 (0 : Int32)) 17 (0 : Int32)) 26 (0 : Int32)) 29 (1 : Int32) = (sF (sF (sF (sF (sF q2 15 (0 : Int32)) 16 (0 : Int32)) 17 (0 : Int32)) 26 (0 : Int32)) 29 (1 : Int32)) from rfl)))
  refine hs (f := dm_ald 45 0) rfl rfl ?_
  refine r_geta (c := 89) rfl hM9 rfl ?_
  refine hs (f := dm_push 49 (.int 0)) rfl rfl ?_
  refine hs (f := dm_push 50 (.long 0)) rfl rfl ?_
  refine r_last (L := 24000) (i := (0 : Int32)) (x := (0 : Int64)) (q2.2.2.2 92) rfl hM9 rfl (by decide) rfl (fun M10 hM10 => ?_)
  replace hM10 := rm_to (q' := (sA (sA (sB (sF (sF (sF (sF (sF q2 15 (0 : Int32)) 16 (0 : Int32)) 17 (0 : Int32)) 26 (0 : Int32)) 29 (1 : Int32)) 92 (vp_updL (q2.2.2.2 92) (0 : Int32).toInt.toNat (0 : Int64))) 73 (upd (q2.2.2.1 73) (0 : Int32).toInt.toNat (0 : Int32))) 74 (upd (q2.2.2.1 74) (0 : Int32).toInt.toNat (0 : Int32)))) hM10 (show sB (sA (sA (sF (sF (sF (sF (sF q2 15 (0 : Int32)) 16 (0 : Int32)) 17 (0 : Int32)) 26 (0 : Int32)) 29 (1 : Int32)) 73 (upd (q2.2.2.1 73) (0 : Int32).toInt.toNat (0 : Int32))) 74 (upd (q2.2.2.1 74) (0 : Int32).toInt.toNat (0 : Int32))) 92 (vp_updL (q2.2.2.2 92) (0 : Int32).toInt.toNat (0 : Int64)) = (sA (sA (sB (sF (sF (sF (sF (sF q2 15 (0 : Int32)) 16 (0 : Int32)) 17 (0 : Int32)) 26 (0 : Int32)) 29 (1 : Int32)) 92 (vp_updL (q2.2.2.2 92) (0 : Int32).toInt.toNat (0 : Int64))) 73 (upd (q2.2.2.1 73) (0 : Int32).toInt.toNat (0 : Int32))) 74 (upd (q2.2.2.1 74) (0 : Int32).toInt.toNat (0 : Int32))) from (congrArg (fun z => (sA (sA z 73 (upd (q2.2.2.1 73) (0 : Int32).toInt.toNat (0 : Int32))) 74 (upd (q2.2.2.1 74) (0 : Int32).toInt.toNat (0 : Int32)))) (show sB (sF (sF (sF (sF (sF q2 15 (0 : Int32)) 16 (0 : Int32)) 17 (0 : Int32)) 26 (0 : Int32)) 29 (1 : Int32)) 92 (vp_updL (q2.2.2.2 92) (0 : Int32).toInt.toNat (0 : Int64)) = (sB (sF (sF (sF (sF (sF q2 15 (0 : Int32)) 16 (0 : Int32)) 17 (0 : Int32)) 26 (0 : Int32)) 29 (1 : Int32)) 92 (vp_updL (q2.2.2.2 92) (0 : Int32).toInt.toNat (0 : Int64))) from rfl)))
  refine hs (f := dm_ald 52 0) rfl rfl ?_
  refine r_geta (c := 90) rfl hM10 rfl ?_
  refine hs (f := dm_push 56 (.int 0)) rfl rfl ?_
  refine hs (f := dm_push 57 (.int 0)) rfl rfl ?_
  refine r_iast (L := 24000) (i := (0 : Int32)) (x := (0 : Int32)) (q2.2.2.1 93) rfl hM10 rfl (by decide) rfl (fun M11 hM11 => ?_)
  replace hM11 := rm_to (q' := (sA (sA (sA (sB (sF (sF (sF (sF (sF q2 15 (0 : Int32)) 16 (0 : Int32)) 17 (0 : Int32)) 26 (0 : Int32)) 29 (1 : Int32)) 92 (vp_updL (q2.2.2.2 92) (0 : Int32).toInt.toNat (0 : Int64))) 73 (upd (q2.2.2.1 73) (0 : Int32).toInt.toNat (0 : Int32))) 74 (upd (q2.2.2.1 74) (0 : Int32).toInt.toNat (0 : Int32))) 93 (upd (q2.2.2.1 93) (0 : Int32).toInt.toNat (0 : Int32)))) hM11 (show sA (sA (sA (sB (sF (sF (sF (sF (sF q2 15 (0 : Int32)) 16 (0 : Int32)) 17 (0 : Int32)) 26 (0 : Int32)) 29 (1 : Int32)) 92 (vp_updL (q2.2.2.2 92) (0 : Int32).toInt.toNat (0 : Int64))) 73 (upd (q2.2.2.1 73) (0 : Int32).toInt.toNat (0 : Int32))) 74 (upd (q2.2.2.1 74) (0 : Int32).toInt.toNat (0 : Int32))) 93 (upd (q2.2.2.1 93) (0 : Int32).toInt.toNat (0 : Int32)) = (sA (sA (sA (sB (sF (sF (sF (sF (sF q2 15 (0 : Int32)) 16 (0 : Int32)) 17 (0 : Int32)) 26 (0 : Int32)) 29 (1 : Int32)) 92 (vp_updL (q2.2.2.2 92) (0 : Int32).toInt.toNat (0 : Int64))) 73 (upd (q2.2.2.1 73) (0 : Int32).toInt.toNat (0 : Int32))) 74 (upd (q2.2.2.1 74) (0 : Int32).toInt.toNat (0 : Int32))) 93 (upd (q2.2.2.1 93) (0 : Int32).toInt.toNat (0 : Int32))) from (show sA (sA (sA (sB (sF (sF (sF (sF (sF q2 15 (0 : Int32)) 16 (0 : Int32)) 17 (0 : Int32)) 26 (0 : Int32)) 29 (1 : Int32)) 92 (vp_updL (q2.2.2.2 92) (0 : Int32).toInt.toNat (0 : Int64))) 73 (upd (q2.2.2.1 73) (0 : Int32).toInt.toNat (0 : Int32))) 74 (upd (q2.2.2.1 74) (0 : Int32).toInt.toNat (0 : Int32))) 93 (upd (q2.2.2.1 93) (0 : Int32).toInt.toNat (0 : Int32)) = (sA (sA (sA (sB (sF (sF (sF (sF (sF q2 15 (0 : Int32)) 16 (0 : Int32)) 17 (0 : Int32)) 26 (0 : Int32)) 29 (1 : Int32)) 92 (vp_updL (q2.2.2.2 92) (0 : Int32).toInt.toNat (0 : Int64))) 73 (upd (q2.2.2.1 73) (0 : Int32).toInt.toNat (0 : Int32))) 74 (upd (q2.2.2.1 74) (0 : Int32).toInt.toNat (0 : Int32))) 93 (upd (q2.2.2.1 93) (0 : Int32).toInt.toNat (0 : Int32))) from rfl))
  refine hs (f := dm_ald 59 0) rfl rfl ?_
  refine hs (f := dm_push 60 (.int 1)) rfl rfl ?_
  refine r_puti rfl hM11 rfl (fun M12 hM12 => ?_)
  replace hM12 := rm_to (q' := (sA (sA (sA (sB (sF (sF (sF (sF (sF (sF q2 15 (0 : Int32)) 16 (0 : Int32)) 17 (0 : Int32)) 26 (0 : Int32)) 29 (1 : Int32)) 34 (1 : Int32)) 92 (vp_updL (q2.2.2.2 92) (0 : Int32).toInt.toNat (0 : Int64))) 73 (upd (q2.2.2.1 73) (0 : Int32).toInt.toNat (0 : Int32))) 74 (upd (q2.2.2.1 74) (0 : Int32).toInt.toNat (0 : Int32))) 93 (upd (q2.2.2.1 93) (0 : Int32).toInt.toNat (0 : Int32)))) hM12 (show sF (sA (sA (sA (sB (sF (sF (sF (sF (sF q2 15 (0 : Int32)) 16 (0 : Int32)) 17 (0 : Int32)) 26 (0 : Int32)) 29 (1 : Int32)) 92 (vp_updL (q2.2.2.2 92) (0 : Int32).toInt.toNat (0 : Int64))) 73 (upd (q2.2.2.1 73) (0 : Int32).toInt.toNat (0 : Int32))) 74 (upd (q2.2.2.1 74) (0 : Int32).toInt.toNat (0 : Int32))) 93 (upd (q2.2.2.1 93) (0 : Int32).toInt.toNat (0 : Int32))) 34 (1 : Int32) = (sA (sA (sA (sB (sF (sF (sF (sF (sF (sF q2 15 (0 : Int32)) 16 (0 : Int32)) 17 (0 : Int32)) 26 (0 : Int32)) 29 (1 : Int32)) 34 (1 : Int32)) 92 (vp_updL (q2.2.2.2 92) (0 : Int32).toInt.toNat (0 : Int64))) 73 (upd (q2.2.2.1 73) (0 : Int32).toInt.toNat (0 : Int32))) 74 (upd (q2.2.2.1 74) (0 : Int32).toInt.toNat (0 : Int32))) 93 (upd (q2.2.2.1 93) (0 : Int32).toInt.toNat (0 : Int32))) from (congrArg (fun z => (sA (sA (sA (sB z 92 (vp_updL (q2.2.2.2 92) (0 : Int32).toInt.toNat (0 : Int64))) 73 (upd (q2.2.2.1 73) (0 : Int32).toInt.toNat (0 : Int32))) 74 (upd (q2.2.2.1 74) (0 : Int32).toInt.toNat (0 : Int32))) 93 (upd (q2.2.2.1 93) (0 : Int32).toInt.toNat (0 : Int32)))) (show sF (sF (sF (sF (sF (sF q2 15 (0 : Int32)) 16 (0 : Int32)) 17 (0 : Int32)) 26 (0 : Int32)) 29 (1 : Int32)) 34 (1 : Int32) = (sF (sF (sF (sF (sF (sF q2 15 (0 : Int32)) 16 (0 : Int32)) 17 (0 : Int32)) 26 (0 : Int32)) 29 (1 : Int32)) 34 (1 : Int32)) from rfl)))
  refine hs (f := dm_ald 64 0) rfl rfl ?_
  refine r_geta (c := 93) rfl hM12 rfl ?_
  refine hs (f := dm_push 68 (.int 0)) rfl rfl ?_
  refine hs (f := dm_push 69 (.long 0)) rfl rfl ?_
  refine r_last (L := 24000) (i := (0 : Int32)) (x := (0 : Int64)) (q2.2.2.2 96) rfl hM12 rfl (by decide) rfl (fun M13 hM13 => ?_)
  replace hM13 := rm_to (q' := (sA (sA (sA (sB (sB (sF (sF (sF (sF (sF (sF q2 15 (0 : Int32)) 16 (0 : Int32)) 17 (0 : Int32)) 26 (0 : Int32)) 29 (1 : Int32)) 34 (1 : Int32)) 92 (vp_updL (q2.2.2.2 92) (0 : Int32).toInt.toNat (0 : Int64))) 96 (vp_updL (q2.2.2.2 96) (0 : Int32).toInt.toNat (0 : Int64))) 73 (upd (q2.2.2.1 73) (0 : Int32).toInt.toNat (0 : Int32))) 74 (upd (q2.2.2.1 74) (0 : Int32).toInt.toNat (0 : Int32))) 93 (upd (q2.2.2.1 93) (0 : Int32).toInt.toNat (0 : Int32)))) hM13 (show sB (sA (sA (sA (sB (sF (sF (sF (sF (sF (sF q2 15 (0 : Int32)) 16 (0 : Int32)) 17 (0 : Int32)) 26 (0 : Int32)) 29 (1 : Int32)) 34 (1 : Int32)) 92 (vp_updL (q2.2.2.2 92) (0 : Int32).toInt.toNat (0 : Int64))) 73 (upd (q2.2.2.1 73) (0 : Int32).toInt.toNat (0 : Int32))) 74 (upd (q2.2.2.1 74) (0 : Int32).toInt.toNat (0 : Int32))) 93 (upd (q2.2.2.1 93) (0 : Int32).toInt.toNat (0 : Int32))) 96 (vp_updL (q2.2.2.2 96) (0 : Int32).toInt.toNat (0 : Int64)) = (sA (sA (sA (sB (sB (sF (sF (sF (sF (sF (sF q2 15 (0 : Int32)) 16 (0 : Int32)) 17 (0 : Int32)) 26 (0 : Int32)) 29 (1 : Int32)) 34 (1 : Int32)) 92 (vp_updL (q2.2.2.2 92) (0 : Int32).toInt.toNat (0 : Int64))) 96 (vp_updL (q2.2.2.2 96) (0 : Int32).toInt.toNat (0 : Int64))) 73 (upd (q2.2.2.1 73) (0 : Int32).toInt.toNat (0 : Int32))) 74 (upd (q2.2.2.1 74) (0 : Int32).toInt.toNat (0 : Int32))) 93 (upd (q2.2.2.1 93) (0 : Int32).toInt.toNat (0 : Int32))) from (congrArg (fun z => (sA (sA (sA z 73 (upd (q2.2.2.1 73) (0 : Int32).toInt.toNat (0 : Int32))) 74 (upd (q2.2.2.1 74) (0 : Int32).toInt.toNat (0 : Int32))) 93 (upd (q2.2.2.1 93) (0 : Int32).toInt.toNat (0 : Int32)))) (show sB (sB (sF (sF (sF (sF (sF (sF q2 15 (0 : Int32)) 16 (0 : Int32)) 17 (0 : Int32)) 26 (0 : Int32)) 29 (1 : Int32)) 34 (1 : Int32)) 92 (vp_updL (q2.2.2.2 92) (0 : Int32).toInt.toNat (0 : Int64))) 96 (vp_updL (q2.2.2.2 96) (0 : Int32).toInt.toNat (0 : Int64)) = (sB (sB (sF (sF (sF (sF (sF (sF q2 15 (0 : Int32)) 16 (0 : Int32)) 17 (0 : Int32)) 26 (0 : Int32)) 29 (1 : Int32)) 34 (1 : Int32)) 92 (vp_updL (q2.2.2.2 92) (0 : Int32).toInt.toNat (0 : Int64))) 96 (vp_updL (q2.2.2.2 96) (0 : Int32).toInt.toNat (0 : Int64))) from rfl)))
  refine hs (f := dm_ald 71 0) rfl rfl ?_
  refine r_geta (c := 94) rfl hM13 rfl ?_
  refine hs (f := dm_push 75 (.int 0)) rfl rfl ?_
  refine hs (f := dm_push 78 (.long 1152921504606846976)) rfl rfl ?_
  refine r_last (L := 24000) (i := (0 : Int32)) (x := (1152921504606846976 : Int64)) (q2.2.2.2 97) rfl hM13 rfl (by decide) rfl (fun M14 hM14 => ?_)
  replace hM14 := rm_to (q' := (sA (sA (sA (sB (sB (sB (sF (sF (sF (sF (sF (sF q2 15 (0 : Int32)) 16 (0 : Int32)) 17 (0 : Int32)) 26 (0 : Int32)) 29 (1 : Int32)) 34 (1 : Int32)) 92 (vp_updL (q2.2.2.2 92) (0 : Int32).toInt.toNat (0 : Int64))) 96 (vp_updL (q2.2.2.2 96) (0 : Int32).toInt.toNat (0 : Int64))) 97 (vp_updL (q2.2.2.2 97) (0 : Int32).toInt.toNat (1152921504606846976 : Int64))) 73 (upd (q2.2.2.1 73) (0 : Int32).toInt.toNat (0 : Int32))) 74 (upd (q2.2.2.1 74) (0 : Int32).toInt.toNat (0 : Int32))) 93 (upd (q2.2.2.1 93) (0 : Int32).toInt.toNat (0 : Int32)))) hM14 (show sB (sA (sA (sA (sB (sB (sF (sF (sF (sF (sF (sF q2 15 (0 : Int32)) 16 (0 : Int32)) 17 (0 : Int32)) 26 (0 : Int32)) 29 (1 : Int32)) 34 (1 : Int32)) 92 (vp_updL (q2.2.2.2 92) (0 : Int32).toInt.toNat (0 : Int64))) 96 (vp_updL (q2.2.2.2 96) (0 : Int32).toInt.toNat (0 : Int64))) 73 (upd (q2.2.2.1 73) (0 : Int32).toInt.toNat (0 : Int32))) 74 (upd (q2.2.2.1 74) (0 : Int32).toInt.toNat (0 : Int32))) 93 (upd (q2.2.2.1 93) (0 : Int32).toInt.toNat (0 : Int32))) 97 (vp_updL (q2.2.2.2 97) (0 : Int32).toInt.toNat (1152921504606846976 : Int64)) = (sA (sA (sA (sB (sB (sB (sF (sF (sF (sF (sF (sF q2 15 (0 : Int32)) 16 (0 : Int32)) 17 (0 : Int32)) 26 (0 : Int32)) 29 (1 : Int32)) 34 (1 : Int32)) 92 (vp_updL (q2.2.2.2 92) (0 : Int32).toInt.toNat (0 : Int64))) 96 (vp_updL (q2.2.2.2 96) (0 : Int32).toInt.toNat (0 : Int64))) 97 (vp_updL (q2.2.2.2 97) (0 : Int32).toInt.toNat (1152921504606846976 : Int64))) 73 (upd (q2.2.2.1 73) (0 : Int32).toInt.toNat (0 : Int32))) 74 (upd (q2.2.2.1 74) (0 : Int32).toInt.toNat (0 : Int32))) 93 (upd (q2.2.2.1 93) (0 : Int32).toInt.toNat (0 : Int32))) from (congrArg (fun z => (sA (sA (sA z 73 (upd (q2.2.2.1 73) (0 : Int32).toInt.toNat (0 : Int32))) 74 (upd (q2.2.2.1 74) (0 : Int32).toInt.toNat (0 : Int32))) 93 (upd (q2.2.2.1 93) (0 : Int32).toInt.toNat (0 : Int32)))) (show sB (sB (sB (sF (sF (sF (sF (sF (sF q2 15 (0 : Int32)) 16 (0 : Int32)) 17 (0 : Int32)) 26 (0 : Int32)) 29 (1 : Int32)) 34 (1 : Int32)) 92 (vp_updL (q2.2.2.2 92) (0 : Int32).toInt.toNat (0 : Int64))) 96 (vp_updL (q2.2.2.2 96) (0 : Int32).toInt.toNat (0 : Int64))) 97 (vp_updL (q2.2.2.2 97) (0 : Int32).toInt.toNat (1152921504606846976 : Int64)) = (sB (sB (sB (sF (sF (sF (sF (sF (sF q2 15 (0 : Int32)) 16 (0 : Int32)) 17 (0 : Int32)) 26 (0 : Int32)) 29 (1 : Int32)) 34 (1 : Int32)) 92 (vp_updL (q2.2.2.2 92) (0 : Int32).toInt.toNat (0 : Int64))) 96 (vp_updL (q2.2.2.2 96) (0 : Int32).toInt.toNat (0 : Int64))) 97 (vp_updL (q2.2.2.2 97) (0 : Int32).toInt.toNat (1152921504606846976 : Int64))) from rfl)))
  refine hs (f := dm_ald 80 0) rfl rfl ?_
  refine hs (f := dm_push 81 (.int 0)) rfl rfl ?_
  refine hs (f := dm_push 82 (.int (-1))) rfl rfl ?_
  refine hs (f := dm_push 83 (.int (-1))) rfl rfl ?_
  obtain ⟨q9, e9⟩ : ∃ z, z = (sA (sA (sA (sB (sB (sB (sF (sF (sF (sF (sF (sF q2 15 (0 : Int32)) 16 (0 : Int32)) 17 (0 : Int32)) 26 (0 : Int32)) 29 (1 : Int32)) 34 (1 : Int32)) 92 (vp_updL (q2.2.2.2 92) (0 : Int32).toInt.toNat (0 : Int64))) 96 (vp_updL (q2.2.2.2 96) (0 : Int32).toInt.toNat (0 : Int64))) 97 (vp_updL (q2.2.2.2 97) (0 : Int32).toInt.toNat (1152921504606846976 : Int64))) 73 (upd (q2.2.2.1 73) (0 : Int32).toInt.toNat (0 : Int32))) 74 (upd (q2.2.2.1 74) (0 : Int32).toInt.toNat (0 : Int32))) 93 (upd (q2.2.2.1 93) (0 : Int32).toInt.toNat (0 : Int32))) := ⟨_, rfl⟩
  rw [← e9] at hM14
  have R9 : RI T q9 := by
    rw [e9]
    refine ⟨SB_nil ?_ ?_, Rq2.2.1, ⟨by show (0 : Int) ≤ 0; decide, by show (0 : Int) ≤ T; omega⟩, Rq2.2.2.2.1, ⟨by show (0 : Int) ≤ 0; decide, by show (0 : Int) ≤ T; omega⟩, Rq2.2.2.2.2.2.1, fun j j0 j1 => absurd j1 (by show ¬ j < (0 : Int); omega)⟩
    · show rA (upd (q2.2.2.1 73) (0 : Int32).toInt.toNat (0 : Int32)) 0 = 0
      rw [rA_upd (by omega), if_pos (by decide)]
      rfl
    · show rA (upd (q2.2.2.1 74) (0 : Int32).toInt.toNat (0 : Int32)) 0 = 0
      rw [rA_upd (by omega), if_pos (by decide)]
      rfl
  have w0 : rB (vp_updL (q2.2.2.2 92) (0 : Int32).toInt.toNat (0 : Int64)) 0 = 0 := by
    rw [rB_upd (by omega), if_pos (by decide)]
    rfl
  have W9 : okW q9 ∧ hN q9 = 1 ∧ (q9.1 29).toInt = 1 := by
    rw [e9]
    refine ⟨⟨by show (1 : Int) ≤ 1; decide, w0, fun i i0 i1 => absurd i1 (by show ¬ i + 1 < (1 : Int); omega), fun i i0 i1 => ?_⟩, HN_flat (fun i i0 i1 hi => ?_), rfl⟩
    · have i2 : i < (1 : Int) := i1
      rw [show i = 0 by omega]
      show rB (vp_updL (q2.2.2.2 92) (0 : Int32).toInt.toNat (0 : Int64)) 0 < _
      rw [w0]
      decide
    · have i2 : i < (1 : Int) := i1
      rw [show i = 0 by omega] at hi
      have h3 : (0 : Int) < rB (vp_updL (q2.2.2.2 92) (0 : Int32).toInt.toNat (0 : Int64)) 0 := hi.1
      rw [w0] at h3
      omega
  have a0 : rB (vp_updL (q2.2.2.2 96) (0 : Int32).toInt.toNat (0 : Int64)) 0 = 0 := by
    rw [rB_upd (by omega), if_pos (by decide)]
    rfl
  have b0 : rB (vp_updL (q2.2.2.2 97) (0 : Int32).toInt.toNat (1152921504606846976 : Int64)) 0 = 1152921504606846976 := by
    rw [rB_upd (by omega), if_pos (by decide)]
    rfl
  have O9 : okO q9 ∧ (q9.1 34).toInt = 1 := by
    rw [e9]
    refine ⟨⟨⟨fun i i0 i1 => ?_, fun i i0 i1 => absurd i1 (by show ¬ i + 1 < (1 : Int); omega)⟩, by show (0 : Int) ≤ 1; decide⟩, rfl⟩
    have i2 : i < (1 : Int) := i1
    rw [show i = 0 by omega]
    show 0 ≤ rB (vp_updL (q2.2.2.2 96) (0 : Int32).toInt.toNat (0 : Int64)) 0 ∧ rB (vp_updL (q2.2.2.2 96) (0 : Int32).toInt.toNat (0 : Int64)) 0 < rB (vp_updL (q2.2.2.2 97) (0 : Int32).toInt.toNat (1152921504606846976 : Int64)) 0 ∧ rB (vp_updL (q2.2.2.2 97) (0 : Int32).toInt.toNat (1152921504606846976 : Int64)) 0 ≤ _
    rw [a0, b0]
    decide
  have S9 : sN q9 = 1 := by
    rw [e9]
    refine SN_lt ?_
    show Part (vp_updL (q2.2.2.2 96) (0 : Int32).toInt.toNat (0 : Int64)) (vp_updL (q2.2.2.2 97) (0 : Int32).toInt.toNat (1152921504606846976 : Int64)) 1 0 1152921504606846976 < 2
    rcases Part_cases (vp_updL (q2.2.2.2 96) (0 : Int32).toInt.toNat (0 : Int64)) (vp_updL (q2.2.2.2 97) (0 : Int32).toInt.toNat (1152921504606846976 : Int64)) 1 0 1152921504606846976 with z | ⟨m, m0, m1, m2, m3, m4⟩
    · omega
    · rw [show m = 0 by omega, a0, b0] at m4
      omega
  have f9 : q9.1 41 = q.1 41 ∧ (q9.1 15).toInt = 0 ∧ (q9.1 17).toInt = 0 := by rw [e9]; exact ⟨fq2, rfl, rfl⟩
  have t9 := SB_top R9.1
  refine r_inv rfl hM14 rfl (as := [.ref 68, .int 0, .int (-1), .int (-1)]) rfl (Nat.le_of_ble_eq_true rfl) (hT_mono (by decide) (w_140 hM14 R9 0 (-1) (-1) (by decide) (by decide) W9.1 (by omega) O9.1 (by omega) (by omega) (by omega) (by omega) (by omega)) (fun r1 M15 w => ?_))
  obtain ⟨rfl, q10, hM15, R10, A1, A2, A3, -⟩ := w
  refine hs (f := dm_pop 87) (st' := []) rfl rfl ?_
  exact hr (f := dm_vret) rfl rfl (⟨rfl, q10, hM15, RI_up R10 (by omega), A3.trans f9.1⟩)
