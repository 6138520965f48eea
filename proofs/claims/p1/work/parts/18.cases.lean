/-! the law's cases: one call of the class, the same of the reference, the same answer -/
theorem ez_0 (s : Int32) (hs : s = 0) : ev_E 96 [.ref 0, .int s] ev_3 = some (some (.int 1), ev_M (ev_E 96 [.ref 0, .int 0] ev_3)) := by rw [hs]; exact ec_0
theorem en_0 (s : Int32) (hs : s = 0) : ev_E 158 [.ref 68, .int s] (ev_M (ev_E 96 [.ref 0, .int 0] ev_3)) = some (some (.int 1), ev_M (ev_E 158 [.ref 68, .int 0] (ev_M (ev_E 96 [.ref 0, .int 0] ev_3)))) := by rw [hs]; exact em_0
theorem ez_1 (s : Int32) (hs : s = 0) : ev_E 97 [.ref 0, .int s] ev_3 = some (some (.int 1), ev_M (ev_E 97 [.ref 0, .int 0] ev_3)) := by rw [hs]; exact ec_1
theorem en_1 (s : Int32) (hs : s = 0) : ev_E 163 [.ref 68, .int s] (ev_M (ev_E 97 [.ref 0, .int 0] ev_3)) = some (some (.int 1), ev_M (ev_E 163 [.ref 68, .int 0] (ev_M (ev_E 97 [.ref 0, .int 0] ev_3)))) := by rw [hs]; exact em_1
theorem ez_2 (s : Int32) (hs : s = 0) : ev_E 99 [.ref 0, .int s] ev_3 = some (some (.int 1), ev_M (ev_E 99 [.ref 0, .int 0] ev_3)) := by rw [hs]; exact ec_2
theorem en_2 (s : Int32) (hs : s = 0) : ev_E 168 [.ref 68, .int s] (ev_M (ev_E 99 [.ref 0, .int 0] ev_3)) = some (some (.int 1), ev_M (ev_E 168 [.ref 68, .int 0] (ev_M (ev_E 99 [.ref 0, .int 0] ev_3)))) := by rw [hs]; exact em_2
theorem ez_3 (s : Int32) (hs : s = 0) : ev_E 100 [.ref 0, .int s] ev_3 = some (some (.int 1), ev_M (ev_E 100 [.ref 0, .int 0] ev_3)) := by rw [hs]; exact ec_3
theorem en_3 (s : Int32) (hs : s = 0) : ev_E 169 [.ref 68, .int s] (ev_M (ev_E 100 [.ref 0, .int 0] ev_3)) = some (some (.int 1), ev_M (ev_E 169 [.ref 68, .int 0] (ev_M (ev_E 100 [.ref 0, .int 0] ev_3)))) := by rw [hs]; exact em_3
theorem ez_4 (s : Int32) (hs : s = 0) : ev_E 102 [.ref 0, .int s] ev_3 = some (some (.int 1), ev_M (ev_E 102 [.ref 0, .int 0] ev_3)) := by rw [hs]; exact ec_4
theorem en_4 (s : Int32) (hs : s = 0) : ev_E 171 [.ref 68, .int s] (ev_M (ev_E 102 [.ref 0, .int 0] ev_3)) = some (some (.int 1), ev_M (ev_E 171 [.ref 68, .int 0] (ev_M (ev_E 102 [.ref 0, .int 0] ev_3)))) := by rw [hs]; exact em_4
theorem ez_6 (s : Int32) (t : Int32) (hs : s = 0) (ht : t = 0) : ev_E 105 [.ref 0, .int s, .int t] ev_3 = some (some (.int 0), ev_M (ev_E 105 [.ref 0, .int 0, .int 0] ev_3)) := by rw [hs, ht]; exact ec_6
theorem en_6 (s : Int32) (t : Int32) (hs : s = 0) (ht : t = 0) : ev_E 175 [.ref 68, .int s, .int t] (ev_M (ev_E 105 [.ref 0, .int 0, .int 0] ev_3)) = some (some (.int 0), ev_M (ev_E 175 [.ref 68, .int 0, .int 0] (ev_M (ev_E 105 [.ref 0, .int 0, .int 0] ev_3)))) := by rw [hs, ht]; exact em_6
theorem ez_7 (s : Int32) (t : Int32) (hs : s = 0) (ht : t = 0) : ev_E 106 [.ref 0, .int s, .int t] ev_3 = some (some (.int 0), ev_M (ev_E 106 [.ref 0, .int 0, .int 0] ev_3)) := by rw [hs, ht]; exact ec_7
theorem en_7 (s : Int32) (t : Int32) (hs : s = 0) (ht : t = 0) : ev_E 176 [.ref 68, .int s, .int t] (ev_M (ev_E 106 [.ref 0, .int 0, .int 0] ev_3)) = some (some (.int 0), ev_M (ev_E 176 [.ref 68, .int 0, .int 0] (ev_M (ev_E 106 [.ref 0, .int 0, .int 0] ev_3)))) := by rw [hs, ht]; exact em_7
theorem ez_8 (s : Int32) (t : Int32) (hs : s = 0) (ht : t = 0) : ev_E 107 [.ref 0, .int s, .int t] ev_3 = some (some (.int 1), ev_M (ev_E 107 [.ref 0, .int 0, .int 0] ev_3)) := by rw [hs, ht]; exact ec_8
theorem en_8 (s : Int32) (t : Int32) (hs : s = 0) (ht : t = 0) : ev_E 177 [.ref 68, .int s, .int t] (ev_M (ev_E 107 [.ref 0, .int 0, .int 0] ev_3)) = some (some (.int 1), ev_M (ev_E 177 [.ref 68, .int 0, .int 0] (ev_M (ev_E 107 [.ref 0, .int 0, .int 0] ev_3)))) := by rw [hs, ht]; exact em_8
theorem ez_11 (s : Int32) (hs : s = 0) : ev_E 115 [.ref 0, .int s] ev_3 = some (some (.int 7), ev_M (ev_E 115 [.ref 0, .int 0] ev_3)) := by rw [hs]; exact ec_11
theorem en_11 (s : Int32) (hs : s = 0) : ev_E 194 [.ref 68, .int s] (ev_M (ev_E 115 [.ref 0, .int 0] ev_3)) = some (some (.int 7), ev_M (ev_E 194 [.ref 68, .int 0] (ev_M (ev_E 115 [.ref 0, .int 0] ev_3)))) := by rw [hs]; exact em_11
theorem ez_12 (s : Int32) (hs : s = 0) : ev_E 118 [.ref 0, .int s] ev_3 = some (some (.int 1), ev_M (ev_E 118 [.ref 0, .int 0] ev_3)) := by rw [hs]; exact ec_12
theorem en_12 (s : Int32) (hs : s = 0) : ev_E 197 [.ref 68, .int s] (ev_M (ev_E 118 [.ref 0, .int 0] ev_3)) = some (some (.int 1), ev_M (ev_E 197 [.ref 68, .int 0] (ev_M (ev_E 118 [.ref 0, .int 0] ev_3)))) := by rw [hs]; exact em_12
theorem ez_17 (s : Int32) (t : Int32) (hs : s = 0) (ht : t = 0) : ev_E 98 [.ref 0, .int s, .int t] ev_3 = some (some (.int (-1)), ev_M (ev_E 98 [.ref 0, .int 0, .int 0] ev_3)) := by rw [hs, ht]; exact ec_17
theorem en_17 (s : Int32) (t : Int32) (hs : s = 0) (ht : t = 0) : ev_E 167 [.ref 68, .int s, .int t] (ev_M (ev_E 98 [.ref 0, .int 0, .int 0] ev_3)) = some (some (.int (-1)), ev_M (ev_E 167 [.ref 68, .int 0, .int 0] (ev_M (ev_E 98 [.ref 0, .int 0, .int 0] ev_3)))) := by rw [hs, ht]; exact em_17
theorem ez_18 (s : Int32) (t : Int32) (hs : s = 0) (ht : t = 0) : ev_E 101 [.ref 0, .int s, .int t] ev_3 = some (some (.int (-1)), ev_M (ev_E 101 [.ref 0, .int 0, .int 0] ev_3)) := by rw [hs, ht]; exact ec_18
theorem en_18 (s : Int32) (t : Int32) (hs : s = 0) (ht : t = 0) : ev_E 170 [.ref 68, .int s, .int t] (ev_M (ev_E 101 [.ref 0, .int 0, .int 0] ev_3)) = some (some (.int (-1)), ev_M (ev_E 170 [.ref 68, .int 0, .int 0] (ev_M (ev_E 101 [.ref 0, .int 0, .int 0] ev_3)))) := by rw [hs, ht]; exact em_18
theorem ez_19 (s : Int32) (t : Int32) (hs : s = 0) (ht : t = 0) : ev_E 103 [.ref 0, .int s, .int t] ev_3 = some (some (.int (-1)), ev_M (ev_E 103 [.ref 0, .int 0, .int 0] ev_3)) := by rw [hs, ht]; exact ec_19
theorem en_19 (s : Int32) (t : Int32) (hs : s = 0) (ht : t = 0) : ev_E 172 [.ref 68, .int s, .int t] (ev_M (ev_E 103 [.ref 0, .int 0, .int 0] ev_3)) = some (some (.int (-1)), ev_M (ev_E 172 [.ref 68, .int 0, .int 0] (ev_M (ev_E 103 [.ref 0, .int 0, .int 0] ev_3)))) := by rw [hs, ht]; exact em_19
theorem ez_20 (s : Int32) (w : Int32) (hs : s = 0) (hw : w = 0) : ev_E 110 [.ref 0, .int s, .int w] ev_3 = some (some (.int 1), ev_M (ev_E 110 [.ref 0, .int 0, .int 0] ev_3)) := by rw [hs, hw]; exact ec_20
theorem en_20 (s : Int32) (w : Int32) (hs : s = 0) (hw : w = 0) : ev_E 182 [.ref 68, .int s, .int w] (ev_M (ev_E 110 [.ref 0, .int 0, .int 0] ev_3)) = some (some (.int 1), ev_M (ev_E 182 [.ref 68, .int 0, .int 0] (ev_M (ev_E 110 [.ref 0, .int 0, .int 0] ev_3)))) := by rw [hs, hw]; exact em_20
theorem ez_21 (s : Int32) (w : Int32) (hs : s = 0) (hw : w = 1) : ev_E 110 [.ref 0, .int s, .int w] ev_3 = some (some (.int 1), ev_M (ev_E 110 [.ref 0, .int 0, .int 1] ev_3)) := by rw [hs, hw]; exact ec_21
theorem en_21 (s : Int32) (w : Int32) (hs : s = 0) (hw : w = 1) : ev_E 182 [.ref 68, .int s, .int w] (ev_M (ev_E 110 [.ref 0, .int 0, .int 1] ev_3)) = some (some (.int 1), ev_M (ev_E 182 [.ref 68, .int 0, .int 1] (ev_M (ev_E 110 [.ref 0, .int 0, .int 1] ev_3)))) := by rw [hs, hw]; exact em_21
theorem ez_22 (s : Int32) (w : Int32) (hs : s = 0) (hw : w = 2) : ev_E 110 [.ref 0, .int s, .int w] ev_3 = some (some (.int 1), ev_M (ev_E 110 [.ref 0, .int 0, .int 2] ev_3)) := by rw [hs, hw]; exact ec_22
theorem en_22 (s : Int32) (w : Int32) (hs : s = 0) (hw : w = 2) : ev_E 182 [.ref 68, .int s, .int w] (ev_M (ev_E 110 [.ref 0, .int 0, .int 2] ev_3)) = some (some (.int 1), ev_M (ev_E 182 [.ref 68, .int 0, .int 2] (ev_M (ev_E 110 [.ref 0, .int 0, .int 2] ev_3)))) := by rw [hs, hw]; exact em_22
theorem ez_23 (s : Int32) (w : Int32) (hs : s = 0) (hw : w = 3) : ev_E 110 [.ref 0, .int s, .int w] ev_3 = some (some (.int 0), ev_M (ev_E 110 [.ref 0, .int 0, .int 3] ev_3)) := by rw [hs, hw]; exact ec_23
theorem en_23 (s : Int32) (w : Int32) (hs : s = 0) (hw : w = 3) : ev_E 182 [.ref 68, .int s, .int w] (ev_M (ev_E 110 [.ref 0, .int 0, .int 3] ev_3)) = some (some (.int 0), ev_M (ev_E 182 [.ref 68, .int 0, .int 3] (ev_M (ev_E 110 [.ref 0, .int 0, .int 3] ev_3)))) := by rw [hs, hw]; exact em_23
theorem ez_24 (s : Int32) (w : Int32) (hs : s = 0) (hw : w = 4) : ev_E 110 [.ref 0, .int s, .int w] ev_3 = some (some (.int (-1)), ev_M (ev_E 110 [.ref 0, .int 0, .int 4] ev_3)) := by rw [hs, hw]; exact ec_24
theorem en_24 (s : Int32) (w : Int32) (hs : s = 0) (hw : w = 4) : ev_E 182 [.ref 68, .int s, .int w] (ev_M (ev_E 110 [.ref 0, .int 0, .int 4] ev_3)) = some (some (.int (-1)), ev_M (ev_E 182 [.ref 68, .int 0, .int 4] (ev_M (ev_E 110 [.ref 0, .int 0, .int 4] ev_3)))) := by rw [hs, hw]; exact em_24
theorem ez_25 (s : Int32) (w : Int32) (hs : s = 0) (hw : w = 5) : ev_E 110 [.ref 0, .int s, .int w] ev_3 = some (some (.int (-1)), ev_M (ev_E 110 [.ref 0, .int 0, .int 5] ev_3)) := by rw [hs, hw]; exact ec_25
theorem en_25 (s : Int32) (w : Int32) (hs : s = 0) (hw : w = 5) : ev_E 182 [.ref 68, .int s, .int w] (ev_M (ev_E 110 [.ref 0, .int 0, .int 5] ev_3)) = some (some (.int (-1)), ev_M (ev_E 182 [.ref 68, .int 0, .int 5] (ev_M (ev_E 110 [.ref 0, .int 0, .int 5] ev_3)))) := by rw [hs, hw]; exact em_25
theorem ez_26 (s : Int32) (w : Int32) (hs : s = 0) (hw : w = 6) : ev_E 110 [.ref 0, .int s, .int w] ev_3 = some (some (.int 7), ev_M (ev_E 110 [.ref 0, .int 0, .int 6] ev_3)) := by rw [hs, hw]; exact ec_26
theorem en_26 (s : Int32) (w : Int32) (hs : s = 0) (hw : w = 6) : ev_E 182 [.ref 68, .int s, .int w] (ev_M (ev_E 110 [.ref 0, .int 0, .int 6] ev_3)) = some (some (.int 7), ev_M (ev_E 182 [.ref 68, .int 0, .int 6] (ev_M (ev_E 110 [.ref 0, .int 0, .int 6] ev_3)))) := by rw [hs, hw]; exact em_26
theorem ez_27 (s : Int32) (w : Int32) (hs : s = 0) (hw : w = 7) : ev_E 110 [.ref 0, .int s, .int w] ev_3 = some (some (.int 0), ev_M (ev_E 110 [.ref 0, .int 0, .int 7] ev_3)) := by rw [hs, hw]; exact ec_27
theorem en_27 (s : Int32) (w : Int32) (hs : s = 0) (hw : w = 7) : ev_E 182 [.ref 68, .int s, .int w] (ev_M (ev_E 110 [.ref 0, .int 0, .int 7] ev_3)) = some (some (.int 0), ev_M (ev_E 182 [.ref 68, .int 0, .int 7] (ev_M (ev_E 110 [.ref 0, .int 0, .int 7] ev_3)))) := by rw [hs, hw]; exact em_27
theorem ez_28 (s : Int32) (w : Int32) (hs : s = 0) (hw : w = 8) : ev_E 110 [.ref 0, .int s, .int w] ev_3 = some (some (.int 0), ev_M (ev_E 110 [.ref 0, .int 0, .int 8] ev_3)) := by rw [hs, hw]; exact ec_28
theorem en_28 (s : Int32) (w : Int32) (hs : s = 0) (hw : w = 8) : ev_E 182 [.ref 68, .int s, .int w] (ev_M (ev_E 110 [.ref 0, .int 0, .int 8] ev_3)) = some (some (.int 0), ev_M (ev_E 182 [.ref 68, .int 0, .int 8] (ev_M (ev_E 110 [.ref 0, .int 0, .int 8] ev_3)))) := by rw [hs, hw]; exact em_28
theorem ez_29 (s : Int32) (w : Int32) (hs : s = 0) (hw : w = 9) : ev_E 110 [.ref 0, .int s, .int w] ev_3 = some (some (.int 0), ev_M (ev_E 110 [.ref 0, .int 0, .int 9] ev_3)) := by rw [hs, hw]; exact ec_29
theorem en_29 (s : Int32) (w : Int32) (hs : s = 0) (hw : w = 9) : ev_E 182 [.ref 68, .int s, .int w] (ev_M (ev_E 110 [.ref 0, .int 0, .int 9] ev_3)) = some (some (.int 0), ev_M (ev_E 182 [.ref 68, .int 0, .int 9] (ev_M (ev_E 110 [.ref 0, .int 0, .int 9] ev_3)))) := by rw [hs, hw]; exact em_29
theorem ez_30 (s : Int32) (w : Int32) (hs : s = 0) (hw : w = 10) : ev_E 110 [.ref 0, .int s, .int w] ev_3 = some (some (.int 0), ev_M (ev_E 110 [.ref 0, .int 0, .int 10] ev_3)) := by rw [hs, hw]; exact ec_30
theorem en_30 (s : Int32) (w : Int32) (hs : s = 0) (hw : w = 10) : ev_E 182 [.ref 68, .int s, .int w] (ev_M (ev_E 110 [.ref 0, .int 0, .int 10] ev_3)) = some (some (.int 0), ev_M (ev_E 182 [.ref 68, .int 0, .int 10] (ev_M (ev_E 110 [.ref 0, .int 0, .int 10] ev_3)))) := by rw [hs, hw]; exact em_30
theorem ez_31 (w : Int32) (hw : w = 0) : ev_E 123 [.ref 0, .int w] ev_3 = some (some (.int 1), ev_M (ev_E 123 [.ref 0, .int 0] ev_3)) := by rw [hw]; exact ec_31
theorem en_31 (w : Int32) (hw : w = 0) : ev_E 208 [.ref 68, .int w] (ev_M (ev_E 123 [.ref 0, .int 0] ev_3)) = some (some (.int 1), ev_M (ev_E 208 [.ref 68, .int 0] (ev_M (ev_E 123 [.ref 0, .int 0] ev_3)))) := by rw [hw]; exact em_31
theorem ez_32 (w : Int32) (hw : w = 1) : ev_E 123 [.ref 0, .int w] ev_3 = some (some (.int 1), ev_M (ev_E 123 [.ref 0, .int 1] ev_3)) := by rw [hw]; exact ec_32
theorem en_32 (w : Int32) (hw : w = 1) : ev_E 208 [.ref 68, .int w] (ev_M (ev_E 123 [.ref 0, .int 1] ev_3)) = some (some (.int 1), ev_M (ev_E 208 [.ref 68, .int 1] (ev_M (ev_E 123 [.ref 0, .int 1] ev_3)))) := by rw [hw]; exact em_32
theorem ez_33 (w : Int32) (hw : w = 2) : ev_E 123 [.ref 0, .int w] ev_3 = some (some (.int 0), ev_M (ev_E 123 [.ref 0, .int 2] ev_3)) := by rw [hw]; exact ec_33
theorem en_33 (w : Int32) (hw : w = 2) : ev_E 208 [.ref 68, .int w] (ev_M (ev_E 123 [.ref 0, .int 2] ev_3)) = some (some (.int 0), ev_M (ev_E 208 [.ref 68, .int 2] (ev_M (ev_E 123 [.ref 0, .int 2] ev_3)))) := by rw [hw]; exact em_33
theorem ez_34 (w : Int32) (hw : w = 3) : ev_E 123 [.ref 0, .int w] ev_3 = some (some (.int 0), ev_M (ev_E 123 [.ref 0, .int 3] ev_3)) := by rw [hw]; exact ec_34
theorem en_34 (w : Int32) (hw : w = 3) : ev_E 208 [.ref 68, .int w] (ev_M (ev_E 123 [.ref 0, .int 3] ev_3)) = some (some (.int 0), ev_M (ev_E 208 [.ref 68, .int 3] (ev_M (ev_E 123 [.ref 0, .int 3] ev_3)))) := by rw [hw]; exact em_34
theorem ez_35 (w : Int32) (hw : w = 4) : ev_E 123 [.ref 0, .int w] ev_3 = some (some (.int 2), ev_M (ev_E 123 [.ref 0, .int 4] ev_3)) := by rw [hw]; exact ec_35
theorem en_35 (w : Int32) (hw : w = 4) : ev_E 208 [.ref 68, .int w] (ev_M (ev_E 123 [.ref 0, .int 4] ev_3)) = some (some (.int 2), ev_M (ev_E 208 [.ref 68, .int 4] (ev_M (ev_E 123 [.ref 0, .int 4] ev_3)))) := by rw [hw]; exact em_35
theorem ez_36 (w : Int32) (hw : w = 5) : ev_E 123 [.ref 0, .int w] ev_3 = some (some (.int 0), ev_M (ev_E 123 [.ref 0, .int 5] ev_3)) := by rw [hw]; exact ec_36
theorem en_36 (w : Int32) (hw : w = 5) : ev_E 208 [.ref 68, .int w] (ev_M (ev_E 123 [.ref 0, .int 5] ev_3)) = some (some (.int 0), ev_M (ev_E 208 [.ref 68, .int 5] (ev_M (ev_E 123 [.ref 0, .int 5] ev_3)))) := by rw [hw]; exact em_36
theorem ez_37 (w : Int32) (hw : w = 6) : ev_E 123 [.ref 0, .int w] ev_3 = some (some (.int 0), ev_M (ev_E 123 [.ref 0, .int 6] ev_3)) := by rw [hw]; exact ec_37
theorem en_37 (w : Int32) (hw : w = 6) : ev_E 208 [.ref 68, .int w] (ev_M (ev_E 123 [.ref 0, .int 6] ev_3)) = some (some (.int 0), ev_M (ev_E 208 [.ref 68, .int 6] (ev_M (ev_E 123 [.ref 0, .int 6] ev_3)))) := by rw [hw]; exact em_37
set_option maxRecDepth 100000 in
theorem ig_0 : (dm_isO ev_3 0 7 = true) ∧ (dm_isO (ev_M (ev_E 95 [.ref 0] ev_3)) 68 8 = true) ∧ (dm_bd (ev_M (ev_E 136 [.ref 68] (ev_M (ev_E 95 [.ref 0] ev_3)))) = true) ∧ (dm_isO (ev_M (ev_E 96 [.ref 0, .int 0] ev_3)) 68 8 = true) ∧ (dm_bd (ev_M (ev_E 158 [.ref 68, .int 0] (ev_M (ev_E 96 [.ref 0, .int 0] ev_3)))) = true) ∧ (dm_isO ev_3 68 8 = true) ∧ (dm_bd ev_3 = true) ∧ (dm_isO (ev_M (ev_E 97 [.ref 0, .int 0] ev_3)) 68 8 = true) ∧ (dm_bd (ev_M (ev_E 163 [.ref 68, .int 0] (ev_M (ev_E 97 [.ref 0, .int 0] ev_3)))) = true) ∧ (dm_isO (ev_M (ev_E 98 [.ref 0, .int 0, .int 0] ev_3)) 68 8 = true) ∧ (dm_bd (ev_M (ev_E 167 [.ref 68, .int 0, .int 0] (ev_M (ev_E 98 [.ref 0, .int 0, .int 0] ev_3)))) = true) ∧ (dm_isO mm_3 68 8 = true) ∧ (dm_bd mm_4 = true) ∧ (dm_isO (ev_M (ev_E 99 [.ref 0, .int 0] ev_3)) 68 8 = true) ∧ (dm_bd (ev_M (ev_E 168 [.ref 68, .int 0] (ev_M (ev_E 99 [.ref 0, .int 0] ev_3)))) = true) ∧ (dm_isO (ev_M (ev_E 100 [.ref 0, .int 0] ev_3)) 68 8 = true) ∧ (dm_bd (ev_M (ev_E 169 [.ref 68, .int 0] (ev_M (ev_E 100 [.ref 0, .int 0] ev_3)))) = true) ∧ (dm_isO (ev_M (ev_E 101 [.ref 0, .int 0, .int 0] ev_3)) 68 8 = true) ∧ (dm_bd (ev_M (ev_E 170 [.ref 68, .int 0, .int 0] (ev_M (ev_E 101 [.ref 0, .int 0, .int 0] ev_3)))) = true) ∧ (dm_isO (ev_M (ev_E 102 [.ref 0, .int 0] ev_3)) 68 8 = true) ∧ (dm_bd (ev_M (ev_E 171 [.ref 68, .int 0] (ev_M (ev_E 102 [.ref 0, .int 0] ev_3)))) = true) ∧ (dm_isO (ev_M (ev_E 103 [.ref 0, .int 0, .int 0] ev_3)) 68 8 = true) ∧ (dm_bd (ev_M (ev_E 172 [.ref 68, .int 0, .int 0] (ev_M (ev_E 103 [.ref 0, .int 0, .int 0] ev_3)))) = true) ∧ (dm_isO mm_5 68 8 = true) ∧ (dm_bd mm_6 = true) ∧ (dm_isO (ev_M (ev_E 104 [.ref 0] ev_3)) 68 8 = true) ∧ (dm_bd (ev_M (ev_E 173 [.ref 68] (ev_M (ev_E 104 [.ref 0] ev_3)))) = true) ∧ (dm_isO (ev_M (ev_E 105 [.ref 0, .int 0, .int 0] ev_3)) 68 8 = true) ∧ (dm_bd (ev_M (ev_E 175 [.ref 68, .int 0, .int 0] (ev_M (ev_E 105 [.ref 0, .int 0, .int 0] ev_3)))) = true) ∧ (dm_isO mm_1 68 8 = true) ∧ (dm_bd mm_2 = true) ∧ (dm_isO (ev_M (ev_E 106 [.ref 0, .int 0, .int 0] ev_3)) 68 8 = true) ∧ (dm_bd (ev_M (ev_E 176 [.ref 68, .int 0, .int 0] (ev_M (ev_E 106 [.ref 0, .int 0, .int 0] ev_3)))) = true) ∧ (dm_isO (ev_M (ev_E 107 [.ref 0, .int 0, .int 0] ev_3)) 68 8 = true) ∧ (dm_bd (ev_M (ev_E 177 [.ref 68, .int 0, .int 0] (ev_M (ev_E 107 [.ref 0, .int 0, .int 0] ev_3)))) = true) ∧ (dm_isO (ev_M (ev_E 110 [.ref 0, .int 0, .int 0] ev_3)) 68 8 = true) ∧ (dm_bd (ev_M (ev_E 182 [.ref 68, .int 0, .int 0] (ev_M (ev_E 110 [.ref 0, .int 0, .int 0] ev_3)))) = true) ∧ (dm_isO (ev_M (ev_E 110 [.ref 0, .int 0, .int 1] ev_3)) 68 8 = true) ∧ (dm_bd (ev_M (ev_E 182 [.ref 68, .int 0, .int 1] (ev_M (ev_E 110 [.ref 0, .int 0, .int 1] ev_3)))) = true) ∧ (dm_isO (ev_M (ev_E 110 [.ref 0, .int 0, .int 2] ev_3)) 68 8 = true) := by decide +kernel
theorem io_0 : dm_isO ev_3 0 7 = true := ig_0.1
theorem io_1 : dm_isO (ev_M (ev_E 95 [.ref 0] ev_3)) 68 8 = true := ig_0.2.1
theorem bd_0 : dm_bd (ev_M (ev_E 136 [.ref 68] (ev_M (ev_E 95 [.ref 0] ev_3)))) = true := ig_0.2.2.1
theorem io_2 : dm_isO (ev_M (ev_E 96 [.ref 0, .int 0] ev_3)) 68 8 = true := ig_0.2.2.2.1
theorem bd_1 : dm_bd (ev_M (ev_E 158 [.ref 68, .int 0] (ev_M (ev_E 96 [.ref 0, .int 0] ev_3)))) = true := ig_0.2.2.2.2.1
theorem io_3 : dm_isO ev_3 68 8 = true := ig_0.2.2.2.2.2.1
theorem bd_2 : dm_bd ev_3 = true := ig_0.2.2.2.2.2.2.1
theorem io_4 : dm_isO (ev_M (ev_E 97 [.ref 0, .int 0] ev_3)) 68 8 = true := ig_0.2.2.2.2.2.2.2.1
theorem bd_3 : dm_bd (ev_M (ev_E 163 [.ref 68, .int 0] (ev_M (ev_E 97 [.ref 0, .int 0] ev_3)))) = true := ig_0.2.2.2.2.2.2.2.2.1
theorem io_5 : dm_isO (ev_M (ev_E 98 [.ref 0, .int 0, .int 0] ev_3)) 68 8 = true := ig_0.2.2.2.2.2.2.2.2.2.1
theorem bd_4 : dm_bd (ev_M (ev_E 167 [.ref 68, .int 0, .int 0] (ev_M (ev_E 98 [.ref 0, .int 0, .int 0] ev_3)))) = true := ig_0.2.2.2.2.2.2.2.2.2.2.1
theorem io_6 : dm_isO mm_3 68 8 = true := ig_0.2.2.2.2.2.2.2.2.2.2.2.1
theorem bd_5 : dm_bd mm_4 = true := ig_0.2.2.2.2.2.2.2.2.2.2.2.2.1
theorem io_7 : dm_isO (ev_M (ev_E 99 [.ref 0, .int 0] ev_3)) 68 8 = true := ig_0.2.2.2.2.2.2.2.2.2.2.2.2.2.1
theorem bd_6 : dm_bd (ev_M (ev_E 168 [.ref 68, .int 0] (ev_M (ev_E 99 [.ref 0, .int 0] ev_3)))) = true := ig_0.2.2.2.2.2.2.2.2.2.2.2.2.2.2.1
theorem io_8 : dm_isO (ev_M (ev_E 100 [.ref 0, .int 0] ev_3)) 68 8 = true := ig_0.2.2.2.2.2.2.2.2.2.2.2.2.2.2.2.1
theorem bd_7 : dm_bd (ev_M (ev_E 169 [.ref 68, .int 0] (ev_M (ev_E 100 [.ref 0, .int 0] ev_3)))) = true := ig_0.2.2.2.2.2.2.2.2.2.2.2.2.2.2.2.2.1
theorem io_9 : dm_isO (ev_M (ev_E 101 [.ref 0, .int 0, .int 0] ev_3)) 68 8 = true := ig_0.2.2.2.2.2.2.2.2.2.2.2.2.2.2.2.2.2.1
theorem bd_8 : dm_bd (ev_M (ev_E 170 [.ref 68, .int 0, .int 0] (ev_M (ev_E 101 [.ref 0, .int 0, .int 0] ev_3)))) = true := ig_0.2.2.2.2.2.2.2.2.2.2.2.2.2.2.2.2.2.2.1
theorem io_10 : dm_isO (ev_M (ev_E 102 [.ref 0, .int 0] ev_3)) 68 8 = true := ig_0.2.2.2.2.2.2.2.2.2.2.2.2.2.2.2.2.2.2.2.1
theorem bd_9 : dm_bd (ev_M (ev_E 171 [.ref 68, .int 0] (ev_M (ev_E 102 [.ref 0, .int 0] ev_3)))) = true := ig_0.2.2.2.2.2.2.2.2.2.2.2.2.2.2.2.2.2.2.2.2.1
theorem io_11 : dm_isO (ev_M (ev_E 103 [.ref 0, .int 0, .int 0] ev_3)) 68 8 = true := ig_0.2.2.2.2.2.2.2.2.2.2.2.2.2.2.2.2.2.2.2.2.2.1
theorem bd_10 : dm_bd (ev_M (ev_E 172 [.ref 68, .int 0, .int 0] (ev_M (ev_E 103 [.ref 0, .int 0, .int 0] ev_3)))) = true := ig_0.2.2.2.2.2.2.2.2.2.2.2.2.2.2.2.2.2.2.2.2.2.2.1
theorem io_12 : dm_isO mm_5 68 8 = true := ig_0.2.2.2.2.2.2.2.2.2.2.2.2.2.2.2.2.2.2.2.2.2.2.2.1
theorem bd_11 : dm_bd mm_6 = true := ig_0.2.2.2.2.2.2.2.2.2.2.2.2.2.2.2.2.2.2.2.2.2.2.2.2.1
theorem io_13 : dm_isO (ev_M (ev_E 104 [.ref 0] ev_3)) 68 8 = true := ig_0.2.2.2.2.2.2.2.2.2.2.2.2.2.2.2.2.2.2.2.2.2.2.2.2.2.1
theorem bd_12 : dm_bd (ev_M (ev_E 173 [.ref 68] (ev_M (ev_E 104 [.ref 0] ev_3)))) = true := ig_0.2.2.2.2.2.2.2.2.2.2.2.2.2.2.2.2.2.2.2.2.2.2.2.2.2.2.1
theorem io_14 : dm_isO (ev_M (ev_E 105 [.ref 0, .int 0, .int 0] ev_3)) 68 8 = true := ig_0.2.2.2.2.2.2.2.2.2.2.2.2.2.2.2.2.2.2.2.2.2.2.2.2.2.2.2.1
theorem bd_13 : dm_bd (ev_M (ev_E 175 [.ref 68, .int 0, .int 0] (ev_M (ev_E 105 [.ref 0, .int 0, .int 0] ev_3)))) = true := ig_0.2.2.2.2.2.2.2.2.2.2.2.2.2.2.2.2.2.2.2.2.2.2.2.2.2.2.2.2.1
theorem io_15 : dm_isO mm_1 68 8 = true := ig_0.2.2.2.2.2.2.2.2.2.2.2.2.2.2.2.2.2.2.2.2.2.2.2.2.2.2.2.2.2.1
theorem bd_14 : dm_bd mm_2 = true := ig_0.2.2.2.2.2.2.2.2.2.2.2.2.2.2.2.2.2.2.2.2.2.2.2.2.2.2.2.2.2.2.1
theorem io_16 : dm_isO (ev_M (ev_E 106 [.ref 0, .int 0, .int 0] ev_3)) 68 8 = true := ig_0.2.2.2.2.2.2.2.2.2.2.2.2.2.2.2.2.2.2.2.2.2.2.2.2.2.2.2.2.2.2.2.1
theorem bd_15 : dm_bd (ev_M (ev_E 176 [.ref 68, .int 0, .int 0] (ev_M (ev_E 106 [.ref 0, .int 0, .int 0] ev_3)))) = true := ig_0.2.2.2.2.2.2.2.2.2.2.2.2.2.2.2.2.2.2.2.2.2.2.2.2.2.2.2.2.2.2.2.2.1
theorem io_17 : dm_isO (ev_M (ev_E 107 [.ref 0, .int 0, .int 0] ev_3)) 68 8 = true := ig_0.2.2.2.2.2.2.2.2.2.2.2.2.2.2.2.2.2.2.2.2.2.2.2.2.2.2.2.2.2.2.2.2.2.1
theorem bd_16 : dm_bd (ev_M (ev_E 177 [.ref 68, .int 0, .int 0] (ev_M (ev_E 107 [.ref 0, .int 0, .int 0] ev_3)))) = true := ig_0.2.2.2.2.2.2.2.2.2.2.2.2.2.2.2.2.2.2.2.2.2.2.2.2.2.2.2.2.2.2.2.2.2.2.1
theorem io_18 : dm_isO (ev_M (ev_E 110 [.ref 0, .int 0, .int 0] ev_3)) 68 8 = true := ig_0.2.2.2.2.2.2.2.2.2.2.2.2.2.2.2.2.2.2.2.2.2.2.2.2.2.2.2.2.2.2.2.2.2.2.2.1
theorem bd_17 : dm_bd (ev_M (ev_E 182 [.ref 68, .int 0, .int 0] (ev_M (ev_E 110 [.ref 0, .int 0, .int 0] ev_3)))) = true := ig_0.2.2.2.2.2.2.2.2.2.2.2.2.2.2.2.2.2.2.2.2.2.2.2.2.2.2.2.2.2.2.2.2.2.2.2.2.1
theorem io_19 : dm_isO (ev_M (ev_E 110 [.ref 0, .int 0, .int 1] ev_3)) 68 8 = true := ig_0.2.2.2.2.2.2.2.2.2.2.2.2.2.2.2.2.2.2.2.2.2.2.2.2.2.2.2.2.2.2.2.2.2.2.2.2.2.1
theorem bd_18 : dm_bd (ev_M (ev_E 182 [.ref 68, .int 0, .int 1] (ev_M (ev_E 110 [.ref 0, .int 0, .int 1] ev_3)))) = true := ig_0.2.2.2.2.2.2.2.2.2.2.2.2.2.2.2.2.2.2.2.2.2.2.2.2.2.2.2.2.2.2.2.2.2.2.2.2.2.2.1
theorem io_20 : dm_isO (ev_M (ev_E 110 [.ref 0, .int 0, .int 2] ev_3)) 68 8 = true := ig_0.2.2.2.2.2.2.2.2.2.2.2.2.2.2.2.2.2.2.2.2.2.2.2.2.2.2.2.2.2.2.2.2.2.2.2.2.2.2.2
set_option maxRecDepth 100000 in
theorem ig_1 : (dm_bd (ev_M (ev_E 182 [.ref 68, .int 0, .int 2] (ev_M (ev_E 110 [.ref 0, .int 0, .int 2] ev_3)))) = true) ∧ (dm_isO (ev_M (ev_E 110 [.ref 0, .int 0, .int 3] ev_3)) 68 8 = true) ∧ (dm_bd (ev_M (ev_E 182 [.ref 68, .int 0, .int 3] (ev_M (ev_E 110 [.ref 0, .int 0, .int 3] ev_3)))) = true) ∧ (dm_isO (ev_M (ev_E 110 [.ref 0, .int 0, .int 4] ev_3)) 68 8 = true) ∧ (dm_bd (ev_M (ev_E 182 [.ref 68, .int 0, .int 4] (ev_M (ev_E 110 [.ref 0, .int 0, .int 4] ev_3)))) = true) ∧ (dm_isO (ev_M (ev_E 110 [.ref 0, .int 0, .int 5] ev_3)) 68 8 = true) ∧ (dm_bd (ev_M (ev_E 182 [.ref 68, .int 0, .int 5] (ev_M (ev_E 110 [.ref 0, .int 0, .int 5] ev_3)))) = true) ∧ (dm_isO (ev_M (ev_E 110 [.ref 0, .int 0, .int 6] ev_3)) 68 8 = true) ∧ (dm_bd (ev_M (ev_E 182 [.ref 68, .int 0, .int 6] (ev_M (ev_E 110 [.ref 0, .int 0, .int 6] ev_3)))) = true) ∧ (dm_isO (ev_M (ev_E 110 [.ref 0, .int 0, .int 7] ev_3)) 68 8 = true) ∧ (dm_bd (ev_M (ev_E 182 [.ref 68, .int 0, .int 7] (ev_M (ev_E 110 [.ref 0, .int 0, .int 7] ev_3)))) = true) ∧ (dm_isO (ev_M (ev_E 110 [.ref 0, .int 0, .int 8] ev_3)) 68 8 = true) ∧ (dm_bd (ev_M (ev_E 182 [.ref 68, .int 0, .int 8] (ev_M (ev_E 110 [.ref 0, .int 0, .int 8] ev_3)))) = true) ∧ (dm_isO (ev_M (ev_E 110 [.ref 0, .int 0, .int 9] ev_3)) 68 8 = true) ∧ (dm_bd (ev_M (ev_E 182 [.ref 68, .int 0, .int 9] (ev_M (ev_E 110 [.ref 0, .int 0, .int 9] ev_3)))) = true) ∧ (dm_isO (ev_M (ev_E 110 [.ref 0, .int 0, .int 10] ev_3)) 68 8 = true) ∧ (dm_bd (ev_M (ev_E 182 [.ref 68, .int 0, .int 10] (ev_M (ev_E 110 [.ref 0, .int 0, .int 10] ev_3)))) = true) ∧ (dm_bd mm_14 = true) ∧ (dm_isO mm_7 68 8 = true) ∧ (dm_bd mm_8 = true) ∧ (dm_isO mm_9 68 8 = true) ∧ (dm_bd mm_12 = true) ∧ (dm_isO (ev_M (ev_E 112 [.ref 0] ev_3)) 68 8 = true) ∧ (dm_bd (ev_M (ev_E 186 [.ref 68] (ev_M (ev_E 112 [.ref 0] ev_3)))) = true) ∧ (dm_isO (ev_M (ev_E 113 [.ref 0] ev_3)) 68 8 = true) ∧ (dm_bd (ev_M (ev_E 187 [.ref 68] (ev_M (ev_E 113 [.ref 0] ev_3)))) = true) ∧ (dm_isO mm_15 68 8 = true) ∧ (dm_bd mm_17 = true) ∧ (dm_isO mm_23 68 8 = true) ∧ (dm_bd mm_25 = true) ∧ (dm_isO (ev_M (ev_E 115 [.ref 0, .int 0] ev_3)) 68 8 = true) ∧ (dm_bd (ev_M (ev_E 194 [.ref 68, .int 0] (ev_M (ev_E 115 [.ref 0, .int 0] ev_3)))) = true) ∧ (dm_isO (ev_M (ev_E 118 [.ref 0, .int 0] ev_3)) 68 8 = true) ∧ (dm_bd (ev_M (ev_E 197 [.ref 68, .int 0] (ev_M (ev_E 118 [.ref 0, .int 0] ev_3)))) = true) ∧ (dm_isO (ev_M (ev_E 119 [.ref 0] ev_3)) 68 8 = true) ∧ (dm_bd (ev_M (ev_E 204 [.ref 68] (ev_M (ev_E 119 [.ref 0] ev_3)))) = true) ∧ (dm_isO (ev_M (ev_E 120 [.ref 0] ev_3)) 68 8 = true) ∧ (dm_bd (ev_M (ev_E 205 [.ref 68] (ev_M (ev_E 120 [.ref 0] ev_3)))) = true) ∧ (dm_isO (ev_M (ev_E 122 [.ref 0] ev_3)) 68 8 = true) ∧ (dm_bd (ev_M (ev_E 207 [.ref 68] (ev_M (ev_E 122 [.ref 0] ev_3)))) = true) := by decide +kernel
theorem bd_19 : dm_bd (ev_M (ev_E 182 [.ref 68, .int 0, .int 2] (ev_M (ev_E 110 [.ref 0, .int 0, .int 2] ev_3)))) = true := ig_1.1
theorem io_21 : dm_isO (ev_M (ev_E 110 [.ref 0, .int 0, .int 3] ev_3)) 68 8 = true := ig_1.2.1
theorem bd_20 : dm_bd (ev_M (ev_E 182 [.ref 68, .int 0, .int 3] (ev_M (ev_E 110 [.ref 0, .int 0, .int 3] ev_3)))) = true := ig_1.2.2.1
theorem io_22 : dm_isO (ev_M (ev_E 110 [.ref 0, .int 0, .int 4] ev_3)) 68 8 = true := ig_1.2.2.2.1
theorem bd_21 : dm_bd (ev_M (ev_E 182 [.ref 68, .int 0, .int 4] (ev_M (ev_E 110 [.ref 0, .int 0, .int 4] ev_3)))) = true := ig_1.2.2.2.2.1
theorem io_23 : dm_isO (ev_M (ev_E 110 [.ref 0, .int 0, .int 5] ev_3)) 68 8 = true := ig_1.2.2.2.2.2.1
theorem bd_22 : dm_bd (ev_M (ev_E 182 [.ref 68, .int 0, .int 5] (ev_M (ev_E 110 [.ref 0, .int 0, .int 5] ev_3)))) = true := ig_1.2.2.2.2.2.2.1
theorem io_24 : dm_isO (ev_M (ev_E 110 [.ref 0, .int 0, .int 6] ev_3)) 68 8 = true := ig_1.2.2.2.2.2.2.2.1
theorem bd_23 : dm_bd (ev_M (ev_E 182 [.ref 68, .int 0, .int 6] (ev_M (ev_E 110 [.ref 0, .int 0, .int 6] ev_3)))) = true := ig_1.2.2.2.2.2.2.2.2.1
theorem io_25 : dm_isO (ev_M (ev_E 110 [.ref 0, .int 0, .int 7] ev_3)) 68 8 = true := ig_1.2.2.2.2.2.2.2.2.2.1
theorem bd_24 : dm_bd (ev_M (ev_E 182 [.ref 68, .int 0, .int 7] (ev_M (ev_E 110 [.ref 0, .int 0, .int 7] ev_3)))) = true := ig_1.2.2.2.2.2.2.2.2.2.2.1
theorem io_26 : dm_isO (ev_M (ev_E 110 [.ref 0, .int 0, .int 8] ev_3)) 68 8 = true := ig_1.2.2.2.2.2.2.2.2.2.2.2.1
theorem bd_25 : dm_bd (ev_M (ev_E 182 [.ref 68, .int 0, .int 8] (ev_M (ev_E 110 [.ref 0, .int 0, .int 8] ev_3)))) = true := ig_1.2.2.2.2.2.2.2.2.2.2.2.2.1
theorem io_27 : dm_isO (ev_M (ev_E 110 [.ref 0, .int 0, .int 9] ev_3)) 68 8 = true := ig_1.2.2.2.2.2.2.2.2.2.2.2.2.2.1
theorem bd_26 : dm_bd (ev_M (ev_E 182 [.ref 68, .int 0, .int 9] (ev_M (ev_E 110 [.ref 0, .int 0, .int 9] ev_3)))) = true := ig_1.2.2.2.2.2.2.2.2.2.2.2.2.2.2.1
theorem io_28 : dm_isO (ev_M (ev_E 110 [.ref 0, .int 0, .int 10] ev_3)) 68 8 = true := ig_1.2.2.2.2.2.2.2.2.2.2.2.2.2.2.2.1
theorem bd_27 : dm_bd (ev_M (ev_E 182 [.ref 68, .int 0, .int 10] (ev_M (ev_E 110 [.ref 0, .int 0, .int 10] ev_3)))) = true := ig_1.2.2.2.2.2.2.2.2.2.2.2.2.2.2.2.2.1
theorem bd_28 : dm_bd mm_14 = true := ig_1.2.2.2.2.2.2.2.2.2.2.2.2.2.2.2.2.2.1
theorem io_29 : dm_isO mm_7 68 8 = true := ig_1.2.2.2.2.2.2.2.2.2.2.2.2.2.2.2.2.2.2.1
theorem bd_29 : dm_bd mm_8 = true := ig_1.2.2.2.2.2.2.2.2.2.2.2.2.2.2.2.2.2.2.2.1
theorem io_30 : dm_isO mm_9 68 8 = true := ig_1.2.2.2.2.2.2.2.2.2.2.2.2.2.2.2.2.2.2.2.2.1
theorem bd_30 : dm_bd mm_12 = true := ig_1.2.2.2.2.2.2.2.2.2.2.2.2.2.2.2.2.2.2.2.2.2.1
theorem io_31 : dm_isO (ev_M (ev_E 112 [.ref 0] ev_3)) 68 8 = true := ig_1.2.2.2.2.2.2.2.2.2.2.2.2.2.2.2.2.2.2.2.2.2.2.1
theorem bd_31 : dm_bd (ev_M (ev_E 186 [.ref 68] (ev_M (ev_E 112 [.ref 0] ev_3)))) = true := ig_1.2.2.2.2.2.2.2.2.2.2.2.2.2.2.2.2.2.2.2.2.2.2.2.1
theorem io_32 : dm_isO (ev_M (ev_E 113 [.ref 0] ev_3)) 68 8 = true := ig_1.2.2.2.2.2.2.2.2.2.2.2.2.2.2.2.2.2.2.2.2.2.2.2.2.1
theorem bd_32 : dm_bd (ev_M (ev_E 187 [.ref 68] (ev_M (ev_E 113 [.ref 0] ev_3)))) = true := ig_1.2.2.2.2.2.2.2.2.2.2.2.2.2.2.2.2.2.2.2.2.2.2.2.2.2.1
theorem io_33 : dm_isO mm_15 68 8 = true := ig_1.2.2.2.2.2.2.2.2.2.2.2.2.2.2.2.2.2.2.2.2.2.2.2.2.2.2.1
theorem bd_33 : dm_bd mm_17 = true := ig_1.2.2.2.2.2.2.2.2.2.2.2.2.2.2.2.2.2.2.2.2.2.2.2.2.2.2.2.1
theorem io_34 : dm_isO mm_23 68 8 = true := ig_1.2.2.2.2.2.2.2.2.2.2.2.2.2.2.2.2.2.2.2.2.2.2.2.2.2.2.2.2.1
theorem bd_34 : dm_bd mm_25 = true := ig_1.2.2.2.2.2.2.2.2.2.2.2.2.2.2.2.2.2.2.2.2.2.2.2.2.2.2.2.2.2.1
theorem io_35 : dm_isO (ev_M (ev_E 115 [.ref 0, .int 0] ev_3)) 68 8 = true := ig_1.2.2.2.2.2.2.2.2.2.2.2.2.2.2.2.2.2.2.2.2.2.2.2.2.2.2.2.2.2.2.1
theorem bd_35 : dm_bd (ev_M (ev_E 194 [.ref 68, .int 0] (ev_M (ev_E 115 [.ref 0, .int 0] ev_3)))) = true := ig_1.2.2.2.2.2.2.2.2.2.2.2.2.2.2.2.2.2.2.2.2.2.2.2.2.2.2.2.2.2.2.2.1
theorem io_36 : dm_isO (ev_M (ev_E 118 [.ref 0, .int 0] ev_3)) 68 8 = true := ig_1.2.2.2.2.2.2.2.2.2.2.2.2.2.2.2.2.2.2.2.2.2.2.2.2.2.2.2.2.2.2.2.2.1
theorem bd_36 : dm_bd (ev_M (ev_E 197 [.ref 68, .int 0] (ev_M (ev_E 118 [.ref 0, .int 0] ev_3)))) = true := ig_1.2.2.2.2.2.2.2.2.2.2.2.2.2.2.2.2.2.2.2.2.2.2.2.2.2.2.2.2.2.2.2.2.2.1
theorem io_37 : dm_isO (ev_M (ev_E 119 [.ref 0] ev_3)) 68 8 = true := ig_1.2.2.2.2.2.2.2.2.2.2.2.2.2.2.2.2.2.2.2.2.2.2.2.2.2.2.2.2.2.2.2.2.2.2.1
theorem bd_37 : dm_bd (ev_M (ev_E 204 [.ref 68] (ev_M (ev_E 119 [.ref 0] ev_3)))) = true := ig_1.2.2.2.2.2.2.2.2.2.2.2.2.2.2.2.2.2.2.2.2.2.2.2.2.2.2.2.2.2.2.2.2.2.2.2.1
theorem io_38 : dm_isO (ev_M (ev_E 120 [.ref 0] ev_3)) 68 8 = true := ig_1.2.2.2.2.2.2.2.2.2.2.2.2.2.2.2.2.2.2.2.2.2.2.2.2.2.2.2.2.2.2.2.2.2.2.2.2.1
theorem bd_38 : dm_bd (ev_M (ev_E 205 [.ref 68] (ev_M (ev_E 120 [.ref 0] ev_3)))) = true := ig_1.2.2.2.2.2.2.2.2.2.2.2.2.2.2.2.2.2.2.2.2.2.2.2.2.2.2.2.2.2.2.2.2.2.2.2.2.2.1
theorem io_39 : dm_isO (ev_M (ev_E 122 [.ref 0] ev_3)) 68 8 = true := ig_1.2.2.2.2.2.2.2.2.2.2.2.2.2.2.2.2.2.2.2.2.2.2.2.2.2.2.2.2.2.2.2.2.2.2.2.2.2.2.1
theorem bd_39 : dm_bd (ev_M (ev_E 207 [.ref 68] (ev_M (ev_E 122 [.ref 0] ev_3)))) = true := ig_1.2.2.2.2.2.2.2.2.2.2.2.2.2.2.2.2.2.2.2.2.2.2.2.2.2.2.2.2.2.2.2.2.2.2.2.2.2.2.2
set_option maxRecDepth 100000 in
theorem ig_2 : (dm_isO (ev_M (ev_E 123 [.ref 0, .int 0] ev_3)) 68 8 = true) ∧ (dm_bd (ev_M (ev_E 208 [.ref 68, .int 0] (ev_M (ev_E 123 [.ref 0, .int 0] ev_3)))) = true) ∧ (dm_isO (ev_M (ev_E 123 [.ref 0, .int 1] ev_3)) 68 8 = true) ∧ (dm_bd (ev_M (ev_E 208 [.ref 68, .int 1] (ev_M (ev_E 123 [.ref 0, .int 1] ev_3)))) = true) ∧ (dm_isO (ev_M (ev_E 123 [.ref 0, .int 2] ev_3)) 68 8 = true) ∧ (dm_bd (ev_M (ev_E 208 [.ref 68, .int 2] (ev_M (ev_E 123 [.ref 0, .int 2] ev_3)))) = true) ∧ (dm_isO (ev_M (ev_E 123 [.ref 0, .int 3] ev_3)) 68 8 = true) ∧ (dm_bd (ev_M (ev_E 208 [.ref 68, .int 3] (ev_M (ev_E 123 [.ref 0, .int 3] ev_3)))) = true) ∧ (dm_isO (ev_M (ev_E 123 [.ref 0, .int 4] ev_3)) 68 8 = true) ∧ (dm_bd (ev_M (ev_E 208 [.ref 68, .int 4] (ev_M (ev_E 123 [.ref 0, .int 4] ev_3)))) = true) ∧ (dm_isO (ev_M (ev_E 123 [.ref 0, .int 5] ev_3)) 68 8 = true) ∧ (dm_bd (ev_M (ev_E 208 [.ref 68, .int 5] (ev_M (ev_E 123 [.ref 0, .int 5] ev_3)))) = true) ∧ (dm_isO (ev_M (ev_E 123 [.ref 0, .int 6] ev_3)) 68 8 = true) ∧ (dm_bd (ev_M (ev_E 208 [.ref 68, .int 6] (ev_M (ev_E 123 [.ref 0, .int 6] ev_3)))) = true) := by decide +kernel
theorem io_40 : dm_isO (ev_M (ev_E 123 [.ref 0, .int 0] ev_3)) 68 8 = true := ig_2.1
theorem bd_40 : dm_bd (ev_M (ev_E 208 [.ref 68, .int 0] (ev_M (ev_E 123 [.ref 0, .int 0] ev_3)))) = true := ig_2.2.1
theorem io_41 : dm_isO (ev_M (ev_E 123 [.ref 0, .int 1] ev_3)) 68 8 = true := ig_2.2.2.1
theorem bd_41 : dm_bd (ev_M (ev_E 208 [.ref 68, .int 1] (ev_M (ev_E 123 [.ref 0, .int 1] ev_3)))) = true := ig_2.2.2.2.1
theorem io_42 : dm_isO (ev_M (ev_E 123 [.ref 0, .int 2] ev_3)) 68 8 = true := ig_2.2.2.2.2.1
theorem bd_42 : dm_bd (ev_M (ev_E 208 [.ref 68, .int 2] (ev_M (ev_E 123 [.ref 0, .int 2] ev_3)))) = true := ig_2.2.2.2.2.2.1
theorem io_43 : dm_isO (ev_M (ev_E 123 [.ref 0, .int 3] ev_3)) 68 8 = true := ig_2.2.2.2.2.2.2.1
theorem bd_43 : dm_bd (ev_M (ev_E 208 [.ref 68, .int 3] (ev_M (ev_E 123 [.ref 0, .int 3] ev_3)))) = true := ig_2.2.2.2.2.2.2.2.1
theorem io_44 : dm_isO (ev_M (ev_E 123 [.ref 0, .int 4] ev_3)) 68 8 = true := ig_2.2.2.2.2.2.2.2.2.1
theorem bd_44 : dm_bd (ev_M (ev_E 208 [.ref 68, .int 4] (ev_M (ev_E 123 [.ref 0, .int 4] ev_3)))) = true := ig_2.2.2.2.2.2.2.2.2.2.1
theorem io_45 : dm_isO (ev_M (ev_E 123 [.ref 0, .int 5] ev_3)) 68 8 = true := ig_2.2.2.2.2.2.2.2.2.2.2.1
theorem bd_45 : dm_bd (ev_M (ev_E 208 [.ref 68, .int 5] (ev_M (ev_E 123 [.ref 0, .int 5] ev_3)))) = true := ig_2.2.2.2.2.2.2.2.2.2.2.2.1
theorem io_46 : dm_isO (ev_M (ev_E 123 [.ref 0, .int 6] ev_3)) 68 8 = true := ig_2.2.2.2.2.2.2.2.2.2.2.2.2.1
theorem bd_46 : dm_bd (ev_M (ev_E 208 [.ref 68, .int 6] (ev_M (ev_E 123 [.ref 0, .int 6] ev_3)))) = true := ig_2.2.2.2.2.2.2.2.2.2.2.2.2.2
set_option maxRecDepth 100000 in
theorem lo_0 (xs : Nat → Int32) (f1 f2 : dm_Sem) (h : xs 0 &&& 31 = 0)  : ∃ M, dm_run ev_E (cdL 9 xs f1 f2) 1999976 (40, lvA, [.int (xs 0 &&& 31)]) ev_3 = some (some (.int 1), M) ∧ dm_bd M = true := by
  refine ⟨(ev_M (ev_E 136 [.ref 68] (ev_M (ev_E 95 [.ref 0] ev_3)))), ?_, bd_0⟩
  refine qs (f := dm_tsw 0 28 1263 [172, 183, 208, 233, 270, 295, 320, 357, 382, 419, 432, 469, 506, 543, 655, 774, 811, 860, 874, 887, 1042, 1067, 1092, 1161, 1186, 1199, 1212, 1225, 1238]) rfl (dm_tsw_at h rfl) ?_
  refine qs (f := dm_ald 173 1) rfl (rfl) ?_
  refine qc (f := dm_inv 176 95 0 7) rfl (dm_inv_ok io_0 rfl (Nat.le_of_ble_eq_true rfl)) (ec_16  ) ?_
  refine qs (f := dm_ald 177 2) rfl (rfl) ?_
  refine qc (f := dm_inv 180 136 0 8) rfl (dm_inv_ok io_1 rfl (Nat.le_of_ble_eq_true rfl)) (em_16  ) ?_
  refine qs (f := dm_goto 1263) rfl (rfl) ?_
  refine qs (f := dm_iinc 1266 4 9) rfl (rfl) ?_
  refine qs (f := dm_goto 23) rfl (rfl) ?_
  refine qs (f := dm_ild 25 4) rfl (rfl) ?_
  refine qs (f := dm_ald 26 0) rfl (rfl) ?_
  refine qs (f := dm_sln 27 9) rfl (rfl) ?_
  refine qs (f := dm_push 29 (.int 9)) rfl (rfl) ?_
  refine qs (f := dm_ii 30 (fun x y => x - y)) rfl (rfl) ?_
  refine qs (f := dm_ic_gt 33 1269) rfl (dm_ic_gt_t (by decide)) ?_
  refine qs (f := dm_push 1270 (.int 1)) rfl (rfl) ?_
  exact qr (f := dm_ret .boolean) rfl rfl
set_option maxRecDepth 100000 in
theorem lo_1 (xs : Nat → Int32) (f1 f2 : dm_Sem) (h : xs 0 &&& 31 = 1) (hs : (xs 1) = 0) : ∃ M, dm_run ev_E (cdL 9 xs f1 f2) 1999976 (40, lvA, [.int (xs 0 &&& 31)]) ev_3 = some (some (.int 1), M) ∧ dm_bd M = true := by
  refine ⟨(ev_M (ev_E 158 [.ref 68, .int 0] (ev_M (ev_E 96 [.ref 0, .int 0] ev_3)))), ?_, bd_1⟩
  refine qs (f := dm_tsw 0 28 1263 [172, 183, 208, 233, 270, 295, 320, 357, 382, 419, 432, 469, 506, 543, 655, 774, 811, 860, 874, 887, 1042, 1067, 1092, 1161, 1186, 1199, 1212, 1225, 1238]) rfl (dm_tsw_at h rfl) ?_
  refine qs (f := dm_ald 184 1) rfl (rfl) ?_
  refine qs (f := dm_ald 185 0) rfl (rfl) ?_
  refine qs (f := dm_ild 187 4) rfl (rfl) ?_
  refine qs (f := dm_push 188 (.int 1)) rfl (rfl) ?_
  refine qs (f := dm_ii 189 (fun x y => x + y)) rfl (rfl) ?_
  refine qs (f := dm_sld 190 9 xs) rfl (dm_sld_ok (j := 1) (by decide) (by decide)) ?_
  refine qc (f := dm_inv 193 96 1 7) rfl (dm_inv_ok io_0 rfl (Nat.le_of_ble_eq_true rfl)) (ez_0 (xs 1) hs) ?_
  refine qs (f := dm_ald 194 2) rfl (rfl) ?_
  refine qs (f := dm_ald 195 0) rfl (rfl) ?_
  refine qs (f := dm_ild 197 4) rfl (rfl) ?_
  refine qs (f := dm_push 198 (.int 1)) rfl (rfl) ?_
  refine qs (f := dm_ii 199 (fun x y => x + y)) rfl (rfl) ?_
  refine qs (f := dm_sld 200 9 xs) rfl (dm_sld_ok (j := 1) (by decide) (by decide)) ?_
  refine qc (f := dm_inv 203 158 1 8) rfl (dm_inv_ok io_2 rfl (Nat.le_of_ble_eq_true rfl)) (en_0 (xs 1) hs) ?_
  refine qs (f := dm_ic_eq 206 1263) rfl (dm_ic_eq_t (by first | rfl | decide)) ?_
  refine qs (f := dm_iinc 1266 4 9) rfl (rfl) ?_
  refine qs (f := dm_goto 23) rfl (rfl) ?_
  refine qs (f := dm_ild 25 4) rfl (rfl) ?_
  refine qs (f := dm_ald 26 0) rfl (rfl) ?_
  refine qs (f := dm_sln 27 9) rfl (rfl) ?_
  refine qs (f := dm_push 29 (.int 9)) rfl (rfl) ?_
  refine qs (f := dm_ii 30 (fun x y => x - y)) rfl (rfl) ?_
  refine qs (f := dm_ic_gt 33 1269) rfl (dm_ic_gt_t (by decide)) ?_
  refine qs (f := dm_push 1270 (.int 1)) rfl (rfl) ?_
  exact qr (f := dm_ret .boolean) rfl rfl
set_option maxRecDepth 100000 in
theorem lo_2 (xs : Nat → Int32) (f1 f2 : dm_Sem) (h : xs 0 &&& 31 = 1) (hs : ¬ (xs 1) = 0) : ∃ M, dm_run ev_E (cdL 9 xs f1 f2) 1999976 (40, lvA, [.int (xs 0 &&& 31)]) ev_3 = some (some (.int 1), M) ∧ dm_bd M = true := by
  refine ⟨ev_3, ?_, bd_2⟩
  refine qs (f := dm_tsw 0 28 1263 [172, 183, 208, 233, 270, 295, 320, 357, 382, 419, 432, 469, 506, 543, 655, 774, 811, 860, 874, 887, 1042, 1067, 1092, 1161, 1186, 1199, 1212, 1225, 1238]) rfl (dm_tsw_at h rfl) ?_
  refine qs (f := dm_ald 184 1) rfl (rfl) ?_
  refine qs (f := dm_ald 185 0) rfl (rfl) ?_
  refine qs (f := dm_ild 187 4) rfl (rfl) ?_
  refine qs (f := dm_push 188 (.int 1)) rfl (rfl) ?_
  refine qs (f := dm_ii 189 (fun x y => x + y)) rfl (rfl) ?_
  refine qs (f := dm_sld 190 9 xs) rfl (dm_sld_ok (j := 1) (by decide) (by decide)) ?_
  refine qc (f := dm_inv 193 96 1 7) rfl (dm_inv_ok io_0 rfl (Nat.le_of_ble_eq_true rfl)) (sy_4 (xs 1) hs) ?_
  refine qs (f := dm_ald 194 2) rfl (rfl) ?_
  refine qs (f := dm_ald 195 0) rfl (rfl) ?_
  refine qs (f := dm_ild 197 4) rfl (rfl) ?_
  refine qs (f := dm_push 198 (.int 1)) rfl (rfl) ?_
  refine qs (f := dm_ii 199 (fun x y => x + y)) rfl (rfl) ?_
  refine qs (f := dm_sld 200 9 xs) rfl (dm_sld_ok (j := 1) (by decide) (by decide)) ?_
  refine qc (f := dm_inv 203 158 1 8) rfl (dm_inv_ok io_3 rfl (Nat.le_of_ble_eq_true rfl)) (sy_7 (xs 1) hs) ?_
  refine qs (f := dm_ic_eq 206 1263) rfl (dm_ic_eq_t (by first | rfl | decide)) ?_
  refine qs (f := dm_iinc 1266 4 9) rfl (rfl) ?_
  refine qs (f := dm_goto 23) rfl (rfl) ?_
  refine qs (f := dm_ild 25 4) rfl (rfl) ?_
  refine qs (f := dm_ald 26 0) rfl (rfl) ?_
  refine qs (f := dm_sln 27 9) rfl (rfl) ?_
  refine qs (f := dm_push 29 (.int 9)) rfl (rfl) ?_
  refine qs (f := dm_ii 30 (fun x y => x - y)) rfl (rfl) ?_
  refine qs (f := dm_ic_gt 33 1269) rfl (dm_ic_gt_t (by decide)) ?_
  refine qs (f := dm_push 1270 (.int 1)) rfl (rfl) ?_
  exact qr (f := dm_ret .boolean) rfl rfl
set_option maxRecDepth 100000 in
theorem lo_3 (xs : Nat → Int32) (f1 f2 : dm_Sem) (h : xs 0 &&& 31 = 2) (hs : (xs 1) = 0) : ∃ M, dm_run ev_E (cdL 9 xs f1 f2) 1999976 (40, lvA, [.int (xs 0 &&& 31)]) ev_3 = some (some (.int 1), M) ∧ dm_bd M = true := by
  refine ⟨(ev_M (ev_E 163 [.ref 68, .int 0] (ev_M (ev_E 97 [.ref 0, .int 0] ev_3)))), ?_, bd_3⟩
  refine qs (f := dm_tsw 0 28 1263 [172, 183, 208, 233, 270, 295, 320, 357, 382, 419, 432, 469, 506, 543, 655, 774, 811, 860, 874, 887, 1042, 1067, 1092, 1161, 1186, 1199, 1212, 1225, 1238]) rfl (dm_tsw_at h rfl) ?_
  refine qs (f := dm_ald 209 1) rfl (rfl) ?_
  refine qs (f := dm_ald 210 0) rfl (rfl) ?_
  refine qs (f := dm_ild 212 4) rfl (rfl) ?_
  refine qs (f := dm_push 213 (.int 1)) rfl (rfl) ?_
  refine qs (f := dm_ii 214 (fun x y => x + y)) rfl (rfl) ?_
  refine qs (f := dm_sld 215 9 xs) rfl (dm_sld_ok (j := 1) (by decide) (by decide)) ?_
  refine qc (f := dm_inv 218 97 1 7) rfl (dm_inv_ok io_0 rfl (Nat.le_of_ble_eq_true rfl)) (ez_1 (xs 1) hs) ?_
  refine qs (f := dm_ald 219 2) rfl (rfl) ?_
  refine qs (f := dm_ald 220 0) rfl (rfl) ?_
  refine qs (f := dm_ild 222 4) rfl (rfl) ?_
  refine qs (f := dm_push 223 (.int 1)) rfl (rfl) ?_
  refine qs (f := dm_ii 224 (fun x y => x + y)) rfl (rfl) ?_
  refine qs (f := dm_sld 225 9 xs) rfl (dm_sld_ok (j := 1) (by decide) (by decide)) ?_
  refine qc (f := dm_inv 228 163 1 8) rfl (dm_inv_ok io_4 rfl (Nat.le_of_ble_eq_true rfl)) (en_1 (xs 1) hs) ?_
  refine qs (f := dm_ic_eq 231 1263) rfl (dm_ic_eq_t (by first | rfl | decide)) ?_
  refine qs (f := dm_iinc 1266 4 9) rfl (rfl) ?_
  refine qs (f := dm_goto 23) rfl (rfl) ?_
  refine qs (f := dm_ild 25 4) rfl (rfl) ?_
  refine qs (f := dm_ald 26 0) rfl (rfl) ?_
  refine qs (f := dm_sln 27 9) rfl (rfl) ?_
  refine qs (f := dm_push 29 (.int 9)) rfl (rfl) ?_
  refine qs (f := dm_ii 30 (fun x y => x - y)) rfl (rfl) ?_
  refine qs (f := dm_ic_gt 33 1269) rfl (dm_ic_gt_t (by decide)) ?_
  refine qs (f := dm_push 1270 (.int 1)) rfl (rfl) ?_
  exact qr (f := dm_ret .boolean) rfl rfl
set_option maxRecDepth 100000 in
theorem lo_4 (xs : Nat → Int32) (f1 f2 : dm_Sem) (h : xs 0 &&& 31 = 2) (hs : ¬ (xs 1) = 0) : ∃ M, dm_run ev_E (cdL 9 xs f1 f2) 1999976 (40, lvA, [.int (xs 0 &&& 31)]) ev_3 = some (some (.int 1), M) ∧ dm_bd M = true := by
  refine ⟨ev_3, ?_, bd_2⟩
  refine qs (f := dm_tsw 0 28 1263 [172, 183, 208, 233, 270, 295, 320, 357, 382, 419, 432, 469, 506, 543, 655, 774, 811, 860, 874, 887, 1042, 1067, 1092, 1161, 1186, 1199, 1212, 1225, 1238]) rfl (dm_tsw_at h rfl) ?_
  refine qs (f := dm_ald 209 1) rfl (rfl) ?_
  refine qs (f := dm_ald 210 0) rfl (rfl) ?_
  refine qs (f := dm_ild 212 4) rfl (rfl) ?_
  refine qs (f := dm_push 213 (.int 1)) rfl (rfl) ?_
  refine qs (f := dm_ii 214 (fun x y => x + y)) rfl (rfl) ?_
  refine qs (f := dm_sld 215 9 xs) rfl (dm_sld_ok (j := 1) (by decide) (by decide)) ?_
  refine qc (f := dm_inv 218 97 1 7) rfl (dm_inv_ok io_0 rfl (Nat.le_of_ble_eq_true rfl)) (sy_8 (xs 1) hs) ?_
  refine qs (f := dm_ald 219 2) rfl (rfl) ?_
  refine qs (f := dm_ald 220 0) rfl (rfl) ?_
  refine qs (f := dm_ild 222 4) rfl (rfl) ?_
  refine qs (f := dm_push 223 (.int 1)) rfl (rfl) ?_
  refine qs (f := dm_ii 224 (fun x y => x + y)) rfl (rfl) ?_
  refine qs (f := dm_sld 225 9 xs) rfl (dm_sld_ok (j := 1) (by decide) (by decide)) ?_
  refine qc (f := dm_inv 228 163 1 8) rfl (dm_inv_ok io_3 rfl (Nat.le_of_ble_eq_true rfl)) (sy_9 (xs 1) hs) ?_
  refine qs (f := dm_ic_eq 231 1263) rfl (dm_ic_eq_t (by first | rfl | decide)) ?_
  refine qs (f := dm_iinc 1266 4 9) rfl (rfl) ?_
  refine qs (f := dm_goto 23) rfl (rfl) ?_
  refine qs (f := dm_ild 25 4) rfl (rfl) ?_
  refine qs (f := dm_ald 26 0) rfl (rfl) ?_
  refine qs (f := dm_sln 27 9) rfl (rfl) ?_
  refine qs (f := dm_push 29 (.int 9)) rfl (rfl) ?_
  refine qs (f := dm_ii 30 (fun x y => x - y)) rfl (rfl) ?_
  refine qs (f := dm_ic_gt 33 1269) rfl (dm_ic_gt_t (by decide)) ?_
  refine qs (f := dm_push 1270 (.int 1)) rfl (rfl) ?_
  exact qr (f := dm_ret .boolean) rfl rfl
set_option maxRecDepth 100000 in
theorem lo_5 (xs : Nat → Int32) (f1 f2 : dm_Sem) (h : xs 0 &&& 31 = 3) (hs : (xs 1) = 0) (ht : (xs 2) = 0) : ∃ M, dm_run ev_E (cdL 9 xs f1 f2) 1999976 (40, lvA, [.int (xs 0 &&& 31)]) ev_3 = some (some (.int 1), M) ∧ dm_bd M = true := by
  refine ⟨(ev_M (ev_E 167 [.ref 68, .int 0, .int 0] (ev_M (ev_E 98 [.ref 0, .int 0, .int 0] ev_3)))), ?_, bd_4⟩
  refine qs (f := dm_tsw 0 28 1263 [172, 183, 208, 233, 270, 295, 320, 357, 382, 419, 432, 469, 506, 543, 655, 774, 811, 860, 874, 887, 1042, 1067, 1092, 1161, 1186, 1199, 1212, 1225, 1238]) rfl (dm_tsw_at h rfl) ?_
  refine qs (f := dm_ald 234 1) rfl (rfl) ?_
  refine qs (f := dm_ald 235 0) rfl (rfl) ?_
  refine qs (f := dm_ild 237 4) rfl (rfl) ?_
  refine qs (f := dm_push 238 (.int 1)) rfl (rfl) ?_
  refine qs (f := dm_ii 239 (fun x y => x + y)) rfl (rfl) ?_
  refine qs (f := dm_sld 240 9 xs) rfl (dm_sld_ok (j := 1) (by decide) (by decide)) ?_
  refine qs (f := dm_ald 241 0) rfl (rfl) ?_
  refine qs (f := dm_ild 243 4) rfl (rfl) ?_
  refine qs (f := dm_push 244 (.int 2)) rfl (rfl) ?_
  refine qs (f := dm_ii 245 (fun x y => x + y)) rfl (rfl) ?_
  refine qs (f := dm_sld 246 9 xs) rfl (dm_sld_ok (j := 2) (by decide) (by decide)) ?_
  refine qc (f := dm_inv 249 98 2 7) rfl (dm_inv_ok io_0 rfl (Nat.le_of_ble_eq_true rfl)) (ez_17 (xs 1) (xs 2) hs ht) ?_
  refine qs (f := dm_ald 250 2) rfl (rfl) ?_
  refine qs (f := dm_ald 251 0) rfl (rfl) ?_
  refine qs (f := dm_ild 253 4) rfl (rfl) ?_
  refine qs (f := dm_push 254 (.int 1)) rfl (rfl) ?_
  refine qs (f := dm_ii 255 (fun x y => x + y)) rfl (rfl) ?_
  refine qs (f := dm_sld 256 9 xs) rfl (dm_sld_ok (j := 1) (by decide) (by decide)) ?_
  refine qs (f := dm_ald 257 0) rfl (rfl) ?_
  refine qs (f := dm_ild 259 4) rfl (rfl) ?_
  refine qs (f := dm_push 260 (.int 2)) rfl (rfl) ?_
  refine qs (f := dm_ii 261 (fun x y => x + y)) rfl (rfl) ?_
  refine qs (f := dm_sld 262 9 xs) rfl (dm_sld_ok (j := 2) (by decide) (by decide)) ?_
  refine qc (f := dm_inv 265 167 2 8) rfl (dm_inv_ok io_5 rfl (Nat.le_of_ble_eq_true rfl)) (en_17 (xs 1) (xs 2) hs ht) ?_
  refine qs (f := dm_ic_eq 268 1263) rfl (dm_ic_eq_t (by first | rfl | decide)) ?_
  refine qs (f := dm_iinc 1266 4 9) rfl (rfl) ?_
  refine qs (f := dm_goto 23) rfl (rfl) ?_
  refine qs (f := dm_ild 25 4) rfl (rfl) ?_
  refine qs (f := dm_ald 26 0) rfl (rfl) ?_
  refine qs (f := dm_sln 27 9) rfl (rfl) ?_
  refine qs (f := dm_push 29 (.int 9)) rfl (rfl) ?_
  refine qs (f := dm_ii 30 (fun x y => x - y)) rfl (rfl) ?_
  refine qs (f := dm_ic_gt 33 1269) rfl (dm_ic_gt_t (by decide)) ?_
  refine qs (f := dm_push 1270 (.int 1)) rfl (rfl) ?_
  exact qr (f := dm_ret .boolean) rfl rfl
set_option maxRecDepth 100000 in
theorem lo_6 (xs : Nat → Int32) (f1 f2 : dm_Sem) (h : xs 0 &&& 31 = 3) (hs : ¬ (xs 1) = 0) : ∃ M, dm_run ev_E (cdL 9 xs f1 f2) 1999976 (40, lvA, [.int (xs 0 &&& 31)]) ev_3 = some (some (.int 1), M) ∧ dm_bd M = true := by
  refine ⟨ev_3, ?_, bd_2⟩
  refine qs (f := dm_tsw 0 28 1263 [172, 183, 208, 233, 270, 295, 320, 357, 382, 419, 432, 469, 506, 543, 655, 774, 811, 860, 874, 887, 1042, 1067, 1092, 1161, 1186, 1199, 1212, 1225, 1238]) rfl (dm_tsw_at h rfl) ?_
  refine qs (f := dm_ald 234 1) rfl (rfl) ?_
  refine qs (f := dm_ald 235 0) rfl (rfl) ?_
  refine qs (f := dm_ild 237 4) rfl (rfl) ?_
  refine qs (f := dm_push 238 (.int 1)) rfl (rfl) ?_
  refine qs (f := dm_ii 239 (fun x y => x + y)) rfl (rfl) ?_
  refine qs (f := dm_sld 240 9 xs) rfl (dm_sld_ok (j := 1) (by decide) (by decide)) ?_
  refine qs (f := dm_ald 241 0) rfl (rfl) ?_
  refine qs (f := dm_ild 243 4) rfl (rfl) ?_
  refine qs (f := dm_push 244 (.int 2)) rfl (rfl) ?_
  refine qs (f := dm_ii 245 (fun x y => x + y)) rfl (rfl) ?_
  refine qs (f := dm_sld 246 9 xs) rfl (dm_sld_ok (j := 2) (by decide) (by decide)) ?_
  refine qc (f := dm_inv 249 98 2 7) rfl (dm_inv_ok io_0 rfl (Nat.le_of_ble_eq_true rfl)) (sy_39 (xs 1) (xs 2) hs) ?_
  refine qs (f := dm_ald 250 2) rfl (rfl) ?_
  refine qs (f := dm_ald 251 0) rfl (rfl) ?_
  refine qs (f := dm_ild 253 4) rfl (rfl) ?_
  refine qs (f := dm_push 254 (.int 1)) rfl (rfl) ?_
  refine qs (f := dm_ii 255 (fun x y => x + y)) rfl (rfl) ?_
  refine qs (f := dm_sld 256 9 xs) rfl (dm_sld_ok (j := 1) (by decide) (by decide)) ?_
  refine qs (f := dm_ald 257 0) rfl (rfl) ?_
  refine qs (f := dm_ild 259 4) rfl (rfl) ?_
  refine qs (f := dm_push 260 (.int 2)) rfl (rfl) ?_
  refine qs (f := dm_ii 261 (fun x y => x + y)) rfl (rfl) ?_
  refine qs (f := dm_sld 262 9 xs) rfl (dm_sld_ok (j := 2) (by decide) (by decide)) ?_
  refine qc (f := dm_inv 265 167 2 8) rfl (dm_inv_ok io_3 rfl (Nat.le_of_ble_eq_true rfl)) (sy_40 (xs 1) (xs 2) hs) ?_
  refine qs (f := dm_ic_eq 268 1263) rfl (dm_ic_eq_t (by first | rfl | decide)) ?_
  refine qs (f := dm_iinc 1266 4 9) rfl (rfl) ?_
  refine qs (f := dm_goto 23) rfl (rfl) ?_
  refine qs (f := dm_ild 25 4) rfl (rfl) ?_
  refine qs (f := dm_ald 26 0) rfl (rfl) ?_
  refine qs (f := dm_sln 27 9) rfl (rfl) ?_
  refine qs (f := dm_push 29 (.int 9)) rfl (rfl) ?_
  refine qs (f := dm_ii 30 (fun x y => x - y)) rfl (rfl) ?_
  refine qs (f := dm_ic_gt 33 1269) rfl (dm_ic_gt_t (by decide)) ?_
  refine qs (f := dm_push 1270 (.int 1)) rfl (rfl) ?_
  exact qr (f := dm_ret .boolean) rfl rfl
set_option maxRecDepth 100000 in
theorem lo_7 (xs : Nat → Int32) (f1 f2 : dm_Sem) (h : xs 0 &&& 31 = 3) (ht : ¬ (xs 2) = 0) (zs : xs 1 = 0) : ∃ M, dm_run ev_E (cdL 9 xs f1 f2) 1999976 (40, lvA, [.int (xs 0 &&& 31)]) ev_3 = some (some (.int 1), M) ∧ dm_bd M = true := by
  refine ⟨mm_4, ?_, bd_5⟩
  refine qs (f := dm_tsw 0 28 1263 [172, 183, 208, 233, 270, 295, 320, 357, 382, 419, 432, 469, 506, 543, 655, 774, 811, 860, 874, 887, 1042, 1067, 1092, 1161, 1186, 1199, 1212, 1225, 1238]) rfl (dm_tsw_at h rfl) ?_
  refine qs (f := dm_ald 234 1) rfl (rfl) ?_
  refine qs (f := dm_ald 235 0) rfl (rfl) ?_
  refine qs (f := dm_ild 237 4) rfl (rfl) ?_
  refine qs (f := dm_push 238 (.int 1)) rfl (rfl) ?_
  refine qs (f := dm_ii 239 (fun x y => x + y)) rfl (rfl) ?_
  refine qs (f := dm_sld 240 9 xs) rfl (dm_sld_ok (j := 1) (by decide) (by decide)) ?_
  refine qs (f := dm_ald 241 0) rfl (rfl) ?_
  refine qs (f := dm_ild 243 4) rfl (rfl) ?_
  refine qs (f := dm_push 244 (.int 2)) rfl (rfl) ?_
  refine qs (f := dm_ii 245 (fun x y => x + y)) rfl (rfl) ?_
  refine qs (f := dm_sld 246 9 xs) rfl (dm_sld_ok (j := 2) (by decide) (by decide)) ?_
  refine qc (f := dm_inv 249 98 2 7) rfl (dm_inv_ok io_0 rfl (Nat.le_of_ble_eq_true rfl)) ((by rw [zs]; exact sy_44 (xs 2) ht : ev_E 98 [.ref 0, .int (xs 1), .int (xs 2)] ev_3 = some (some (.int (-1)), mm_3))) ?_
  refine qs (f := dm_ald 250 2) rfl (rfl) ?_
  refine qs (f := dm_ald 251 0) rfl (rfl) ?_
  refine qs (f := dm_ild 253 4) rfl (rfl) ?_
  refine qs (f := dm_push 254 (.int 1)) rfl (rfl) ?_
  refine qs (f := dm_ii 255 (fun x y => x + y)) rfl (rfl) ?_
  refine qs (f := dm_sld 256 9 xs) rfl (dm_sld_ok (j := 1) (by decide) (by decide)) ?_
  refine qs (f := dm_ald 257 0) rfl (rfl) ?_
  refine qs (f := dm_ild 259 4) rfl (rfl) ?_
  refine qs (f := dm_push 260 (.int 2)) rfl (rfl) ?_
  refine qs (f := dm_ii 261 (fun x y => x + y)) rfl (rfl) ?_
  refine qs (f := dm_sld 262 9 xs) rfl (dm_sld_ok (j := 2) (by decide) (by decide)) ?_
  refine qc (f := dm_inv 265 167 2 8) rfl (dm_inv_ok io_6 rfl (Nat.le_of_ble_eq_true rfl)) ((by rw [zs]; exact sy_47 (xs 2) ht : ev_E 167 [.ref 68, .int (xs 1), .int (xs 2)] mm_3 = some (some (.int (-1)), mm_4))) ?_
  refine qs (f := dm_ic_eq 268 1263) rfl (dm_ic_eq_t (by first | rfl | decide)) ?_
  refine qs (f := dm_iinc 1266 4 9) rfl (rfl) ?_
  refine qs (f := dm_goto 23) rfl (rfl) ?_
  refine qs (f := dm_ild 25 4) rfl (rfl) ?_
  refine qs (f := dm_ald 26 0) rfl (rfl) ?_
  refine qs (f := dm_sln 27 9) rfl (rfl) ?_
  refine qs (f := dm_push 29 (.int 9)) rfl (rfl) ?_
  refine qs (f := dm_ii 30 (fun x y => x - y)) rfl (rfl) ?_
  refine qs (f := dm_ic_gt 33 1269) rfl (dm_ic_gt_t (by decide)) ?_
  refine qs (f := dm_push 1270 (.int 1)) rfl (rfl) ?_
  exact qr (f := dm_ret .boolean) rfl rfl
set_option maxRecDepth 100000 in
theorem lo_8 (xs : Nat → Int32) (f1 f2 : dm_Sem) (h : xs 0 &&& 31 = 4) (hs : (xs 1) = 0) : ∃ M, dm_run ev_E (cdL 9 xs f1 f2) 1999976 (40, lvA, [.int (xs 0 &&& 31)]) ev_3 = some (some (.int 1), M) ∧ dm_bd M = true := by
  refine ⟨(ev_M (ev_E 168 [.ref 68, .int 0] (ev_M (ev_E 99 [.ref 0, .int 0] ev_3)))), ?_, bd_6⟩
  refine qs (f := dm_tsw 0 28 1263 [172, 183, 208, 233, 270, 295, 320, 357, 382, 419, 432, 469, 506, 543, 655, 774, 811, 860, 874, 887, 1042, 1067, 1092, 1161, 1186, 1199, 1212, 1225, 1238]) rfl (dm_tsw_at h rfl) ?_
  refine qs (f := dm_ald 271 1) rfl (rfl) ?_
  refine qs (f := dm_ald 272 0) rfl (rfl) ?_
  refine qs (f := dm_ild 274 4) rfl (rfl) ?_
  refine qs (f := dm_push 275 (.int 1)) rfl (rfl) ?_
  refine qs (f := dm_ii 276 (fun x y => x + y)) rfl (rfl) ?_
  refine qs (f := dm_sld 277 9 xs) rfl (dm_sld_ok (j := 1) (by decide) (by decide)) ?_
  refine qc (f := dm_inv 280 99 1 7) rfl (dm_inv_ok io_0 rfl (Nat.le_of_ble_eq_true rfl)) (ez_2 (xs 1) hs) ?_
  refine qs (f := dm_ald 281 2) rfl (rfl) ?_
  refine qs (f := dm_ald 282 0) rfl (rfl) ?_
  refine qs (f := dm_ild 284 4) rfl (rfl) ?_
  refine qs (f := dm_push 285 (.int 1)) rfl (rfl) ?_
  refine qs (f := dm_ii 286 (fun x y => x + y)) rfl (rfl) ?_
  refine qs (f := dm_sld 287 9 xs) rfl (dm_sld_ok (j := 1) (by decide) (by decide)) ?_
  refine qc (f := dm_inv 290 168 1 8) rfl (dm_inv_ok io_7 rfl (Nat.le_of_ble_eq_true rfl)) (en_2 (xs 1) hs) ?_
  refine qs (f := dm_ic_eq 293 1263) rfl (dm_ic_eq_t (by first | rfl | decide)) ?_
  refine qs (f := dm_iinc 1266 4 9) rfl (rfl) ?_
  refine qs (f := dm_goto 23) rfl (rfl) ?_
  refine qs (f := dm_ild 25 4) rfl (rfl) ?_
  refine qs (f := dm_ald 26 0) rfl (rfl) ?_
  refine qs (f := dm_sln 27 9) rfl (rfl) ?_
  refine qs (f := dm_push 29 (.int 9)) rfl (rfl) ?_
  refine qs (f := dm_ii 30 (fun x y => x - y)) rfl (rfl) ?_
  refine qs (f := dm_ic_gt 33 1269) rfl (dm_ic_gt_t (by decide)) ?_
  refine qs (f := dm_push 1270 (.int 1)) rfl (rfl) ?_
  exact qr (f := dm_ret .boolean) rfl rfl
set_option maxRecDepth 100000 in
theorem lo_9 (xs : Nat → Int32) (f1 f2 : dm_Sem) (h : xs 0 &&& 31 = 4) (hs : ¬ (xs 1) = 0) : ∃ M, dm_run ev_E (cdL 9 xs f1 f2) 1999976 (40, lvA, [.int (xs 0 &&& 31)]) ev_3 = some (some (.int 1), M) ∧ dm_bd M = true := by
  refine ⟨ev_3, ?_, bd_2⟩
  refine qs (f := dm_tsw 0 28 1263 [172, 183, 208, 233, 270, 295, 320, 357, 382, 419, 432, 469, 506, 543, 655, 774, 811, 860, 874, 887, 1042, 1067, 1092, 1161, 1186, 1199, 1212, 1225, 1238]) rfl (dm_tsw_at h rfl) ?_
  refine qs (f := dm_ald 271 1) rfl (rfl) ?_
  refine qs (f := dm_ald 272 0) rfl (rfl) ?_
  refine qs (f := dm_ild 274 4) rfl (rfl) ?_
  refine qs (f := dm_push 275 (.int 1)) rfl (rfl) ?_
  refine qs (f := dm_ii 276 (fun x y => x + y)) rfl (rfl) ?_
  refine qs (f := dm_sld 277 9 xs) rfl (dm_sld_ok (j := 1) (by decide) (by decide)) ?_
  refine qc (f := dm_inv 280 99 1 7) rfl (dm_inv_ok io_0 rfl (Nat.le_of_ble_eq_true rfl)) (sy_12 (xs 1) hs) ?_
  refine qs (f := dm_ald 281 2) rfl (rfl) ?_
  refine qs (f := dm_ald 282 0) rfl (rfl) ?_
  refine qs (f := dm_ild 284 4) rfl (rfl) ?_
  refine qs (f := dm_push 285 (.int 1)) rfl (rfl) ?_
  refine qs (f := dm_ii 286 (fun x y => x + y)) rfl (rfl) ?_
  refine qs (f := dm_sld 287 9 xs) rfl (dm_sld_ok (j := 1) (by decide) (by decide)) ?_
  refine qc (f := dm_inv 290 168 1 8) rfl (dm_inv_ok io_3 rfl (Nat.le_of_ble_eq_true rfl)) (sy_13 (xs 1) hs) ?_
  refine qs (f := dm_ic_eq 293 1263) rfl (dm_ic_eq_t (by first | rfl | decide)) ?_
  refine qs (f := dm_iinc 1266 4 9) rfl (rfl) ?_
  refine qs (f := dm_goto 23) rfl (rfl) ?_
  refine qs (f := dm_ild 25 4) rfl (rfl) ?_
  refine qs (f := dm_ald 26 0) rfl (rfl) ?_
  refine qs (f := dm_sln 27 9) rfl (rfl) ?_
  refine qs (f := dm_push 29 (.int 9)) rfl (rfl) ?_
  refine qs (f := dm_ii 30 (fun x y => x - y)) rfl (rfl) ?_
  refine qs (f := dm_ic_gt 33 1269) rfl (dm_ic_gt_t (by decide)) ?_
  refine qs (f := dm_push 1270 (.int 1)) rfl (rfl) ?_
  exact qr (f := dm_ret .boolean) rfl rfl
set_option maxRecDepth 100000 in
theorem lo_10 (xs : Nat → Int32) (f1 f2 : dm_Sem) (h : xs 0 &&& 31 = 5) (hs : (xs 1) = 0) : ∃ M, dm_run ev_E (cdL 9 xs f1 f2) 1999976 (40, lvA, [.int (xs 0 &&& 31)]) ev_3 = some (some (.int 1), M) ∧ dm_bd M = true := by
  refine ⟨(ev_M (ev_E 169 [.ref 68, .int 0] (ev_M (ev_E 100 [.ref 0, .int 0] ev_3)))), ?_, bd_7⟩
  refine qs (f := dm_tsw 0 28 1263 [172, 183, 208, 233, 270, 295, 320, 357, 382, 419, 432, 469, 506, 543, 655, 774, 811, 860, 874, 887, 1042, 1067, 1092, 1161, 1186, 1199, 1212, 1225, 1238]) rfl (dm_tsw_at h rfl) ?_
  refine qs (f := dm_ald 296 1) rfl (rfl) ?_
  refine qs (f := dm_ald 297 0) rfl (rfl) ?_
  refine qs (f := dm_ild 299 4) rfl (rfl) ?_
  refine qs (f := dm_push 300 (.int 1)) rfl (rfl) ?_
  refine qs (f := dm_ii 301 (fun x y => x + y)) rfl (rfl) ?_
  refine qs (f := dm_sld 302 9 xs) rfl (dm_sld_ok (j := 1) (by decide) (by decide)) ?_
  refine qc (f := dm_inv 305 100 1 7) rfl (dm_inv_ok io_0 rfl (Nat.le_of_ble_eq_true rfl)) (ez_3 (xs 1) hs) ?_
  refine qs (f := dm_ald 306 2) rfl (rfl) ?_
  refine qs (f := dm_ald 307 0) rfl (rfl) ?_
  refine qs (f := dm_ild 309 4) rfl (rfl) ?_
  refine qs (f := dm_push 310 (.int 1)) rfl (rfl) ?_
  refine qs (f := dm_ii 311 (fun x y => x + y)) rfl (rfl) ?_
  refine qs (f := dm_sld 312 9 xs) rfl (dm_sld_ok (j := 1) (by decide) (by decide)) ?_
  refine qc (f := dm_inv 315 169 1 8) rfl (dm_inv_ok io_8 rfl (Nat.le_of_ble_eq_true rfl)) (en_3 (xs 1) hs) ?_
  refine qs (f := dm_ic_eq 318 1263) rfl (dm_ic_eq_t (by first | rfl | decide)) ?_
  refine qs (f := dm_iinc 1266 4 9) rfl (rfl) ?_
  refine qs (f := dm_goto 23) rfl (rfl) ?_
  refine qs (f := dm_ild 25 4) rfl (rfl) ?_
  refine qs (f := dm_ald 26 0) rfl (rfl) ?_
  refine qs (f := dm_sln 27 9) rfl (rfl) ?_
  refine qs (f := dm_push 29 (.int 9)) rfl (rfl) ?_
  refine qs (f := dm_ii 30 (fun x y => x - y)) rfl (rfl) ?_
  refine qs (f := dm_ic_gt 33 1269) rfl (dm_ic_gt_t (by decide)) ?_
  refine qs (f := dm_push 1270 (.int 1)) rfl (rfl) ?_
  exact qr (f := dm_ret .boolean) rfl rfl
set_option maxRecDepth 100000 in
theorem lo_11 (xs : Nat → Int32) (f1 f2 : dm_Sem) (h : xs 0 &&& 31 = 5) (hs : ¬ (xs 1) = 0) : ∃ M, dm_run ev_E (cdL 9 xs f1 f2) 1999976 (40, lvA, [.int (xs 0 &&& 31)]) ev_3 = some (some (.int 1), M) ∧ dm_bd M = true := by
  refine ⟨ev_3, ?_, bd_2⟩
  refine qs (f := dm_tsw 0 28 1263 [172, 183, 208, 233, 270, 295, 320, 357, 382, 419, 432, 469, 506, 543, 655, 774, 811, 860, 874, 887, 1042, 1067, 1092, 1161, 1186, 1199, 1212, 1225, 1238]) rfl (dm_tsw_at h rfl) ?_
  refine qs (f := dm_ald 296 1) rfl (rfl) ?_
  refine qs (f := dm_ald 297 0) rfl (rfl) ?_
  refine qs (f := dm_ild 299 4) rfl (rfl) ?_
  refine qs (f := dm_push 300 (.int 1)) rfl (rfl) ?_
  refine qs (f := dm_ii 301 (fun x y => x + y)) rfl (rfl) ?_
  refine qs (f := dm_sld 302 9 xs) rfl (dm_sld_ok (j := 1) (by decide) (by decide)) ?_
  refine qc (f := dm_inv 305 100 1 7) rfl (dm_inv_ok io_0 rfl (Nat.le_of_ble_eq_true rfl)) (sy_14 (xs 1) hs) ?_
  refine qs (f := dm_ald 306 2) rfl (rfl) ?_
  refine qs (f := dm_ald 307 0) rfl (rfl) ?_
  refine qs (f := dm_ild 309 4) rfl (rfl) ?_
  refine qs (f := dm_push 310 (.int 1)) rfl (rfl) ?_
  refine qs (f := dm_ii 311 (fun x y => x + y)) rfl (rfl) ?_
  refine qs (f := dm_sld 312 9 xs) rfl (dm_sld_ok (j := 1) (by decide) (by decide)) ?_
  refine qc (f := dm_inv 315 169 1 8) rfl (dm_inv_ok io_3 rfl (Nat.le_of_ble_eq_true rfl)) (sy_15 (xs 1) hs) ?_
  refine qs (f := dm_ic_eq 318 1263) rfl (dm_ic_eq_t (by first | rfl | decide)) ?_
  refine qs (f := dm_iinc 1266 4 9) rfl (rfl) ?_
  refine qs (f := dm_goto 23) rfl (rfl) ?_
  refine qs (f := dm_ild 25 4) rfl (rfl) ?_
  refine qs (f := dm_ald 26 0) rfl (rfl) ?_
  refine qs (f := dm_sln 27 9) rfl (rfl) ?_
  refine qs (f := dm_push 29 (.int 9)) rfl (rfl) ?_
  refine qs (f := dm_ii 30 (fun x y => x - y)) rfl (rfl) ?_
  refine qs (f := dm_ic_gt 33 1269) rfl (dm_ic_gt_t (by decide)) ?_
  refine qs (f := dm_push 1270 (.int 1)) rfl (rfl) ?_
  exact qr (f := dm_ret .boolean) rfl rfl
set_option maxRecDepth 100000 in
theorem lo_12 (xs : Nat → Int32) (f1 f2 : dm_Sem) (h : xs 0 &&& 31 = 6) (hs : (xs 1) = 0) (ht : (xs 2) = 0) : ∃ M, dm_run ev_E (cdL 9 xs f1 f2) 1999976 (40, lvA, [.int (xs 0 &&& 31)]) ev_3 = some (some (.int 1), M) ∧ dm_bd M = true := by
  refine ⟨(ev_M (ev_E 170 [.ref 68, .int 0, .int 0] (ev_M (ev_E 101 [.ref 0, .int 0, .int 0] ev_3)))), ?_, bd_8⟩
  refine qs (f := dm_tsw 0 28 1263 [172, 183, 208, 233, 270, 295, 320, 357, 382, 419, 432, 469, 506, 543, 655, 774, 811, 860, 874, 887, 1042, 1067, 1092, 1161, 1186, 1199, 1212, 1225, 1238]) rfl (dm_tsw_at h rfl) ?_
  refine qs (f := dm_ald 321 1) rfl (rfl) ?_
  refine qs (f := dm_ald 322 0) rfl (rfl) ?_
  refine qs (f := dm_ild 324 4) rfl (rfl) ?_
  refine qs (f := dm_push 325 (.int 1)) rfl (rfl) ?_
  refine qs (f := dm_ii 326 (fun x y => x + y)) rfl (rfl) ?_
  refine qs (f := dm_sld 327 9 xs) rfl (dm_sld_ok (j := 1) (by decide) (by decide)) ?_
  refine qs (f := dm_ald 328 0) rfl (rfl) ?_
  refine qs (f := dm_ild 330 4) rfl (rfl) ?_
  refine qs (f := dm_push 331 (.int 2)) rfl (rfl) ?_
  refine qs (f := dm_ii 332 (fun x y => x + y)) rfl (rfl) ?_
  refine qs (f := dm_sld 333 9 xs) rfl (dm_sld_ok (j := 2) (by decide) (by decide)) ?_
  refine qc (f := dm_inv 336 101 2 7) rfl (dm_inv_ok io_0 rfl (Nat.le_of_ble_eq_true rfl)) (ez_18 (xs 1) (xs 2) hs ht) ?_
  refine qs (f := dm_ald 337 2) rfl (rfl) ?_
  refine qs (f := dm_ald 338 0) rfl (rfl) ?_
  refine qs (f := dm_ild 340 4) rfl (rfl) ?_
  refine qs (f := dm_push 341 (.int 1)) rfl (rfl) ?_
  refine qs (f := dm_ii 342 (fun x y => x + y)) rfl (rfl) ?_
  refine qs (f := dm_sld 343 9 xs) rfl (dm_sld_ok (j := 1) (by decide) (by decide)) ?_
  refine qs (f := dm_ald 344 0) rfl (rfl) ?_
  refine qs (f := dm_ild 346 4) rfl (rfl) ?_
  refine qs (f := dm_push 347 (.int 2)) rfl (rfl) ?_
  refine qs (f := dm_ii 348 (fun x y => x + y)) rfl (rfl) ?_
  refine qs (f := dm_sld 349 9 xs) rfl (dm_sld_ok (j := 2) (by decide) (by decide)) ?_
  refine qc (f := dm_inv 352 170 2 8) rfl (dm_inv_ok io_9 rfl (Nat.le_of_ble_eq_true rfl)) (en_18 (xs 1) (xs 2) hs ht) ?_
  refine qs (f := dm_ic_eq 355 1263) rfl (dm_ic_eq_t (by first | rfl | decide)) ?_
  refine qs (f := dm_iinc 1266 4 9) rfl (rfl) ?_
  refine qs (f := dm_goto 23) rfl (rfl) ?_
  refine qs (f := dm_ild 25 4) rfl (rfl) ?_
  refine qs (f := dm_ald 26 0) rfl (rfl) ?_
  refine qs (f := dm_sln 27 9) rfl (rfl) ?_
  refine qs (f := dm_push 29 (.int 9)) rfl (rfl) ?_
  refine qs (f := dm_ii 30 (fun x y => x - y)) rfl (rfl) ?_
  refine qs (f := dm_ic_gt 33 1269) rfl (dm_ic_gt_t (by decide)) ?_
  refine qs (f := dm_push 1270 (.int 1)) rfl (rfl) ?_
  exact qr (f := dm_ret .boolean) rfl rfl
set_option maxRecDepth 100000 in
theorem lo_13 (xs : Nat → Int32) (f1 f2 : dm_Sem) (h : xs 0 &&& 31 = 6) (hs : ¬ (xs 1) = 0) : ∃ M, dm_run ev_E (cdL 9 xs f1 f2) 1999976 (40, lvA, [.int (xs 0 &&& 31)]) ev_3 = some (some (.int 1), M) ∧ dm_bd M = true := by
  refine ⟨ev_3, ?_, bd_2⟩
  refine qs (f := dm_tsw 0 28 1263 [172, 183, 208, 233, 270, 295, 320, 357, 382, 419, 432, 469, 506, 543, 655, 774, 811, 860, 874, 887, 1042, 1067, 1092, 1161, 1186, 1199, 1212, 1225, 1238]) rfl (dm_tsw_at h rfl) ?_
  refine qs (f := dm_ald 321 1) rfl (rfl) ?_
  refine qs (f := dm_ald 322 0) rfl (rfl) ?_
  refine qs (f := dm_ild 324 4) rfl (rfl) ?_
  refine qs (f := dm_push 325 (.int 1)) rfl (rfl) ?_
  refine qs (f := dm_ii 326 (fun x y => x + y)) rfl (rfl) ?_
  refine qs (f := dm_sld 327 9 xs) rfl (dm_sld_ok (j := 1) (by decide) (by decide)) ?_
  refine qs (f := dm_ald 328 0) rfl (rfl) ?_
  refine qs (f := dm_ild 330 4) rfl (rfl) ?_
  refine qs (f := dm_push 331 (.int 2)) rfl (rfl) ?_
  refine qs (f := dm_ii 332 (fun x y => x + y)) rfl (rfl) ?_
  refine qs (f := dm_sld 333 9 xs) rfl (dm_sld_ok (j := 2) (by decide) (by decide)) ?_
  refine qc (f := dm_inv 336 101 2 7) rfl (dm_inv_ok io_0 rfl (Nat.le_of_ble_eq_true rfl)) (sy_48 (xs 1) (xs 2) hs) ?_
  refine qs (f := dm_ald 337 2) rfl (rfl) ?_
  refine qs (f := dm_ald 338 0) rfl (rfl) ?_
  refine qs (f := dm_ild 340 4) rfl (rfl) ?_
  refine qs (f := dm_push 341 (.int 1)) rfl (rfl) ?_
  refine qs (f := dm_ii 342 (fun x y => x + y)) rfl (rfl) ?_
  refine qs (f := dm_sld 343 9 xs) rfl (dm_sld_ok (j := 1) (by decide) (by decide)) ?_
  refine qs (f := dm_ald 344 0) rfl (rfl) ?_
  refine qs (f := dm_ild 346 4) rfl (rfl) ?_
  refine qs (f := dm_push 347 (.int 2)) rfl (rfl) ?_
  refine qs (f := dm_ii 348 (fun x y => x + y)) rfl (rfl) ?_
  refine qs (f := dm_sld 349 9 xs) rfl (dm_sld_ok (j := 2) (by decide) (by decide)) ?_
  refine qc (f := dm_inv 352 170 2 8) rfl (dm_inv_ok io_3 rfl (Nat.le_of_ble_eq_true rfl)) (sy_49 (xs 1) (xs 2) hs) ?_
  refine qs (f := dm_ic_eq 355 1263) rfl (dm_ic_eq_t (by first | rfl | decide)) ?_
  refine qs (f := dm_iinc 1266 4 9) rfl (rfl) ?_
  refine qs (f := dm_goto 23) rfl (rfl) ?_
  refine qs (f := dm_ild 25 4) rfl (rfl) ?_
  refine qs (f := dm_ald 26 0) rfl (rfl) ?_
  refine qs (f := dm_sln 27 9) rfl (rfl) ?_
  refine qs (f := dm_push 29 (.int 9)) rfl (rfl) ?_
  refine qs (f := dm_ii 30 (fun x y => x - y)) rfl (rfl) ?_
  refine qs (f := dm_ic_gt 33 1269) rfl (dm_ic_gt_t (by decide)) ?_
  refine qs (f := dm_push 1270 (.int 1)) rfl (rfl) ?_
  exact qr (f := dm_ret .boolean) rfl rfl
set_option maxRecDepth 100000 in
theorem lo_14 (xs : Nat → Int32) (f1 f2 : dm_Sem) (h : xs 0 &&& 31 = 6) (ht : ¬ (xs 2) = 0) (zs : xs 1 = 0) : ∃ M, dm_run ev_E (cdL 9 xs f1 f2) 1999976 (40, lvA, [.int (xs 0 &&& 31)]) ev_3 = some (some (.int 1), M) ∧ dm_bd M = true := by
  refine ⟨mm_4, ?_, bd_5⟩
  refine qs (f := dm_tsw 0 28 1263 [172, 183, 208, 233, 270, 295, 320, 357, 382, 419, 432, 469, 506, 543, 655, 774, 811, 860, 874, 887, 1042, 1067, 1092, 1161, 1186, 1199, 1212, 1225, 1238]) rfl (dm_tsw_at h rfl) ?_
  refine qs (f := dm_ald 321 1) rfl (rfl) ?_
  refine qs (f := dm_ald 322 0) rfl (rfl) ?_
  refine qs (f := dm_ild 324 4) rfl (rfl) ?_
  refine qs (f := dm_push 325 (.int 1)) rfl (rfl) ?_
  refine qs (f := dm_ii 326 (fun x y => x + y)) rfl (rfl) ?_
  refine qs (f := dm_sld 327 9 xs) rfl (dm_sld_ok (j := 1) (by decide) (by decide)) ?_
  refine qs (f := dm_ald 328 0) rfl (rfl) ?_
  refine qs (f := dm_ild 330 4) rfl (rfl) ?_
  refine qs (f := dm_push 331 (.int 2)) rfl (rfl) ?_
  refine qs (f := dm_ii 332 (fun x y => x + y)) rfl (rfl) ?_
  refine qs (f := dm_sld 333 9 xs) rfl (dm_sld_ok (j := 2) (by decide) (by decide)) ?_
  refine qc (f := dm_inv 336 101 2 7) rfl (dm_inv_ok io_0 rfl (Nat.le_of_ble_eq_true rfl)) ((by rw [zs]; exact sy_50 (xs 2) ht : ev_E 101 [.ref 0, .int (xs 1), .int (xs 2)] ev_3 = some (some (.int (-1)), mm_3))) ?_
  refine qs (f := dm_ald 337 2) rfl (rfl) ?_
  refine qs (f := dm_ald 338 0) rfl (rfl) ?_
  refine qs (f := dm_ild 340 4) rfl (rfl) ?_
  refine qs (f := dm_push 341 (.int 1)) rfl (rfl) ?_
  refine qs (f := dm_ii 342 (fun x y => x + y)) rfl (rfl) ?_
  refine qs (f := dm_sld 343 9 xs) rfl (dm_sld_ok (j := 1) (by decide) (by decide)) ?_
  refine qs (f := dm_ald 344 0) rfl (rfl) ?_
  refine qs (f := dm_ild 346 4) rfl (rfl) ?_
  refine qs (f := dm_push 347 (.int 2)) rfl (rfl) ?_
  refine qs (f := dm_ii 348 (fun x y => x + y)) rfl (rfl) ?_
  refine qs (f := dm_sld 349 9 xs) rfl (dm_sld_ok (j := 2) (by decide) (by decide)) ?_
  refine qc (f := dm_inv 352 170 2 8) rfl (dm_inv_ok io_6 rfl (Nat.le_of_ble_eq_true rfl)) ((by rw [zs]; exact sy_51 (xs 2) ht : ev_E 170 [.ref 68, .int (xs 1), .int (xs 2)] mm_3 = some (some (.int (-1)), mm_4))) ?_
  refine qs (f := dm_ic_eq 355 1263) rfl (dm_ic_eq_t (by first | rfl | decide)) ?_
  refine qs (f := dm_iinc 1266 4 9) rfl (rfl) ?_
  refine qs (f := dm_goto 23) rfl (rfl) ?_
  refine qs (f := dm_ild 25 4) rfl (rfl) ?_
  refine qs (f := dm_ald 26 0) rfl (rfl) ?_
  refine qs (f := dm_sln 27 9) rfl (rfl) ?_
  refine qs (f := dm_push 29 (.int 9)) rfl (rfl) ?_
  refine qs (f := dm_ii 30 (fun x y => x - y)) rfl (rfl) ?_
  refine qs (f := dm_ic_gt 33 1269) rfl (dm_ic_gt_t (by decide)) ?_
  refine qs (f := dm_push 1270 (.int 1)) rfl (rfl) ?_
  exact qr (f := dm_ret .boolean) rfl rfl
set_option maxRecDepth 100000 in
theorem lo_15 (xs : Nat → Int32) (f1 f2 : dm_Sem) (h : xs 0 &&& 31 = 7) (hs : (xs 1) = 0) : ∃ M, dm_run ev_E (cdL 9 xs f1 f2) 1999976 (40, lvA, [.int (xs 0 &&& 31)]) ev_3 = some (some (.int 1), M) ∧ dm_bd M = true := by
  refine ⟨(ev_M (ev_E 171 [.ref 68, .int 0] (ev_M (ev_E 102 [.ref 0, .int 0] ev_3)))), ?_, bd_9⟩
  refine qs (f := dm_tsw 0 28 1263 [172, 183, 208, 233, 270, 295, 320, 357, 382, 419, 432, 469, 506, 543, 655, 774, 811, 860, 874, 887, 1042, 1067, 1092, 1161, 1186, 1199, 1212, 1225, 1238]) rfl (dm_tsw_at h rfl) ?_
  refine qs (f := dm_ald 358 1) rfl (rfl) ?_
  refine qs (f := dm_ald 359 0) rfl (rfl) ?_
  refine qs (f := dm_ild 361 4) rfl (rfl) ?_
  refine qs (f := dm_push 362 (.int 1)) rfl (rfl) ?_
  refine qs (f := dm_ii 363 (fun x y => x + y)) rfl (rfl) ?_
  refine qs (f := dm_sld 364 9 xs) rfl (dm_sld_ok (j := 1) (by decide) (by decide)) ?_
  refine qc (f := dm_inv 367 102 1 7) rfl (dm_inv_ok io_0 rfl (Nat.le_of_ble_eq_true rfl)) (ez_4 (xs 1) hs) ?_
  refine qs (f := dm_ald 368 2) rfl (rfl) ?_
  refine qs (f := dm_ald 369 0) rfl (rfl) ?_
  refine qs (f := dm_ild 371 4) rfl (rfl) ?_
  refine qs (f := dm_push 372 (.int 1)) rfl (rfl) ?_
  refine qs (f := dm_ii 373 (fun x y => x + y)) rfl (rfl) ?_
  refine qs (f := dm_sld 374 9 xs) rfl (dm_sld_ok (j := 1) (by decide) (by decide)) ?_
  refine qc (f := dm_inv 377 171 1 8) rfl (dm_inv_ok io_10 rfl (Nat.le_of_ble_eq_true rfl)) (en_4 (xs 1) hs) ?_
  refine qs (f := dm_ic_eq 380 1263) rfl (dm_ic_eq_t (by first | rfl | decide)) ?_
  refine qs (f := dm_iinc 1266 4 9) rfl (rfl) ?_
  refine qs (f := dm_goto 23) rfl (rfl) ?_
  refine qs (f := dm_ild 25 4) rfl (rfl) ?_
  refine qs (f := dm_ald 26 0) rfl (rfl) ?_
  refine qs (f := dm_sln 27 9) rfl (rfl) ?_
  refine qs (f := dm_push 29 (.int 9)) rfl (rfl) ?_
  refine qs (f := dm_ii 30 (fun x y => x - y)) rfl (rfl) ?_
  refine qs (f := dm_ic_gt 33 1269) rfl (dm_ic_gt_t (by decide)) ?_
  refine qs (f := dm_push 1270 (.int 1)) rfl (rfl) ?_
  exact qr (f := dm_ret .boolean) rfl rfl
set_option maxRecDepth 100000 in
theorem lo_16 (xs : Nat → Int32) (f1 f2 : dm_Sem) (h : xs 0 &&& 31 = 7) (hs : ¬ (xs 1) = 0) : ∃ M, dm_run ev_E (cdL 9 xs f1 f2) 1999976 (40, lvA, [.int (xs 0 &&& 31)]) ev_3 = some (some (.int 1), M) ∧ dm_bd M = true := by
  refine ⟨ev_3, ?_, bd_2⟩
  refine qs (f := dm_tsw 0 28 1263 [172, 183, 208, 233, 270, 295, 320, 357, 382, 419, 432, 469, 506, 543, 655, 774, 811, 860, 874, 887, 1042, 1067, 1092, 1161, 1186, 1199, 1212, 1225, 1238]) rfl (dm_tsw_at h rfl) ?_
  refine qs (f := dm_ald 358 1) rfl (rfl) ?_
  refine qs (f := dm_ald 359 0) rfl (rfl) ?_
  refine qs (f := dm_ild 361 4) rfl (rfl) ?_
  refine qs (f := dm_push 362 (.int 1)) rfl (rfl) ?_
  refine qs (f := dm_ii 363 (fun x y => x + y)) rfl (rfl) ?_
  refine qs (f := dm_sld 364 9 xs) rfl (dm_sld_ok (j := 1) (by decide) (by decide)) ?_
  refine qc (f := dm_inv 367 102 1 7) rfl (dm_inv_ok io_0 rfl (Nat.le_of_ble_eq_true rfl)) (sy_16 (xs 1) hs) ?_
  refine qs (f := dm_ald 368 2) rfl (rfl) ?_
  refine qs (f := dm_ald 369 0) rfl (rfl) ?_
  refine qs (f := dm_ild 371 4) rfl (rfl) ?_
  refine qs (f := dm_push 372 (.int 1)) rfl (rfl) ?_
  refine qs (f := dm_ii 373 (fun x y => x + y)) rfl (rfl) ?_
  refine qs (f := dm_sld 374 9 xs) rfl (dm_sld_ok (j := 1) (by decide) (by decide)) ?_
  refine qc (f := dm_inv 377 171 1 8) rfl (dm_inv_ok io_3 rfl (Nat.le_of_ble_eq_true rfl)) (sy_17 (xs 1) hs) ?_
  refine qs (f := dm_ic_eq 380 1263) rfl (dm_ic_eq_t (by first | rfl | decide)) ?_
  refine qs (f := dm_iinc 1266 4 9) rfl (rfl) ?_
  refine qs (f := dm_goto 23) rfl (rfl) ?_
  refine qs (f := dm_ild 25 4) rfl (rfl) ?_
  refine qs (f := dm_ald 26 0) rfl (rfl) ?_
  refine qs (f := dm_sln 27 9) rfl (rfl) ?_
  refine qs (f := dm_push 29 (.int 9)) rfl (rfl) ?_
  refine qs (f := dm_ii 30 (fun x y => x - y)) rfl (rfl) ?_
  refine qs (f := dm_ic_gt 33 1269) rfl (dm_ic_gt_t (by decide)) ?_
  refine qs (f := dm_push 1270 (.int 1)) rfl (rfl) ?_
  exact qr (f := dm_ret .boolean) rfl rfl
set_option maxRecDepth 100000 in
theorem lo_17 (xs : Nat → Int32) (f1 f2 : dm_Sem) (h : xs 0 &&& 31 = 8) (hs : (xs 1) = 0) (ht : (xs 2) = 0) : ∃ M, dm_run ev_E (cdL 9 xs f1 f2) 1999976 (40, lvA, [.int (xs 0 &&& 31)]) ev_3 = some (some (.int 1), M) ∧ dm_bd M = true := by
  refine ⟨(ev_M (ev_E 172 [.ref 68, .int 0, .int 0] (ev_M (ev_E 103 [.ref 0, .int 0, .int 0] ev_3)))), ?_, bd_10⟩
  refine qs (f := dm_tsw 0 28 1263 [172, 183, 208, 233, 270, 295, 320, 357, 382, 419, 432, 469, 506, 543, 655, 774, 811, 860, 874, 887, 1042, 1067, 1092, 1161, 1186, 1199, 1212, 1225, 1238]) rfl (dm_tsw_at h rfl) ?_
  refine qs (f := dm_ald 383 1) rfl (rfl) ?_
  refine qs (f := dm_ald 384 0) rfl (rfl) ?_
  refine qs (f := dm_ild 386 4) rfl (rfl) ?_
  refine qs (f := dm_push 387 (.int 1)) rfl (rfl) ?_
  refine qs (f := dm_ii 388 (fun x y => x + y)) rfl (rfl) ?_
  refine qs (f := dm_sld 389 9 xs) rfl (dm_sld_ok (j := 1) (by decide) (by decide)) ?_
  refine qs (f := dm_ald 390 0) rfl (rfl) ?_
  refine qs (f := dm_ild 392 4) rfl (rfl) ?_
  refine qs (f := dm_push 393 (.int 2)) rfl (rfl) ?_
  refine qs (f := dm_ii 394 (fun x y => x + y)) rfl (rfl) ?_
  refine qs (f := dm_sld 395 9 xs) rfl (dm_sld_ok (j := 2) (by decide) (by decide)) ?_
  refine qc (f := dm_inv 398 103 2 7) rfl (dm_inv_ok io_0 rfl (Nat.le_of_ble_eq_true rfl)) (ez_19 (xs 1) (xs 2) hs ht) ?_
  refine qs (f := dm_ald 399 2) rfl (rfl) ?_
  refine qs (f := dm_ald 400 0) rfl (rfl) ?_
  refine qs (f := dm_ild 402 4) rfl (rfl) ?_
  refine qs (f := dm_push 403 (.int 1)) rfl (rfl) ?_
  refine qs (f := dm_ii 404 (fun x y => x + y)) rfl (rfl) ?_
  refine qs (f := dm_sld 405 9 xs) rfl (dm_sld_ok (j := 1) (by decide) (by decide)) ?_
  refine qs (f := dm_ald 406 0) rfl (rfl) ?_
  refine qs (f := dm_ild 408 4) rfl (rfl) ?_
  refine qs (f := dm_push 409 (.int 2)) rfl (rfl) ?_
  refine qs (f := dm_ii 410 (fun x y => x + y)) rfl (rfl) ?_
  refine qs (f := dm_sld 411 9 xs) rfl (dm_sld_ok (j := 2) (by decide) (by decide)) ?_
  refine qc (f := dm_inv 414 172 2 8) rfl (dm_inv_ok io_11 rfl (Nat.le_of_ble_eq_true rfl)) (en_19 (xs 1) (xs 2) hs ht) ?_
  refine qs (f := dm_ic_eq 417 1263) rfl (dm_ic_eq_t (by first | rfl | decide)) ?_
  refine qs (f := dm_iinc 1266 4 9) rfl (rfl) ?_
  refine qs (f := dm_goto 23) rfl (rfl) ?_
  refine qs (f := dm_ild 25 4) rfl (rfl) ?_
  refine qs (f := dm_ald 26 0) rfl (rfl) ?_
  refine qs (f := dm_sln 27 9) rfl (rfl) ?_
  refine qs (f := dm_push 29 (.int 9)) rfl (rfl) ?_
  refine qs (f := dm_ii 30 (fun x y => x - y)) rfl (rfl) ?_
  refine qs (f := dm_ic_gt 33 1269) rfl (dm_ic_gt_t (by decide)) ?_
  refine qs (f := dm_push 1270 (.int 1)) rfl (rfl) ?_
  exact qr (f := dm_ret .boolean) rfl rfl
set_option maxRecDepth 100000 in
theorem lo_18 (xs : Nat → Int32) (f1 f2 : dm_Sem) (h : xs 0 &&& 31 = 8) (hs : ¬ (xs 1) = 0) : ∃ M, dm_run ev_E (cdL 9 xs f1 f2) 1999976 (40, lvA, [.int (xs 0 &&& 31)]) ev_3 = some (some (.int 1), M) ∧ dm_bd M = true := by
  refine ⟨ev_3, ?_, bd_2⟩
  refine qs (f := dm_tsw 0 28 1263 [172, 183, 208, 233, 270, 295, 320, 357, 382, 419, 432, 469, 506, 543, 655, 774, 811, 860, 874, 887, 1042, 1067, 1092, 1161, 1186, 1199, 1212, 1225, 1238]) rfl (dm_tsw_at h rfl) ?_
  refine qs (f := dm_ald 383 1) rfl (rfl) ?_
  refine qs (f := dm_ald 384 0) rfl (rfl) ?_
  refine qs (f := dm_ild 386 4) rfl (rfl) ?_
  refine qs (f := dm_push 387 (.int 1)) rfl (rfl) ?_
  refine qs (f := dm_ii 388 (fun x y => x + y)) rfl (rfl) ?_
  refine qs (f := dm_sld 389 9 xs) rfl (dm_sld_ok (j := 1) (by decide) (by decide)) ?_
  refine qs (f := dm_ald 390 0) rfl (rfl) ?_
  refine qs (f := dm_ild 392 4) rfl (rfl) ?_
  refine qs (f := dm_push 393 (.int 2)) rfl (rfl) ?_
  refine qs (f := dm_ii 394 (fun x y => x + y)) rfl (rfl) ?_
  refine qs (f := dm_sld 395 9 xs) rfl (dm_sld_ok (j := 2) (by decide) (by decide)) ?_
  refine qc (f := dm_inv 398 103 2 7) rfl (dm_inv_ok io_0 rfl (Nat.le_of_ble_eq_true rfl)) (sy_52 (xs 1) (xs 2) hs) ?_
  refine qs (f := dm_ald 399 2) rfl (rfl) ?_
  refine qs (f := dm_ald 400 0) rfl (rfl) ?_
  refine qs (f := dm_ild 402 4) rfl (rfl) ?_
  refine qs (f := dm_push 403 (.int 1)) rfl (rfl) ?_
  refine qs (f := dm_ii 404 (fun x y => x + y)) rfl (rfl) ?_
  refine qs (f := dm_sld 405 9 xs) rfl (dm_sld_ok (j := 1) (by decide) (by decide)) ?_
  refine qs (f := dm_ald 406 0) rfl (rfl) ?_
  refine qs (f := dm_ild 408 4) rfl (rfl) ?_
  refine qs (f := dm_push 409 (.int 2)) rfl (rfl) ?_
  refine qs (f := dm_ii 410 (fun x y => x + y)) rfl (rfl) ?_
  refine qs (f := dm_sld 411 9 xs) rfl (dm_sld_ok (j := 2) (by decide) (by decide)) ?_
  refine qc (f := dm_inv 414 172 2 8) rfl (dm_inv_ok io_3 rfl (Nat.le_of_ble_eq_true rfl)) (sy_53 (xs 1) (xs 2) hs) ?_
  refine qs (f := dm_ic_eq 417 1263) rfl (dm_ic_eq_t (by first | rfl | decide)) ?_
  refine qs (f := dm_iinc 1266 4 9) rfl (rfl) ?_
  refine qs (f := dm_goto 23) rfl (rfl) ?_
  refine qs (f := dm_ild 25 4) rfl (rfl) ?_
  refine qs (f := dm_ald 26 0) rfl (rfl) ?_
  refine qs (f := dm_sln 27 9) rfl (rfl) ?_
  refine qs (f := dm_push 29 (.int 9)) rfl (rfl) ?_
  refine qs (f := dm_ii 30 (fun x y => x - y)) rfl (rfl) ?_
  refine qs (f := dm_ic_gt 33 1269) rfl (dm_ic_gt_t (by decide)) ?_
  refine qs (f := dm_push 1270 (.int 1)) rfl (rfl) ?_
  exact qr (f := dm_ret .boolean) rfl rfl
set_option maxRecDepth 100000 in
theorem lo_19 (xs : Nat → Int32) (f1 f2 : dm_Sem) (h : xs 0 &&& 31 = 8) (ht : ¬ (xs 2) = 0) (zs : xs 1 = 0) : ∃ M, dm_run ev_E (cdL 9 xs f1 f2) 1999976 (40, lvA, [.int (xs 0 &&& 31)]) ev_3 = some (some (.int 1), M) ∧ dm_bd M = true := by
  refine ⟨mm_6, ?_, bd_11⟩
  refine qs (f := dm_tsw 0 28 1263 [172, 183, 208, 233, 270, 295, 320, 357, 382, 419, 432, 469, 506, 543, 655, 774, 811, 860, 874, 887, 1042, 1067, 1092, 1161, 1186, 1199, 1212, 1225, 1238]) rfl (dm_tsw_at h rfl) ?_
  refine qs (f := dm_ald 383 1) rfl (rfl) ?_
  refine qs (f := dm_ald 384 0) rfl (rfl) ?_
  refine qs (f := dm_ild 386 4) rfl (rfl) ?_
  refine qs (f := dm_push 387 (.int 1)) rfl (rfl) ?_
  refine qs (f := dm_ii 388 (fun x y => x + y)) rfl (rfl) ?_
  refine qs (f := dm_sld 389 9 xs) rfl (dm_sld_ok (j := 1) (by decide) (by decide)) ?_
  refine qs (f := dm_ald 390 0) rfl (rfl) ?_
  refine qs (f := dm_ild 392 4) rfl (rfl) ?_
  refine qs (f := dm_push 393 (.int 2)) rfl (rfl) ?_
  refine qs (f := dm_ii 394 (fun x y => x + y)) rfl (rfl) ?_
  refine qs (f := dm_sld 395 9 xs) rfl (dm_sld_ok (j := 2) (by decide) (by decide)) ?_
  refine qc (f := dm_inv 398 103 2 7) rfl (dm_inv_ok io_0 rfl (Nat.le_of_ble_eq_true rfl)) ((by rw [zs]; exact sy_56 (xs 2) ht : ev_E 103 [.ref 0, .int (xs 1), .int (xs 2)] ev_3 = some (some (.int (-1)), mm_5))) ?_
  refine qs (f := dm_ald 399 2) rfl (rfl) ?_
  refine qs (f := dm_ald 400 0) rfl (rfl) ?_
  refine qs (f := dm_ild 402 4) rfl (rfl) ?_
  refine qs (f := dm_push 403 (.int 1)) rfl (rfl) ?_
  refine qs (f := dm_ii 404 (fun x y => x + y)) rfl (rfl) ?_
  refine qs (f := dm_sld 405 9 xs) rfl (dm_sld_ok (j := 1) (by decide) (by decide)) ?_
  refine qs (f := dm_ald 406 0) rfl (rfl) ?_
  refine qs (f := dm_ild 408 4) rfl (rfl) ?_
  refine qs (f := dm_push 409 (.int 2)) rfl (rfl) ?_
  refine qs (f := dm_ii 410 (fun x y => x + y)) rfl (rfl) ?_
  refine qs (f := dm_sld 411 9 xs) rfl (dm_sld_ok (j := 2) (by decide) (by decide)) ?_
  refine qc (f := dm_inv 414 172 2 8) rfl (dm_inv_ok io_12 rfl (Nat.le_of_ble_eq_true rfl)) ((by rw [zs]; exact sy_58 (xs 2) ht : ev_E 172 [.ref 68, .int (xs 1), .int (xs 2)] mm_5 = some (some (.int (-1)), mm_6))) ?_
  refine qs (f := dm_ic_eq 417 1263) rfl (dm_ic_eq_t (by first | rfl | decide)) ?_
  refine qs (f := dm_iinc 1266 4 9) rfl (rfl) ?_
  refine qs (f := dm_goto 23) rfl (rfl) ?_
  refine qs (f := dm_ild 25 4) rfl (rfl) ?_
  refine qs (f := dm_ald 26 0) rfl (rfl) ?_
  refine qs (f := dm_sln 27 9) rfl (rfl) ?_
  refine qs (f := dm_push 29 (.int 9)) rfl (rfl) ?_
  refine qs (f := dm_ii 30 (fun x y => x - y)) rfl (rfl) ?_
  refine qs (f := dm_ic_gt 33 1269) rfl (dm_ic_gt_t (by decide)) ?_
  refine qs (f := dm_push 1270 (.int 1)) rfl (rfl) ?_
  exact qr (f := dm_ret .boolean) rfl rfl
set_option maxRecDepth 100000 in
theorem lo_20 (xs : Nat → Int32) (f1 f2 : dm_Sem) (h : xs 0 &&& 31 = 9)  : ∃ M, dm_run ev_E (cdL 9 xs f1 f2) 1999976 (40, lvA, [.int (xs 0 &&& 31)]) ev_3 = some (some (.int 1), M) ∧ dm_bd M = true := by
  refine ⟨(ev_M (ev_E 173 [.ref 68] (ev_M (ev_E 104 [.ref 0] ev_3)))), ?_, bd_12⟩
  refine qs (f := dm_tsw 0 28 1263 [172, 183, 208, 233, 270, 295, 320, 357, 382, 419, 432, 469, 506, 543, 655, 774, 811, 860, 874, 887, 1042, 1067, 1092, 1161, 1186, 1199, 1212, 1225, 1238]) rfl (dm_tsw_at h rfl) ?_
  refine qs (f := dm_ald 420 1) rfl (rfl) ?_
  refine qc (f := dm_inv 423 104 0 7) rfl (dm_inv_ok io_0 rfl (Nat.le_of_ble_eq_true rfl)) (ec_5  ) ?_
  refine qs (f := dm_ald 424 2) rfl (rfl) ?_
  refine qc (f := dm_inv 427 173 0 8) rfl (dm_inv_ok io_13 rfl (Nat.le_of_ble_eq_true rfl)) (em_5  ) ?_
  refine qs (f := dm_ic_eq 430 1263) rfl (dm_ic_eq_t (by first | rfl | decide)) ?_
  refine qs (f := dm_iinc 1266 4 9) rfl (rfl) ?_
  refine qs (f := dm_goto 23) rfl (rfl) ?_
  refine qs (f := dm_ild 25 4) rfl (rfl) ?_
  refine qs (f := dm_ald 26 0) rfl (rfl) ?_
  refine qs (f := dm_sln 27 9) rfl (rfl) ?_
  refine qs (f := dm_push 29 (.int 9)) rfl (rfl) ?_
  refine qs (f := dm_ii 30 (fun x y => x - y)) rfl (rfl) ?_
  refine qs (f := dm_ic_gt 33 1269) rfl (dm_ic_gt_t (by decide)) ?_
  refine qs (f := dm_push 1270 (.int 1)) rfl (rfl) ?_
  exact qr (f := dm_ret .boolean) rfl rfl
set_option maxRecDepth 100000 in
theorem lo_21 (xs : Nat → Int32) (f1 f2 : dm_Sem) (h : xs 0 &&& 31 = 10) (hs : (xs 1) = 0) (ht : (xs 2) = 0) : ∃ M, dm_run ev_E (cdL 9 xs f1 f2) 1999976 (40, lvA, [.int (xs 0 &&& 31)]) ev_3 = some (some (.int 1), M) ∧ dm_bd M = true := by
  refine ⟨(ev_M (ev_E 175 [.ref 68, .int 0, .int 0] (ev_M (ev_E 105 [.ref 0, .int 0, .int 0] ev_3)))), ?_, bd_13⟩
  refine qs (f := dm_tsw 0 28 1263 [172, 183, 208, 233, 270, 295, 320, 357, 382, 419, 432, 469, 506, 543, 655, 774, 811, 860, 874, 887, 1042, 1067, 1092, 1161, 1186, 1199, 1212, 1225, 1238]) rfl (dm_tsw_at h rfl) ?_
  refine qs (f := dm_ald 433 1) rfl (rfl) ?_
  refine qs (f := dm_ald 434 0) rfl (rfl) ?_
  refine qs (f := dm_ild 436 4) rfl (rfl) ?_
  refine qs (f := dm_push 437 (.int 1)) rfl (rfl) ?_
  refine qs (f := dm_ii 438 (fun x y => x + y)) rfl (rfl) ?_
  refine qs (f := dm_sld 439 9 xs) rfl (dm_sld_ok (j := 1) (by decide) (by decide)) ?_
  refine qs (f := dm_ald 440 0) rfl (rfl) ?_
  refine qs (f := dm_ild 442 4) rfl (rfl) ?_
  refine qs (f := dm_push 443 (.int 2)) rfl (rfl) ?_
  refine qs (f := dm_ii 444 (fun x y => x + y)) rfl (rfl) ?_
  refine qs (f := dm_sld 445 9 xs) rfl (dm_sld_ok (j := 2) (by decide) (by decide)) ?_
  refine qc (f := dm_inv 448 105 2 7) rfl (dm_inv_ok io_0 rfl (Nat.le_of_ble_eq_true rfl)) (ez_6 (xs 1) (xs 2) hs ht) ?_
  refine qs (f := dm_ald 449 2) rfl (rfl) ?_
  refine qs (f := dm_ald 450 0) rfl (rfl) ?_
  refine qs (f := dm_ild 452 4) rfl (rfl) ?_
  refine qs (f := dm_push 453 (.int 1)) rfl (rfl) ?_
  refine qs (f := dm_ii 454 (fun x y => x + y)) rfl (rfl) ?_
  refine qs (f := dm_sld 455 9 xs) rfl (dm_sld_ok (j := 1) (by decide) (by decide)) ?_
  refine qs (f := dm_ald 456 0) rfl (rfl) ?_
  refine qs (f := dm_ild 458 4) rfl (rfl) ?_
  refine qs (f := dm_push 459 (.int 2)) rfl (rfl) ?_
  refine qs (f := dm_ii 460 (fun x y => x + y)) rfl (rfl) ?_
  refine qs (f := dm_sld 461 9 xs) rfl (dm_sld_ok (j := 2) (by decide) (by decide)) ?_
  refine qc (f := dm_inv 464 175 2 8) rfl (dm_inv_ok io_14 rfl (Nat.le_of_ble_eq_true rfl)) (en_6 (xs 1) (xs 2) hs ht) ?_
  refine qs (f := dm_ic_eq 467 1263) rfl (dm_ic_eq_t (by first | rfl | decide)) ?_
  refine qs (f := dm_iinc 1266 4 9) rfl (rfl) ?_
  refine qs (f := dm_goto 23) rfl (rfl) ?_
  refine qs (f := dm_ild 25 4) rfl (rfl) ?_
  refine qs (f := dm_ald 26 0) rfl (rfl) ?_
  refine qs (f := dm_sln 27 9) rfl (rfl) ?_
  refine qs (f := dm_push 29 (.int 9)) rfl (rfl) ?_
  refine qs (f := dm_ii 30 (fun x y => x - y)) rfl (rfl) ?_
  refine qs (f := dm_ic_gt 33 1269) rfl (dm_ic_gt_t (by decide)) ?_
  refine qs (f := dm_push 1270 (.int 1)) rfl (rfl) ?_
  exact qr (f := dm_ret .boolean) rfl rfl
set_option maxRecDepth 100000 in
theorem lo_22 (xs : Nat → Int32) (f1 f2 : dm_Sem) (h : xs 0 &&& 31 = 10) (hs : ¬ (xs 1) = 0) : ∃ M, dm_run ev_E (cdL 9 xs f1 f2) 1999976 (40, lvA, [.int (xs 0 &&& 31)]) ev_3 = some (some (.int 1), M) ∧ dm_bd M = true := by
  refine ⟨ev_3, ?_, bd_2⟩
  refine qs (f := dm_tsw 0 28 1263 [172, 183, 208, 233, 270, 295, 320, 357, 382, 419, 432, 469, 506, 543, 655, 774, 811, 860, 874, 887, 1042, 1067, 1092, 1161, 1186, 1199, 1212, 1225, 1238]) rfl (dm_tsw_at h rfl) ?_
  refine qs (f := dm_ald 433 1) rfl (rfl) ?_
  refine qs (f := dm_ald 434 0) rfl (rfl) ?_
  refine qs (f := dm_ild 436 4) rfl (rfl) ?_
  refine qs (f := dm_push 437 (.int 1)) rfl (rfl) ?_
  refine qs (f := dm_ii 438 (fun x y => x + y)) rfl (rfl) ?_
  refine qs (f := dm_sld 439 9 xs) rfl (dm_sld_ok (j := 1) (by decide) (by decide)) ?_
  refine qs (f := dm_ald 440 0) rfl (rfl) ?_
  refine qs (f := dm_ild 442 4) rfl (rfl) ?_
  refine qs (f := dm_push 443 (.int 2)) rfl (rfl) ?_
  refine qs (f := dm_ii 444 (fun x y => x + y)) rfl (rfl) ?_
  refine qs (f := dm_sld 445 9 xs) rfl (dm_sld_ok (j := 2) (by decide) (by decide)) ?_
  refine qc (f := dm_inv 448 105 2 7) rfl (dm_inv_ok io_0 rfl (Nat.le_of_ble_eq_true rfl)) (sy_24 (xs 1) (xs 2) hs) ?_
  refine qs (f := dm_ald 449 2) rfl (rfl) ?_
  refine qs (f := dm_ald 450 0) rfl (rfl) ?_
  refine qs (f := dm_ild 452 4) rfl (rfl) ?_
  refine qs (f := dm_push 453 (.int 1)) rfl (rfl) ?_
  refine qs (f := dm_ii 454 (fun x y => x + y)) rfl (rfl) ?_
  refine qs (f := dm_sld 455 9 xs) rfl (dm_sld_ok (j := 1) (by decide) (by decide)) ?_
  refine qs (f := dm_ald 456 0) rfl (rfl) ?_
  refine qs (f := dm_ild 458 4) rfl (rfl) ?_
  refine qs (f := dm_push 459 (.int 2)) rfl (rfl) ?_
  refine qs (f := dm_ii 460 (fun x y => x + y)) rfl (rfl) ?_
  refine qs (f := dm_sld 461 9 xs) rfl (dm_sld_ok (j := 2) (by decide) (by decide)) ?_
  refine qc (f := dm_inv 464 175 2 8) rfl (dm_inv_ok io_3 rfl (Nat.le_of_ble_eq_true rfl)) (sy_25 (xs 1) (xs 2) hs) ?_
  refine qs (f := dm_ic_eq 467 1263) rfl (dm_ic_eq_t (by first | rfl | decide)) ?_
  refine qs (f := dm_iinc 1266 4 9) rfl (rfl) ?_
  refine qs (f := dm_goto 23) rfl (rfl) ?_
  refine qs (f := dm_ild 25 4) rfl (rfl) ?_
  refine qs (f := dm_ald 26 0) rfl (rfl) ?_
  refine qs (f := dm_sln 27 9) rfl (rfl) ?_
  refine qs (f := dm_push 29 (.int 9)) rfl (rfl) ?_
  refine qs (f := dm_ii 30 (fun x y => x - y)) rfl (rfl) ?_
  refine qs (f := dm_ic_gt 33 1269) rfl (dm_ic_gt_t (by decide)) ?_
  refine qs (f := dm_push 1270 (.int 1)) rfl (rfl) ?_
  exact qr (f := dm_ret .boolean) rfl rfl
set_option maxRecDepth 100000 in
theorem lo_23 (xs : Nat → Int32) (f1 f2 : dm_Sem) (h : xs 0 &&& 31 = 10) (ht : ¬ (xs 2) = 0) (zs : xs 1 = 0) : ∃ M, dm_run ev_E (cdL 9 xs f1 f2) 1999976 (40, lvA, [.int (xs 0 &&& 31)]) ev_3 = some (some (.int 1), M) ∧ dm_bd M = true := by
  refine ⟨mm_2, ?_, bd_14⟩
  refine qs (f := dm_tsw 0 28 1263 [172, 183, 208, 233, 270, 295, 320, 357, 382, 419, 432, 469, 506, 543, 655, 774, 811, 860, 874, 887, 1042, 1067, 1092, 1161, 1186, 1199, 1212, 1225, 1238]) rfl (dm_tsw_at h rfl) ?_
  refine qs (f := dm_ald 433 1) rfl (rfl) ?_
  refine qs (f := dm_ald 434 0) rfl (rfl) ?_
  refine qs (f := dm_ild 436 4) rfl (rfl) ?_
  refine qs (f := dm_push 437 (.int 1)) rfl (rfl) ?_
  refine qs (f := dm_ii 438 (fun x y => x + y)) rfl (rfl) ?_
  refine qs (f := dm_sld 439 9 xs) rfl (dm_sld_ok (j := 1) (by decide) (by decide)) ?_
  refine qs (f := dm_ald 440 0) rfl (rfl) ?_
  refine qs (f := dm_ild 442 4) rfl (rfl) ?_
  refine qs (f := dm_push 443 (.int 2)) rfl (rfl) ?_
  refine qs (f := dm_ii 444 (fun x y => x + y)) rfl (rfl) ?_
  refine qs (f := dm_sld 445 9 xs) rfl (dm_sld_ok (j := 2) (by decide) (by decide)) ?_
  refine qc (f := dm_inv 448 105 2 7) rfl (dm_inv_ok io_0 rfl (Nat.le_of_ble_eq_true rfl)) ((by rw [zs]; exact sy_27 (xs 2) ht : ev_E 105 [.ref 0, .int (xs 1), .int (xs 2)] ev_3 = some (some (.int (-1)), mm_1))) ?_
  refine qs (f := dm_ald 449 2) rfl (rfl) ?_
  refine qs (f := dm_ald 450 0) rfl (rfl) ?_
  refine qs (f := dm_ild 452 4) rfl (rfl) ?_
  refine qs (f := dm_push 453 (.int 1)) rfl (rfl) ?_
  refine qs (f := dm_ii 454 (fun x y => x + y)) rfl (rfl) ?_
  refine qs (f := dm_sld 455 9 xs) rfl (dm_sld_ok (j := 1) (by decide) (by decide)) ?_
  refine qs (f := dm_ald 456 0) rfl (rfl) ?_
  refine qs (f := dm_ild 458 4) rfl (rfl) ?_
  refine qs (f := dm_push 459 (.int 2)) rfl (rfl) ?_
  refine qs (f := dm_ii 460 (fun x y => x + y)) rfl (rfl) ?_
  refine qs (f := dm_sld 461 9 xs) rfl (dm_sld_ok (j := 2) (by decide) (by decide)) ?_
  refine qc (f := dm_inv 464 175 2 8) rfl (dm_inv_ok io_15 rfl (Nat.le_of_ble_eq_true rfl)) ((by rw [zs]; exact sy_29 (xs 2) ht : ev_E 175 [.ref 68, .int (xs 1), .int (xs 2)] mm_1 = some (some (.int (-1)), mm_2))) ?_
  refine qs (f := dm_ic_eq 467 1263) rfl (dm_ic_eq_t (by first | rfl | decide)) ?_
  refine qs (f := dm_iinc 1266 4 9) rfl (rfl) ?_
  refine qs (f := dm_goto 23) rfl (rfl) ?_
  refine qs (f := dm_ild 25 4) rfl (rfl) ?_
  refine qs (f := dm_ald 26 0) rfl (rfl) ?_
  refine qs (f := dm_sln 27 9) rfl (rfl) ?_
  refine qs (f := dm_push 29 (.int 9)) rfl (rfl) ?_
  refine qs (f := dm_ii 30 (fun x y => x - y)) rfl (rfl) ?_
  refine qs (f := dm_ic_gt 33 1269) rfl (dm_ic_gt_t (by decide)) ?_
  refine qs (f := dm_push 1270 (.int 1)) rfl (rfl) ?_
  exact qr (f := dm_ret .boolean) rfl rfl
set_option maxRecDepth 100000 in
theorem lo_24 (xs : Nat → Int32) (f1 f2 : dm_Sem) (h : xs 0 &&& 31 = 11) (hs : (xs 1) = 0) (ht : (xs 2) = 0) : ∃ M, dm_run ev_E (cdL 9 xs f1 f2) 1999976 (40, lvA, [.int (xs 0 &&& 31)]) ev_3 = some (some (.int 1), M) ∧ dm_bd M = true := by
  refine ⟨(ev_M (ev_E 176 [.ref 68, .int 0, .int 0] (ev_M (ev_E 106 [.ref 0, .int 0, .int 0] ev_3)))), ?_, bd_15⟩
  refine qs (f := dm_tsw 0 28 1263 [172, 183, 208, 233, 270, 295, 320, 357, 382, 419, 432, 469, 506, 543, 655, 774, 811, 860, 874, 887, 1042, 1067, 1092, 1161, 1186, 1199, 1212, 1225, 1238]) rfl (dm_tsw_at h rfl) ?_
  refine qs (f := dm_ald 470 1) rfl (rfl) ?_
  refine qs (f := dm_ald 471 0) rfl (rfl) ?_
  refine qs (f := dm_ild 473 4) rfl (rfl) ?_
  refine qs (f := dm_push 474 (.int 1)) rfl (rfl) ?_
  refine qs (f := dm_ii 475 (fun x y => x + y)) rfl (rfl) ?_
  refine qs (f := dm_sld 476 9 xs) rfl (dm_sld_ok (j := 1) (by decide) (by decide)) ?_
  refine qs (f := dm_ald 477 0) rfl (rfl) ?_
  refine qs (f := dm_ild 479 4) rfl (rfl) ?_
  refine qs (f := dm_push 480 (.int 2)) rfl (rfl) ?_
  refine qs (f := dm_ii 481 (fun x y => x + y)) rfl (rfl) ?_
  refine qs (f := dm_sld 482 9 xs) rfl (dm_sld_ok (j := 2) (by decide) (by decide)) ?_
  refine qc (f := dm_inv 485 106 2 7) rfl (dm_inv_ok io_0 rfl (Nat.le_of_ble_eq_true rfl)) (ez_7 (xs 1) (xs 2) hs ht) ?_
  refine qs (f := dm_ald 486 2) rfl (rfl) ?_
  refine qs (f := dm_ald 487 0) rfl (rfl) ?_
  refine qs (f := dm_ild 489 4) rfl (rfl) ?_
  refine qs (f := dm_push 490 (.int 1)) rfl (rfl) ?_
  refine qs (f := dm_ii 491 (fun x y => x + y)) rfl (rfl) ?_
  refine qs (f := dm_sld 492 9 xs) rfl (dm_sld_ok (j := 1) (by decide) (by decide)) ?_
  refine qs (f := dm_ald 493 0) rfl (rfl) ?_
  refine qs (f := dm_ild 495 4) rfl (rfl) ?_
  refine qs (f := dm_push 496 (.int 2)) rfl (rfl) ?_
  refine qs (f := dm_ii 497 (fun x y => x + y)) rfl (rfl) ?_
  refine qs (f := dm_sld 498 9 xs) rfl (dm_sld_ok (j := 2) (by decide) (by decide)) ?_
  refine qc (f := dm_inv 501 176 2 8) rfl (dm_inv_ok io_16 rfl (Nat.le_of_ble_eq_true rfl)) (en_7 (xs 1) (xs 2) hs ht) ?_
  refine qs (f := dm_ic_eq 504 1263) rfl (dm_ic_eq_t (by first | rfl | decide)) ?_
  refine qs (f := dm_iinc 1266 4 9) rfl (rfl) ?_
  refine qs (f := dm_goto 23) rfl (rfl) ?_
  refine qs (f := dm_ild 25 4) rfl (rfl) ?_
  refine qs (f := dm_ald 26 0) rfl (rfl) ?_
  refine qs (f := dm_sln 27 9) rfl (rfl) ?_
  refine qs (f := dm_push 29 (.int 9)) rfl (rfl) ?_
  refine qs (f := dm_ii 30 (fun x y => x - y)) rfl (rfl) ?_
  refine qs (f := dm_ic_gt 33 1269) rfl (dm_ic_gt_t (by decide)) ?_
  refine qs (f := dm_push 1270 (.int 1)) rfl (rfl) ?_
  exact qr (f := dm_ret .boolean) rfl rfl
set_option maxRecDepth 100000 in
theorem lo_25 (xs : Nat → Int32) (f1 f2 : dm_Sem) (h : xs 0 &&& 31 = 11) (hs : ¬ (xs 1) = 0) : ∃ M, dm_run ev_E (cdL 9 xs f1 f2) 1999976 (40, lvA, [.int (xs 0 &&& 31)]) ev_3 = some (some (.int 1), M) ∧ dm_bd M = true := by
  refine ⟨ev_3, ?_, bd_2⟩
  refine qs (f := dm_tsw 0 28 1263 [172, 183, 208, 233, 270, 295, 320, 357, 382, 419, 432, 469, 506, 543, 655, 774, 811, 860, 874, 887, 1042, 1067, 1092, 1161, 1186, 1199, 1212, 1225, 1238]) rfl (dm_tsw_at h rfl) ?_
  refine qs (f := dm_ald 470 1) rfl (rfl) ?_
  refine qs (f := dm_ald 471 0) rfl (rfl) ?_
  refine qs (f := dm_ild 473 4) rfl (rfl) ?_
  refine qs (f := dm_push 474 (.int 1)) rfl (rfl) ?_
  refine qs (f := dm_ii 475 (fun x y => x + y)) rfl (rfl) ?_
  refine qs (f := dm_sld 476 9 xs) rfl (dm_sld_ok (j := 1) (by decide) (by decide)) ?_
  refine qs (f := dm_ald 477 0) rfl (rfl) ?_
  refine qs (f := dm_ild 479 4) rfl (rfl) ?_
  refine qs (f := dm_push 480 (.int 2)) rfl (rfl) ?_
  refine qs (f := dm_ii 481 (fun x y => x + y)) rfl (rfl) ?_
  refine qs (f := dm_sld 482 9 xs) rfl (dm_sld_ok (j := 2) (by decide) (by decide)) ?_
  refine qc (f := dm_inv 485 106 2 7) rfl (dm_inv_ok io_0 rfl (Nat.le_of_ble_eq_true rfl)) (sy_30 (xs 1) (xs 2) hs) ?_
  refine qs (f := dm_ald 486 2) rfl (rfl) ?_
  refine qs (f := dm_ald 487 0) rfl (rfl) ?_
  refine qs (f := dm_ild 489 4) rfl (rfl) ?_
  refine qs (f := dm_push 490 (.int 1)) rfl (rfl) ?_
  refine qs (f := dm_ii 491 (fun x y => x + y)) rfl (rfl) ?_
  refine qs (f := dm_sld 492 9 xs) rfl (dm_sld_ok (j := 1) (by decide) (by decide)) ?_
  refine qs (f := dm_ald 493 0) rfl (rfl) ?_
  refine qs (f := dm_ild 495 4) rfl (rfl) ?_
  refine qs (f := dm_push 496 (.int 2)) rfl (rfl) ?_
  refine qs (f := dm_ii 497 (fun x y => x + y)) rfl (rfl) ?_
  refine qs (f := dm_sld 498 9 xs) rfl (dm_sld_ok (j := 2) (by decide) (by decide)) ?_
  refine qc (f := dm_inv 501 176 2 8) rfl (dm_inv_ok io_3 rfl (Nat.le_of_ble_eq_true rfl)) (sy_31 (xs 1) (xs 2) hs) ?_
  refine qs (f := dm_ic_eq 504 1263) rfl (dm_ic_eq_t (by first | rfl | decide)) ?_
  refine qs (f := dm_iinc 1266 4 9) rfl (rfl) ?_
  refine qs (f := dm_goto 23) rfl (rfl) ?_
  refine qs (f := dm_ild 25 4) rfl (rfl) ?_
  refine qs (f := dm_ald 26 0) rfl (rfl) ?_
  refine qs (f := dm_sln 27 9) rfl (rfl) ?_
  refine qs (f := dm_push 29 (.int 9)) rfl (rfl) ?_
  refine qs (f := dm_ii 30 (fun x y => x - y)) rfl (rfl) ?_
  refine qs (f := dm_ic_gt 33 1269) rfl (dm_ic_gt_t (by decide)) ?_
  refine qs (f := dm_push 1270 (.int 1)) rfl (rfl) ?_
  exact qr (f := dm_ret .boolean) rfl rfl
set_option maxRecDepth 100000 in
theorem lo_26 (xs : Nat → Int32) (f1 f2 : dm_Sem) (h : xs 0 &&& 31 = 11) (ht : ¬ (xs 2) = 0) (zs : xs 1 = 0) : ∃ M, dm_run ev_E (cdL 9 xs f1 f2) 1999976 (40, lvA, [.int (xs 0 &&& 31)]) ev_3 = some (some (.int 1), M) ∧ dm_bd M = true := by
  refine ⟨mm_2, ?_, bd_14⟩
  refine qs (f := dm_tsw 0 28 1263 [172, 183, 208, 233, 270, 295, 320, 357, 382, 419, 432, 469, 506, 543, 655, 774, 811, 860, 874, 887, 1042, 1067, 1092, 1161, 1186, 1199, 1212, 1225, 1238]) rfl (dm_tsw_at h rfl) ?_
  refine qs (f := dm_ald 470 1) rfl (rfl) ?_
  refine qs (f := dm_ald 471 0) rfl (rfl) ?_
  refine qs (f := dm_ild 473 4) rfl (rfl) ?_
  refine qs (f := dm_push 474 (.int 1)) rfl (rfl) ?_
  refine qs (f := dm_ii 475 (fun x y => x + y)) rfl (rfl) ?_
  refine qs (f := dm_sld 476 9 xs) rfl (dm_sld_ok (j := 1) (by decide) (by decide)) ?_
  refine qs (f := dm_ald 477 0) rfl (rfl) ?_
  refine qs (f := dm_ild 479 4) rfl (rfl) ?_
  refine qs (f := dm_push 480 (.int 2)) rfl (rfl) ?_
  refine qs (f := dm_ii 481 (fun x y => x + y)) rfl (rfl) ?_
  refine qs (f := dm_sld 482 9 xs) rfl (dm_sld_ok (j := 2) (by decide) (by decide)) ?_
  refine qc (f := dm_inv 485 106 2 7) rfl (dm_inv_ok io_0 rfl (Nat.le_of_ble_eq_true rfl)) ((by rw [zs]; exact sy_32 (xs 2) ht : ev_E 106 [.ref 0, .int (xs 1), .int (xs 2)] ev_3 = some (some (.int (-1)), mm_1))) ?_
  refine qs (f := dm_ald 486 2) rfl (rfl) ?_
  refine qs (f := dm_ald 487 0) rfl (rfl) ?_
  refine qs (f := dm_ild 489 4) rfl (rfl) ?_
  refine qs (f := dm_push 490 (.int 1)) rfl (rfl) ?_
  refine qs (f := dm_ii 491 (fun x y => x + y)) rfl (rfl) ?_
  refine qs (f := dm_sld 492 9 xs) rfl (dm_sld_ok (j := 1) (by decide) (by decide)) ?_
  refine qs (f := dm_ald 493 0) rfl (rfl) ?_
  refine qs (f := dm_ild 495 4) rfl (rfl) ?_
  refine qs (f := dm_push 496 (.int 2)) rfl (rfl) ?_
  refine qs (f := dm_ii 497 (fun x y => x + y)) rfl (rfl) ?_
  refine qs (f := dm_sld 498 9 xs) rfl (dm_sld_ok (j := 2) (by decide) (by decide)) ?_
  refine qc (f := dm_inv 501 176 2 8) rfl (dm_inv_ok io_15 rfl (Nat.le_of_ble_eq_true rfl)) ((by rw [zs]; exact sy_33 (xs 2) ht : ev_E 176 [.ref 68, .int (xs 1), .int (xs 2)] mm_1 = some (some (.int (-1)), mm_2))) ?_
  refine qs (f := dm_ic_eq 504 1263) rfl (dm_ic_eq_t (by first | rfl | decide)) ?_
  refine qs (f := dm_iinc 1266 4 9) rfl (rfl) ?_
  refine qs (f := dm_goto 23) rfl (rfl) ?_
  refine qs (f := dm_ild 25 4) rfl (rfl) ?_
  refine qs (f := dm_ald 26 0) rfl (rfl) ?_
  refine qs (f := dm_sln 27 9) rfl (rfl) ?_
  refine qs (f := dm_push 29 (.int 9)) rfl (rfl) ?_
  refine qs (f := dm_ii 30 (fun x y => x - y)) rfl (rfl) ?_
  refine qs (f := dm_ic_gt 33 1269) rfl (dm_ic_gt_t (by decide)) ?_
  refine qs (f := dm_push 1270 (.int 1)) rfl (rfl) ?_
  exact qr (f := dm_ret .boolean) rfl rfl
set_option maxRecDepth 100000 in
theorem lo_27 (xs : Nat → Int32) (f1 f2 : dm_Sem) (h : xs 0 &&& 31 = 12) (hs : (xs 1) = 0) (ht : (xs 2) = 0) : ∃ M, dm_run ev_E (cdL 9 xs f1 f2) 1999976 (40, lvA, [.int (xs 0 &&& 31)]) ev_3 = some (some (.int 1), M) ∧ dm_bd M = true := by
  refine ⟨(ev_M (ev_E 177 [.ref 68, .int 0, .int 0] (ev_M (ev_E 107 [.ref 0, .int 0, .int 0] ev_3)))), ?_, bd_16⟩
  refine qs (f := dm_tsw 0 28 1263 [172, 183, 208, 233, 270, 295, 320, 357, 382, 419, 432, 469, 506, 543, 655, 774, 811, 860, 874, 887, 1042, 1067, 1092, 1161, 1186, 1199, 1212, 1225, 1238]) rfl (dm_tsw_at h rfl) ?_
  refine qs (f := dm_ald 507 1) rfl (rfl) ?_
  refine qs (f := dm_ald 508 0) rfl (rfl) ?_
  refine qs (f := dm_ild 510 4) rfl (rfl) ?_
  refine qs (f := dm_push 511 (.int 1)) rfl (rfl) ?_
  refine qs (f := dm_ii 512 (fun x y => x + y)) rfl (rfl) ?_
  refine qs (f := dm_sld 513 9 xs) rfl (dm_sld_ok (j := 1) (by decide) (by decide)) ?_
  refine qs (f := dm_ald 514 0) rfl (rfl) ?_
  refine qs (f := dm_ild 516 4) rfl (rfl) ?_
  refine qs (f := dm_push 517 (.int 2)) rfl (rfl) ?_
  refine qs (f := dm_ii 518 (fun x y => x + y)) rfl (rfl) ?_
  refine qs (f := dm_sld 519 9 xs) rfl (dm_sld_ok (j := 2) (by decide) (by decide)) ?_
  refine qc (f := dm_inv 522 107 2 7) rfl (dm_inv_ok io_0 rfl (Nat.le_of_ble_eq_true rfl)) (ez_8 (xs 1) (xs 2) hs ht) ?_
  refine qs (f := dm_ald 523 2) rfl (rfl) ?_
  refine qs (f := dm_ald 524 0) rfl (rfl) ?_
  refine qs (f := dm_ild 526 4) rfl (rfl) ?_
  refine qs (f := dm_push 527 (.int 1)) rfl (rfl) ?_
  refine qs (f := dm_ii 528 (fun x y => x + y)) rfl (rfl) ?_
  refine qs (f := dm_sld 529 9 xs) rfl (dm_sld_ok (j := 1) (by decide) (by decide)) ?_
  refine qs (f := dm_ald 530 0) rfl (rfl) ?_
  refine qs (f := dm_ild 532 4) rfl (rfl) ?_
  refine qs (f := dm_push 533 (.int 2)) rfl (rfl) ?_
  refine qs (f := dm_ii 534 (fun x y => x + y)) rfl (rfl) ?_
  refine qs (f := dm_sld 535 9 xs) rfl (dm_sld_ok (j := 2) (by decide) (by decide)) ?_
  refine qc (f := dm_inv 538 177 2 8) rfl (dm_inv_ok io_17 rfl (Nat.le_of_ble_eq_true rfl)) (en_8 (xs 1) (xs 2) hs ht) ?_
  refine qs (f := dm_ic_eq 541 1263) rfl (dm_ic_eq_t (by first | rfl | decide)) ?_
  refine qs (f := dm_iinc 1266 4 9) rfl (rfl) ?_
  refine qs (f := dm_goto 23) rfl (rfl) ?_
  refine qs (f := dm_ild 25 4) rfl (rfl) ?_
  refine qs (f := dm_ald 26 0) rfl (rfl) ?_
  refine qs (f := dm_sln 27 9) rfl (rfl) ?_
  refine qs (f := dm_push 29 (.int 9)) rfl (rfl) ?_
  refine qs (f := dm_ii 30 (fun x y => x - y)) rfl (rfl) ?_
  refine qs (f := dm_ic_gt 33 1269) rfl (dm_ic_gt_t (by decide)) ?_
  refine qs (f := dm_push 1270 (.int 1)) rfl (rfl) ?_
  exact qr (f := dm_ret .boolean) rfl rfl
set_option maxRecDepth 100000 in
theorem lo_28 (xs : Nat → Int32) (f1 f2 : dm_Sem) (h : xs 0 &&& 31 = 12) (hs : ¬ (xs 1) = 0) : ∃ M, dm_run ev_E (cdL 9 xs f1 f2) 1999976 (40, lvA, [.int (xs 0 &&& 31)]) ev_3 = some (some (.int 1), M) ∧ dm_bd M = true := by
  refine ⟨ev_3, ?_, bd_2⟩
  refine qs (f := dm_tsw 0 28 1263 [172, 183, 208, 233, 270, 295, 320, 357, 382, 419, 432, 469, 506, 543, 655, 774, 811, 860, 874, 887, 1042, 1067, 1092, 1161, 1186, 1199, 1212, 1225, 1238]) rfl (dm_tsw_at h rfl) ?_
  refine qs (f := dm_ald 507 1) rfl (rfl) ?_
  refine qs (f := dm_ald 508 0) rfl (rfl) ?_
  refine qs (f := dm_ild 510 4) rfl (rfl) ?_
  refine qs (f := dm_push 511 (.int 1)) rfl (rfl) ?_
  refine qs (f := dm_ii 512 (fun x y => x + y)) rfl (rfl) ?_
  refine qs (f := dm_sld 513 9 xs) rfl (dm_sld_ok (j := 1) (by decide) (by decide)) ?_
  refine qs (f := dm_ald 514 0) rfl (rfl) ?_
  refine qs (f := dm_ild 516 4) rfl (rfl) ?_
  refine qs (f := dm_push 517 (.int 2)) rfl (rfl) ?_
  refine qs (f := dm_ii 518 (fun x y => x + y)) rfl (rfl) ?_
  refine qs (f := dm_sld 519 9 xs) rfl (dm_sld_ok (j := 2) (by decide) (by decide)) ?_
  refine qc (f := dm_inv 522 107 2 7) rfl (dm_inv_ok io_0 rfl (Nat.le_of_ble_eq_true rfl)) (sy_34 (xs 1) (xs 2) hs) ?_
  refine qs (f := dm_ald 523 2) rfl (rfl) ?_
  refine qs (f := dm_ald 524 0) rfl (rfl) ?_
  refine qs (f := dm_ild 526 4) rfl (rfl) ?_
  refine qs (f := dm_push 527 (.int 1)) rfl (rfl) ?_
  refine qs (f := dm_ii 528 (fun x y => x + y)) rfl (rfl) ?_
  refine qs (f := dm_sld 529 9 xs) rfl (dm_sld_ok (j := 1) (by decide) (by decide)) ?_
  refine qs (f := dm_ald 530 0) rfl (rfl) ?_
  refine qs (f := dm_ild 532 4) rfl (rfl) ?_
  refine qs (f := dm_push 533 (.int 2)) rfl (rfl) ?_
  refine qs (f := dm_ii 534 (fun x y => x + y)) rfl (rfl) ?_
  refine qs (f := dm_sld 535 9 xs) rfl (dm_sld_ok (j := 2) (by decide) (by decide)) ?_
  refine qc (f := dm_inv 538 177 2 8) rfl (dm_inv_ok io_3 rfl (Nat.le_of_ble_eq_true rfl)) (sy_35 (xs 1) (xs 2) hs) ?_
  refine qs (f := dm_ic_eq 541 1263) rfl (dm_ic_eq_t (by first | rfl | decide)) ?_
  refine qs (f := dm_iinc 1266 4 9) rfl (rfl) ?_
  refine qs (f := dm_goto 23) rfl (rfl) ?_
  refine qs (f := dm_ild 25 4) rfl (rfl) ?_
  refine qs (f := dm_ald 26 0) rfl (rfl) ?_
  refine qs (f := dm_sln 27 9) rfl (rfl) ?_
  refine qs (f := dm_push 29 (.int 9)) rfl (rfl) ?_
  refine qs (f := dm_ii 30 (fun x y => x - y)) rfl (rfl) ?_
  refine qs (f := dm_ic_gt 33 1269) rfl (dm_ic_gt_t (by decide)) ?_
  refine qs (f := dm_push 1270 (.int 1)) rfl (rfl) ?_
  exact qr (f := dm_ret .boolean) rfl rfl
set_option maxRecDepth 100000 in
theorem lo_29 (xs : Nat → Int32) (f1 f2 : dm_Sem) (h : xs 0 &&& 31 = 12) (ht : ¬ (xs 2) = 0) (zs : xs 1 = 0) : ∃ M, dm_run ev_E (cdL 9 xs f1 f2) 1999976 (40, lvA, [.int (xs 0 &&& 31)]) ev_3 = some (some (.int 1), M) ∧ dm_bd M = true := by
  refine ⟨mm_2, ?_, bd_14⟩
  refine qs (f := dm_tsw 0 28 1263 [172, 183, 208, 233, 270, 295, 320, 357, 382, 419, 432, 469, 506, 543, 655, 774, 811, 860, 874, 887, 1042, 1067, 1092, 1161, 1186, 1199, 1212, 1225, 1238]) rfl (dm_tsw_at h rfl) ?_
  refine qs (f := dm_ald 507 1) rfl (rfl) ?_
  refine qs (f := dm_ald 508 0) rfl (rfl) ?_
  refine qs (f := dm_ild 510 4) rfl (rfl) ?_
  refine qs (f := dm_push 511 (.int 1)) rfl (rfl) ?_
  refine qs (f := dm_ii 512 (fun x y => x + y)) rfl (rfl) ?_
  refine qs (f := dm_sld 513 9 xs) rfl (dm_sld_ok (j := 1) (by decide) (by decide)) ?_
  refine qs (f := dm_ald 514 0) rfl (rfl) ?_
  refine qs (f := dm_ild 516 4) rfl (rfl) ?_
  refine qs (f := dm_push 517 (.int 2)) rfl (rfl) ?_
  refine qs (f := dm_ii 518 (fun x y => x + y)) rfl (rfl) ?_
  refine qs (f := dm_sld 519 9 xs) rfl (dm_sld_ok (j := 2) (by decide) (by decide)) ?_
  refine qc (f := dm_inv 522 107 2 7) rfl (dm_inv_ok io_0 rfl (Nat.le_of_ble_eq_true rfl)) ((by rw [zs]; exact sy_36 (xs 2) ht : ev_E 107 [.ref 0, .int (xs 1), .int (xs 2)] ev_3 = some (some (.int 0), mm_1))) ?_
  refine qs (f := dm_ald 523 2) rfl (rfl) ?_
  refine qs (f := dm_ald 524 0) rfl (rfl) ?_
  refine qs (f := dm_ild 526 4) rfl (rfl) ?_
  refine qs (f := dm_push 527 (.int 1)) rfl (rfl) ?_
  refine qs (f := dm_ii 528 (fun x y => x + y)) rfl (rfl) ?_
  refine qs (f := dm_sld 529 9 xs) rfl (dm_sld_ok (j := 1) (by decide) (by decide)) ?_
  refine qs (f := dm_ald 530 0) rfl (rfl) ?_
  refine qs (f := dm_ild 532 4) rfl (rfl) ?_
  refine qs (f := dm_push 533 (.int 2)) rfl (rfl) ?_
  refine qs (f := dm_ii 534 (fun x y => x + y)) rfl (rfl) ?_
  refine qs (f := dm_sld 535 9 xs) rfl (dm_sld_ok (j := 2) (by decide) (by decide)) ?_
  refine qc (f := dm_inv 538 177 2 8) rfl (dm_inv_ok io_15 rfl (Nat.le_of_ble_eq_true rfl)) ((by rw [zs]; exact sy_37 (xs 2) ht : ev_E 177 [.ref 68, .int (xs 1), .int (xs 2)] mm_1 = some (some (.int 0), mm_2))) ?_
  refine qs (f := dm_ic_eq 541 1263) rfl (dm_ic_eq_t (by first | rfl | decide)) ?_
  refine qs (f := dm_iinc 1266 4 9) rfl (rfl) ?_
  refine qs (f := dm_goto 23) rfl (rfl) ?_
  refine qs (f := dm_ild 25 4) rfl (rfl) ?_
  refine qs (f := dm_ald 26 0) rfl (rfl) ?_
  refine qs (f := dm_sln 27 9) rfl (rfl) ?_
  refine qs (f := dm_push 29 (.int 9)) rfl (rfl) ?_
  refine qs (f := dm_ii 30 (fun x y => x - y)) rfl (rfl) ?_
  refine qs (f := dm_ic_gt 33 1269) rfl (dm_ic_gt_t (by decide)) ?_
  refine qs (f := dm_push 1270 (.int 1)) rfl (rfl) ?_
  exact qr (f := dm_ret .boolean) rfl rfl
set_option maxRecDepth 100000 in
theorem lo_30 (xs : Nat → Int32) (f1 f2 : dm_Sem) (h : xs 0 &&& 31 = 15) (hs : (xs 1) = 0) (hw : (xs 2) = 0) : ∃ M, dm_run ev_E (cdL 9 xs f1 f2) 1999976 (40, lvA, [.int (xs 0 &&& 31)]) ev_3 = some (some (.int 1), M) ∧ dm_bd M = true := by
  refine ⟨(ev_M (ev_E 182 [.ref 68, .int 0, .int 0] (ev_M (ev_E 110 [.ref 0, .int 0, .int 0] ev_3)))), ?_, bd_17⟩
  refine qs (f := dm_tsw 0 28 1263 [172, 183, 208, 233, 270, 295, 320, 357, 382, 419, 432, 469, 506, 543, 655, 774, 811, 860, 874, 887, 1042, 1067, 1092, 1161, 1186, 1199, 1212, 1225, 1238]) rfl (dm_tsw_at h rfl) ?_
  refine qs (f := dm_ald 775 1) rfl (rfl) ?_
  refine qs (f := dm_ald 776 0) rfl (rfl) ?_
  refine qs (f := dm_ild 778 4) rfl (rfl) ?_
  refine qs (f := dm_push 779 (.int 1)) rfl (rfl) ?_
  refine qs (f := dm_ii 780 (fun x y => x + y)) rfl (rfl) ?_
  refine qs (f := dm_sld 781 9 xs) rfl (dm_sld_ok (j := 1) (by decide) (by decide)) ?_
  refine qs (f := dm_ald 782 0) rfl (rfl) ?_
  refine qs (f := dm_ild 784 4) rfl (rfl) ?_
  refine qs (f := dm_push 785 (.int 2)) rfl (rfl) ?_
  refine qs (f := dm_ii 786 (fun x y => x + y)) rfl (rfl) ?_
  refine qs (f := dm_sld 787 9 xs) rfl (dm_sld_ok (j := 2) (by decide) (by decide)) ?_
  refine qc (f := dm_inv 790 110 2 7) rfl (dm_inv_ok io_0 rfl (Nat.le_of_ble_eq_true rfl)) (ez_20 (xs 1) (xs 2) hs hw) ?_
  refine qs (f := dm_ald 791 2) rfl (rfl) ?_
  refine qs (f := dm_ald 792 0) rfl (rfl) ?_
  refine qs (f := dm_ild 794 4) rfl (rfl) ?_
  refine qs (f := dm_push 795 (.int 1)) rfl (rfl) ?_
  refine qs (f := dm_ii 796 (fun x y => x + y)) rfl (rfl) ?_
  refine qs (f := dm_sld 797 9 xs) rfl (dm_sld_ok (j := 1) (by decide) (by decide)) ?_
  refine qs (f := dm_ald 798 0) rfl (rfl) ?_
  refine qs (f := dm_ild 800 4) rfl (rfl) ?_
  refine qs (f := dm_push 801 (.int 2)) rfl (rfl) ?_
  refine qs (f := dm_ii 802 (fun x y => x + y)) rfl (rfl) ?_
  refine qs (f := dm_sld 803 9 xs) rfl (dm_sld_ok (j := 2) (by decide) (by decide)) ?_
  refine qc (f := dm_inv 806 182 2 8) rfl (dm_inv_ok io_18 rfl (Nat.le_of_ble_eq_true rfl)) (en_20 (xs 1) (xs 2) hs hw) ?_
  refine qs (f := dm_ic_eq 809 1263) rfl (dm_ic_eq_t (by first | rfl | decide)) ?_
  refine qs (f := dm_iinc 1266 4 9) rfl (rfl) ?_
  refine qs (f := dm_goto 23) rfl (rfl) ?_
  refine qs (f := dm_ild 25 4) rfl (rfl) ?_
  refine qs (f := dm_ald 26 0) rfl (rfl) ?_
  refine qs (f := dm_sln 27 9) rfl (rfl) ?_
  refine qs (f := dm_push 29 (.int 9)) rfl (rfl) ?_
  refine qs (f := dm_ii 30 (fun x y => x - y)) rfl (rfl) ?_
  refine qs (f := dm_ic_gt 33 1269) rfl (dm_ic_gt_t (by decide)) ?_
  refine qs (f := dm_push 1270 (.int 1)) rfl (rfl) ?_
  exact qr (f := dm_ret .boolean) rfl rfl
set_option maxRecDepth 100000 in
theorem lo_31 (xs : Nat → Int32) (f1 f2 : dm_Sem) (h : xs 0 &&& 31 = 15) (hs : (xs 1) = 0) (hw : (xs 2) = 1) : ∃ M, dm_run ev_E (cdL 9 xs f1 f2) 1999976 (40, lvA, [.int (xs 0 &&& 31)]) ev_3 = some (some (.int 1), M) ∧ dm_bd M = true := by
  refine ⟨(ev_M (ev_E 182 [.ref 68, .int 0, .int 1] (ev_M (ev_E 110 [.ref 0, .int 0, .int 1] ev_3)))), ?_, bd_18⟩
  refine qs (f := dm_tsw 0 28 1263 [172, 183, 208, 233, 270, 295, 320, 357, 382, 419, 432, 469, 506, 543, 655, 774, 811, 860, 874, 887, 1042, 1067, 1092, 1161, 1186, 1199, 1212, 1225, 1238]) rfl (dm_tsw_at h rfl) ?_
  refine qs (f := dm_ald 775 1) rfl (rfl) ?_
  refine qs (f := dm_ald 776 0) rfl (rfl) ?_
  refine qs (f := dm_ild 778 4) rfl (rfl) ?_
  refine qs (f := dm_push 779 (.int 1)) rfl (rfl) ?_
  refine qs (f := dm_ii 780 (fun x y => x + y)) rfl (rfl) ?_
  refine qs (f := dm_sld 781 9 xs) rfl (dm_sld_ok (j := 1) (by decide) (by decide)) ?_
  refine qs (f := dm_ald 782 0) rfl (rfl) ?_
  refine qs (f := dm_ild 784 4) rfl (rfl) ?_
  refine qs (f := dm_push 785 (.int 2)) rfl (rfl) ?_
  refine qs (f := dm_ii 786 (fun x y => x + y)) rfl (rfl) ?_
  refine qs (f := dm_sld 787 9 xs) rfl (dm_sld_ok (j := 2) (by decide) (by decide)) ?_
  refine qc (f := dm_inv 790 110 2 7) rfl (dm_inv_ok io_0 rfl (Nat.le_of_ble_eq_true rfl)) (ez_21 (xs 1) (xs 2) hs hw) ?_
  refine qs (f := dm_ald 791 2) rfl (rfl) ?_
  refine qs (f := dm_ald 792 0) rfl (rfl) ?_
  refine qs (f := dm_ild 794 4) rfl (rfl) ?_
  refine qs (f := dm_push 795 (.int 1)) rfl (rfl) ?_
  refine qs (f := dm_ii 796 (fun x y => x + y)) rfl (rfl) ?_
  refine qs (f := dm_sld 797 9 xs) rfl (dm_sld_ok (j := 1) (by decide) (by decide)) ?_
  refine qs (f := dm_ald 798 0) rfl (rfl) ?_
  refine qs (f := dm_ild 800 4) rfl (rfl) ?_
  refine qs (f := dm_push 801 (.int 2)) rfl (rfl) ?_
  refine qs (f := dm_ii 802 (fun x y => x + y)) rfl (rfl) ?_
  refine qs (f := dm_sld 803 9 xs) rfl (dm_sld_ok (j := 2) (by decide) (by decide)) ?_
  refine qc (f := dm_inv 806 182 2 8) rfl (dm_inv_ok io_19 rfl (Nat.le_of_ble_eq_true rfl)) (en_21 (xs 1) (xs 2) hs hw) ?_
  refine qs (f := dm_ic_eq 809 1263) rfl (dm_ic_eq_t (by first | rfl | decide)) ?_
  refine qs (f := dm_iinc 1266 4 9) rfl (rfl) ?_
  refine qs (f := dm_goto 23) rfl (rfl) ?_
  refine qs (f := dm_ild 25 4) rfl (rfl) ?_
  refine qs (f := dm_ald 26 0) rfl (rfl) ?_
  refine qs (f := dm_sln 27 9) rfl (rfl) ?_
  refine qs (f := dm_push 29 (.int 9)) rfl (rfl) ?_
  refine qs (f := dm_ii 30 (fun x y => x - y)) rfl (rfl) ?_
  refine qs (f := dm_ic_gt 33 1269) rfl (dm_ic_gt_t (by decide)) ?_
  refine qs (f := dm_push 1270 (.int 1)) rfl (rfl) ?_
  exact qr (f := dm_ret .boolean) rfl rfl
set_option maxRecDepth 100000 in
theorem lo_32 (xs : Nat → Int32) (f1 f2 : dm_Sem) (h : xs 0 &&& 31 = 15) (hs : (xs 1) = 0) (hw : (xs 2) = 2) : ∃ M, dm_run ev_E (cdL 9 xs f1 f2) 1999976 (40, lvA, [.int (xs 0 &&& 31)]) ev_3 = some (some (.int 1), M) ∧ dm_bd M = true := by
  refine ⟨(ev_M (ev_E 182 [.ref 68, .int 0, .int 2] (ev_M (ev_E 110 [.ref 0, .int 0, .int 2] ev_3)))), ?_, bd_19⟩
  refine qs (f := dm_tsw 0 28 1263 [172, 183, 208, 233, 270, 295, 320, 357, 382, 419, 432, 469, 506, 543, 655, 774, 811, 860, 874, 887, 1042, 1067, 1092, 1161, 1186, 1199, 1212, 1225, 1238]) rfl (dm_tsw_at h rfl) ?_
  refine qs (f := dm_ald 775 1) rfl (rfl) ?_
  refine qs (f := dm_ald 776 0) rfl (rfl) ?_
  refine qs (f := dm_ild 778 4) rfl (rfl) ?_
  refine qs (f := dm_push 779 (.int 1)) rfl (rfl) ?_
  refine qs (f := dm_ii 780 (fun x y => x + y)) rfl (rfl) ?_
  refine qs (f := dm_sld 781 9 xs) rfl (dm_sld_ok (j := 1) (by decide) (by decide)) ?_
  refine qs (f := dm_ald 782 0) rfl (rfl) ?_
  refine qs (f := dm_ild 784 4) rfl (rfl) ?_
  refine qs (f := dm_push 785 (.int 2)) rfl (rfl) ?_
  refine qs (f := dm_ii 786 (fun x y => x + y)) rfl (rfl) ?_
  refine qs (f := dm_sld 787 9 xs) rfl (dm_sld_ok (j := 2) (by decide) (by decide)) ?_
  refine qc (f := dm_inv 790 110 2 7) rfl (dm_inv_ok io_0 rfl (Nat.le_of_ble_eq_true rfl)) (ez_22 (xs 1) (xs 2) hs hw) ?_
  refine qs (f := dm_ald 791 2) rfl (rfl) ?_
  refine qs (f := dm_ald 792 0) rfl (rfl) ?_
  refine qs (f := dm_ild 794 4) rfl (rfl) ?_
  refine qs (f := dm_push 795 (.int 1)) rfl (rfl) ?_
  refine qs (f := dm_ii 796 (fun x y => x + y)) rfl (rfl) ?_
  refine qs (f := dm_sld 797 9 xs) rfl (dm_sld_ok (j := 1) (by decide) (by decide)) ?_
  refine qs (f := dm_ald 798 0) rfl (rfl) ?_
  refine qs (f := dm_ild 800 4) rfl (rfl) ?_
  refine qs (f := dm_push 801 (.int 2)) rfl (rfl) ?_
  refine qs (f := dm_ii 802 (fun x y => x + y)) rfl (rfl) ?_
  refine qs (f := dm_sld 803 9 xs) rfl (dm_sld_ok (j := 2) (by decide) (by decide)) ?_
  refine qc (f := dm_inv 806 182 2 8) rfl (dm_inv_ok io_20 rfl (Nat.le_of_ble_eq_true rfl)) (en_22 (xs 1) (xs 2) hs hw) ?_
  refine qs (f := dm_ic_eq 809 1263) rfl (dm_ic_eq_t (by first | rfl | decide)) ?_
  refine qs (f := dm_iinc 1266 4 9) rfl (rfl) ?_
  refine qs (f := dm_goto 23) rfl (rfl) ?_
  refine qs (f := dm_ild 25 4) rfl (rfl) ?_
  refine qs (f := dm_ald 26 0) rfl (rfl) ?_
  refine qs (f := dm_sln 27 9) rfl (rfl) ?_
  refine qs (f := dm_push 29 (.int 9)) rfl (rfl) ?_
  refine qs (f := dm_ii 30 (fun x y => x - y)) rfl (rfl) ?_
  refine qs (f := dm_ic_gt 33 1269) rfl (dm_ic_gt_t (by decide)) ?_
  refine qs (f := dm_push 1270 (.int 1)) rfl (rfl) ?_
  exact qr (f := dm_ret .boolean) rfl rfl
set_option maxRecDepth 100000 in
theorem lo_33 (xs : Nat → Int32) (f1 f2 : dm_Sem) (h : xs 0 &&& 31 = 15) (hs : (xs 1) = 0) (hw : (xs 2) = 3) : ∃ M, dm_run ev_E (cdL 9 xs f1 f2) 1999976 (40, lvA, [.int (xs 0 &&& 31)]) ev_3 = some (some (.int 1), M) ∧ dm_bd M = true := by
  refine ⟨(ev_M (ev_E 182 [.ref 68, .int 0, .int 3] (ev_M (ev_E 110 [.ref 0, .int 0, .int 3] ev_3)))), ?_, bd_20⟩
  refine qs (f := dm_tsw 0 28 1263 [172, 183, 208, 233, 270, 295, 320, 357, 382, 419, 432, 469, 506, 543, 655, 774, 811, 860, 874, 887, 1042, 1067, 1092, 1161, 1186, 1199, 1212, 1225, 1238]) rfl (dm_tsw_at h rfl) ?_
  refine qs (f := dm_ald 775 1) rfl (rfl) ?_
  refine qs (f := dm_ald 776 0) rfl (rfl) ?_
  refine qs (f := dm_ild 778 4) rfl (rfl) ?_
  refine qs (f := dm_push 779 (.int 1)) rfl (rfl) ?_
  refine qs (f := dm_ii 780 (fun x y => x + y)) rfl (rfl) ?_
  refine qs (f := dm_sld 781 9 xs) rfl (dm_sld_ok (j := 1) (by decide) (by decide)) ?_
  refine qs (f := dm_ald 782 0) rfl (rfl) ?_
  refine qs (f := dm_ild 784 4) rfl (rfl) ?_
  refine qs (f := dm_push 785 (.int 2)) rfl (rfl) ?_
  refine qs (f := dm_ii 786 (fun x y => x + y)) rfl (rfl) ?_
  refine qs (f := dm_sld 787 9 xs) rfl (dm_sld_ok (j := 2) (by decide) (by decide)) ?_
  refine qc (f := dm_inv 790 110 2 7) rfl (dm_inv_ok io_0 rfl (Nat.le_of_ble_eq_true rfl)) (ez_23 (xs 1) (xs 2) hs hw) ?_
  refine qs (f := dm_ald 791 2) rfl (rfl) ?_
  refine qs (f := dm_ald 792 0) rfl (rfl) ?_
  refine qs (f := dm_ild 794 4) rfl (rfl) ?_
  refine qs (f := dm_push 795 (.int 1)) rfl (rfl) ?_
  refine qs (f := dm_ii 796 (fun x y => x + y)) rfl (rfl) ?_
  refine qs (f := dm_sld 797 9 xs) rfl (dm_sld_ok (j := 1) (by decide) (by decide)) ?_
  refine qs (f := dm_ald 798 0) rfl (rfl) ?_
  refine qs (f := dm_ild 800 4) rfl (rfl) ?_
  refine qs (f := dm_push 801 (.int 2)) rfl (rfl) ?_
  refine qs (f := dm_ii 802 (fun x y => x + y)) rfl (rfl) ?_
  refine qs (f := dm_sld 803 9 xs) rfl (dm_sld_ok (j := 2) (by decide) (by decide)) ?_
  refine qc (f := dm_inv 806 182 2 8) rfl (dm_inv_ok io_21 rfl (Nat.le_of_ble_eq_true rfl)) (en_23 (xs 1) (xs 2) hs hw) ?_
  refine qs (f := dm_ic_eq 809 1263) rfl (dm_ic_eq_t (by first | rfl | decide)) ?_
  refine qs (f := dm_iinc 1266 4 9) rfl (rfl) ?_
  refine qs (f := dm_goto 23) rfl (rfl) ?_
  refine qs (f := dm_ild 25 4) rfl (rfl) ?_
  refine qs (f := dm_ald 26 0) rfl (rfl) ?_
  refine qs (f := dm_sln 27 9) rfl (rfl) ?_
  refine qs (f := dm_push 29 (.int 9)) rfl (rfl) ?_
  refine qs (f := dm_ii 30 (fun x y => x - y)) rfl (rfl) ?_
  refine qs (f := dm_ic_gt 33 1269) rfl (dm_ic_gt_t (by decide)) ?_
  refine qs (f := dm_push 1270 (.int 1)) rfl (rfl) ?_
  exact qr (f := dm_ret .boolean) rfl rfl
set_option maxRecDepth 100000 in
theorem lo_34 (xs : Nat → Int32) (f1 f2 : dm_Sem) (h : xs 0 &&& 31 = 15) (hs : (xs 1) = 0) (hw : (xs 2) = 4) : ∃ M, dm_run ev_E (cdL 9 xs f1 f2) 1999976 (40, lvA, [.int (xs 0 &&& 31)]) ev_3 = some (some (.int 1), M) ∧ dm_bd M = true := by
  refine ⟨(ev_M (ev_E 182 [.ref 68, .int 0, .int 4] (ev_M (ev_E 110 [.ref 0, .int 0, .int 4] ev_3)))), ?_, bd_21⟩
  refine qs (f := dm_tsw 0 28 1263 [172, 183, 208, 233, 270, 295, 320, 357, 382, 419, 432, 469, 506, 543, 655, 774, 811, 860, 874, 887, 1042, 1067, 1092, 1161, 1186, 1199, 1212, 1225, 1238]) rfl (dm_tsw_at h rfl) ?_
  refine qs (f := dm_ald 775 1) rfl (rfl) ?_
  refine qs (f := dm_ald 776 0) rfl (rfl) ?_
  refine qs (f := dm_ild 778 4) rfl (rfl) ?_
  refine qs (f := dm_push 779 (.int 1)) rfl (rfl) ?_
  refine qs (f := dm_ii 780 (fun x y => x + y)) rfl (rfl) ?_
  refine qs (f := dm_sld 781 9 xs) rfl (dm_sld_ok (j := 1) (by decide) (by decide)) ?_
  refine qs (f := dm_ald 782 0) rfl (rfl) ?_
  refine qs (f := dm_ild 784 4) rfl (rfl) ?_
  refine qs (f := dm_push 785 (.int 2)) rfl (rfl) ?_
  refine qs (f := dm_ii 786 (fun x y => x + y)) rfl (rfl) ?_
  refine qs (f := dm_sld 787 9 xs) rfl (dm_sld_ok (j := 2) (by decide) (by decide)) ?_
  refine qc (f := dm_inv 790 110 2 7) rfl (dm_inv_ok io_0 rfl (Nat.le_of_ble_eq_true rfl)) (ez_24 (xs 1) (xs 2) hs hw) ?_
  refine qs (f := dm_ald 791 2) rfl (rfl) ?_
  refine qs (f := dm_ald 792 0) rfl (rfl) ?_
  refine qs (f := dm_ild 794 4) rfl (rfl) ?_
  refine qs (f := dm_push 795 (.int 1)) rfl (rfl) ?_
  refine qs (f := dm_ii 796 (fun x y => x + y)) rfl (rfl) ?_
  refine qs (f := dm_sld 797 9 xs) rfl (dm_sld_ok (j := 1) (by decide) (by decide)) ?_
  refine qs (f := dm_ald 798 0) rfl (rfl) ?_
  refine qs (f := dm_ild 800 4) rfl (rfl) ?_
  refine qs (f := dm_push 801 (.int 2)) rfl (rfl) ?_
  refine qs (f := dm_ii 802 (fun x y => x + y)) rfl (rfl) ?_
  refine qs (f := dm_sld 803 9 xs) rfl (dm_sld_ok (j := 2) (by decide) (by decide)) ?_
  refine qc (f := dm_inv 806 182 2 8) rfl (dm_inv_ok io_22 rfl (Nat.le_of_ble_eq_true rfl)) (en_24 (xs 1) (xs 2) hs hw) ?_
  refine qs (f := dm_ic_eq 809 1263) rfl (dm_ic_eq_t (by first | rfl | decide)) ?_
  refine qs (f := dm_iinc 1266 4 9) rfl (rfl) ?_
  refine qs (f := dm_goto 23) rfl (rfl) ?_
  refine qs (f := dm_ild 25 4) rfl (rfl) ?_
  refine qs (f := dm_ald 26 0) rfl (rfl) ?_
  refine qs (f := dm_sln 27 9) rfl (rfl) ?_
  refine qs (f := dm_push 29 (.int 9)) rfl (rfl) ?_
  refine qs (f := dm_ii 30 (fun x y => x - y)) rfl (rfl) ?_
  refine qs (f := dm_ic_gt 33 1269) rfl (dm_ic_gt_t (by decide)) ?_
  refine qs (f := dm_push 1270 (.int 1)) rfl (rfl) ?_
  exact qr (f := dm_ret .boolean) rfl rfl
set_option maxRecDepth 100000 in
theorem lo_35 (xs : Nat → Int32) (f1 f2 : dm_Sem) (h : xs 0 &&& 31 = 15) (hs : (xs 1) = 0) (hw : (xs 2) = 5) : ∃ M, dm_run ev_E (cdL 9 xs f1 f2) 1999976 (40, lvA, [.int (xs 0 &&& 31)]) ev_3 = some (some (.int 1), M) ∧ dm_bd M = true := by
  refine ⟨(ev_M (ev_E 182 [.ref 68, .int 0, .int 5] (ev_M (ev_E 110 [.ref 0, .int 0, .int 5] ev_3)))), ?_, bd_22⟩
  refine qs (f := dm_tsw 0 28 1263 [172, 183, 208, 233, 270, 295, 320, 357, 382, 419, 432, 469, 506, 543, 655, 774, 811, 860, 874, 887, 1042, 1067, 1092, 1161, 1186, 1199, 1212, 1225, 1238]) rfl (dm_tsw_at h rfl) ?_
  refine qs (f := dm_ald 775 1) rfl (rfl) ?_
  refine qs (f := dm_ald 776 0) rfl (rfl) ?_
  refine qs (f := dm_ild 778 4) rfl (rfl) ?_
  refine qs (f := dm_push 779 (.int 1)) rfl (rfl) ?_
  refine qs (f := dm_ii 780 (fun x y => x + y)) rfl (rfl) ?_
  refine qs (f := dm_sld 781 9 xs) rfl (dm_sld_ok (j := 1) (by decide) (by decide)) ?_
  refine qs (f := dm_ald 782 0) rfl (rfl) ?_
  refine qs (f := dm_ild 784 4) rfl (rfl) ?_
  refine qs (f := dm_push 785 (.int 2)) rfl (rfl) ?_
  refine qs (f := dm_ii 786 (fun x y => x + y)) rfl (rfl) ?_
  refine qs (f := dm_sld 787 9 xs) rfl (dm_sld_ok (j := 2) (by decide) (by decide)) ?_
  refine qc (f := dm_inv 790 110 2 7) rfl (dm_inv_ok io_0 rfl (Nat.le_of_ble_eq_true rfl)) (ez_25 (xs 1) (xs 2) hs hw) ?_
  refine qs (f := dm_ald 791 2) rfl (rfl) ?_
  refine qs (f := dm_ald 792 0) rfl (rfl) ?_
  refine qs (f := dm_ild 794 4) rfl (rfl) ?_
  refine qs (f := dm_push 795 (.int 1)) rfl (rfl) ?_
  refine qs (f := dm_ii 796 (fun x y => x + y)) rfl (rfl) ?_
  refine qs (f := dm_sld 797 9 xs) rfl (dm_sld_ok (j := 1) (by decide) (by decide)) ?_
  refine qs (f := dm_ald 798 0) rfl (rfl) ?_
  refine qs (f := dm_ild 800 4) rfl (rfl) ?_
  refine qs (f := dm_push 801 (.int 2)) rfl (rfl) ?_
  refine qs (f := dm_ii 802 (fun x y => x + y)) rfl (rfl) ?_
  refine qs (f := dm_sld 803 9 xs) rfl (dm_sld_ok (j := 2) (by decide) (by decide)) ?_
  refine qc (f := dm_inv 806 182 2 8) rfl (dm_inv_ok io_23 rfl (Nat.le_of_ble_eq_true rfl)) (en_25 (xs 1) (xs 2) hs hw) ?_
  refine qs (f := dm_ic_eq 809 1263) rfl (dm_ic_eq_t (by first | rfl | decide)) ?_
  refine qs (f := dm_iinc 1266 4 9) rfl (rfl) ?_
  refine qs (f := dm_goto 23) rfl (rfl) ?_
  refine qs (f := dm_ild 25 4) rfl (rfl) ?_
  refine qs (f := dm_ald 26 0) rfl (rfl) ?_
  refine qs (f := dm_sln 27 9) rfl (rfl) ?_
  refine qs (f := dm_push 29 (.int 9)) rfl (rfl) ?_
  refine qs (f := dm_ii 30 (fun x y => x - y)) rfl (rfl) ?_
  refine qs (f := dm_ic_gt 33 1269) rfl (dm_ic_gt_t (by decide)) ?_
  refine qs (f := dm_push 1270 (.int 1)) rfl (rfl) ?_
  exact qr (f := dm_ret .boolean) rfl rfl
set_option maxRecDepth 100000 in
theorem lo_36 (xs : Nat → Int32) (f1 f2 : dm_Sem) (h : xs 0 &&& 31 = 15) (hs : (xs 1) = 0) (hw : (xs 2) = 6) : ∃ M, dm_run ev_E (cdL 9 xs f1 f2) 1999976 (40, lvA, [.int (xs 0 &&& 31)]) ev_3 = some (some (.int 1), M) ∧ dm_bd M = true := by
  refine ⟨(ev_M (ev_E 182 [.ref 68, .int 0, .int 6] (ev_M (ev_E 110 [.ref 0, .int 0, .int 6] ev_3)))), ?_, bd_23⟩
  refine qs (f := dm_tsw 0 28 1263 [172, 183, 208, 233, 270, 295, 320, 357, 382, 419, 432, 469, 506, 543, 655, 774, 811, 860, 874, 887, 1042, 1067, 1092, 1161, 1186, 1199, 1212, 1225, 1238]) rfl (dm_tsw_at h rfl) ?_
  refine qs (f := dm_ald 775 1) rfl (rfl) ?_
  refine qs (f := dm_ald 776 0) rfl (rfl) ?_
  refine qs (f := dm_ild 778 4) rfl (rfl) ?_
  refine qs (f := dm_push 779 (.int 1)) rfl (rfl) ?_
  refine qs (f := dm_ii 780 (fun x y => x + y)) rfl (rfl) ?_
  refine qs (f := dm_sld 781 9 xs) rfl (dm_sld_ok (j := 1) (by decide) (by decide)) ?_
  refine qs (f := dm_ald 782 0) rfl (rfl) ?_
  refine qs (f := dm_ild 784 4) rfl (rfl) ?_
  refine qs (f := dm_push 785 (.int 2)) rfl (rfl) ?_
  refine qs (f := dm_ii 786 (fun x y => x + y)) rfl (rfl) ?_
  refine qs (f := dm_sld 787 9 xs) rfl (dm_sld_ok (j := 2) (by decide) (by decide)) ?_
  refine qc (f := dm_inv 790 110 2 7) rfl (dm_inv_ok io_0 rfl (Nat.le_of_ble_eq_true rfl)) (ez_26 (xs 1) (xs 2) hs hw) ?_
  refine qs (f := dm_ald 791 2) rfl (rfl) ?_
  refine qs (f := dm_ald 792 0) rfl (rfl) ?_
  refine qs (f := dm_ild 794 4) rfl (rfl) ?_
  refine qs (f := dm_push 795 (.int 1)) rfl (rfl) ?_
  refine qs (f := dm_ii 796 (fun x y => x + y)) rfl (rfl) ?_
  refine qs (f := dm_sld 797 9 xs) rfl (dm_sld_ok (j := 1) (by decide) (by decide)) ?_
  refine qs (f := dm_ald 798 0) rfl (rfl) ?_
  refine qs (f := dm_ild 800 4) rfl (rfl) ?_
  refine qs (f := dm_push 801 (.int 2)) rfl (rfl) ?_
  refine qs (f := dm_ii 802 (fun x y => x + y)) rfl (rfl) ?_
  refine qs (f := dm_sld 803 9 xs) rfl (dm_sld_ok (j := 2) (by decide) (by decide)) ?_
  refine qc (f := dm_inv 806 182 2 8) rfl (dm_inv_ok io_24 rfl (Nat.le_of_ble_eq_true rfl)) (en_26 (xs 1) (xs 2) hs hw) ?_
  refine qs (f := dm_ic_eq 809 1263) rfl (dm_ic_eq_t (by first | rfl | decide)) ?_
  refine qs (f := dm_iinc 1266 4 9) rfl (rfl) ?_
  refine qs (f := dm_goto 23) rfl (rfl) ?_
  refine qs (f := dm_ild 25 4) rfl (rfl) ?_
  refine qs (f := dm_ald 26 0) rfl (rfl) ?_
  refine qs (f := dm_sln 27 9) rfl (rfl) ?_
  refine qs (f := dm_push 29 (.int 9)) rfl (rfl) ?_
  refine qs (f := dm_ii 30 (fun x y => x - y)) rfl (rfl) ?_
  refine qs (f := dm_ic_gt 33 1269) rfl (dm_ic_gt_t (by decide)) ?_
  refine qs (f := dm_push 1270 (.int 1)) rfl (rfl) ?_
  exact qr (f := dm_ret .boolean) rfl rfl
set_option maxRecDepth 100000 in
theorem lo_37 (xs : Nat → Int32) (f1 f2 : dm_Sem) (h : xs 0 &&& 31 = 15) (hs : (xs 1) = 0) (hw : (xs 2) = 7) : ∃ M, dm_run ev_E (cdL 9 xs f1 f2) 1999976 (40, lvA, [.int (xs 0 &&& 31)]) ev_3 = some (some (.int 1), M) ∧ dm_bd M = true := by
  refine ⟨(ev_M (ev_E 182 [.ref 68, .int 0, .int 7] (ev_M (ev_E 110 [.ref 0, .int 0, .int 7] ev_3)))), ?_, bd_24⟩
  refine qs (f := dm_tsw 0 28 1263 [172, 183, 208, 233, 270, 295, 320, 357, 382, 419, 432, 469, 506, 543, 655, 774, 811, 860, 874, 887, 1042, 1067, 1092, 1161, 1186, 1199, 1212, 1225, 1238]) rfl (dm_tsw_at h rfl) ?_
  refine qs (f := dm_ald 775 1) rfl (rfl) ?_
  refine qs (f := dm_ald 776 0) rfl (rfl) ?_
  refine qs (f := dm_ild 778 4) rfl (rfl) ?_
  refine qs (f := dm_push 779 (.int 1)) rfl (rfl) ?_
  refine qs (f := dm_ii 780 (fun x y => x + y)) rfl (rfl) ?_
  refine qs (f := dm_sld 781 9 xs) rfl (dm_sld_ok (j := 1) (by decide) (by decide)) ?_
  refine qs (f := dm_ald 782 0) rfl (rfl) ?_
  refine qs (f := dm_ild 784 4) rfl (rfl) ?_
  refine qs (f := dm_push 785 (.int 2)) rfl (rfl) ?_
  refine qs (f := dm_ii 786 (fun x y => x + y)) rfl (rfl) ?_
  refine qs (f := dm_sld 787 9 xs) rfl (dm_sld_ok (j := 2) (by decide) (by decide)) ?_
  refine qc (f := dm_inv 790 110 2 7) rfl (dm_inv_ok io_0 rfl (Nat.le_of_ble_eq_true rfl)) (ez_27 (xs 1) (xs 2) hs hw) ?_
  refine qs (f := dm_ald 791 2) rfl (rfl) ?_
  refine qs (f := dm_ald 792 0) rfl (rfl) ?_
  refine qs (f := dm_ild 794 4) rfl (rfl) ?_
  refine qs (f := dm_push 795 (.int 1)) rfl (rfl) ?_
  refine qs (f := dm_ii 796 (fun x y => x + y)) rfl (rfl) ?_
  refine qs (f := dm_sld 797 9 xs) rfl (dm_sld_ok (j := 1) (by decide) (by decide)) ?_
  refine qs (f := dm_ald 798 0) rfl (rfl) ?_
  refine qs (f := dm_ild 800 4) rfl (rfl) ?_
  refine qs (f := dm_push 801 (.int 2)) rfl (rfl) ?_
  refine qs (f := dm_ii 802 (fun x y => x + y)) rfl (rfl) ?_
  refine qs (f := dm_sld 803 9 xs) rfl (dm_sld_ok (j := 2) (by decide) (by decide)) ?_
  refine qc (f := dm_inv 806 182 2 8) rfl (dm_inv_ok io_25 rfl (Nat.le_of_ble_eq_true rfl)) (en_27 (xs 1) (xs 2) hs hw) ?_
  refine qs (f := dm_ic_eq 809 1263) rfl (dm_ic_eq_t (by first | rfl | decide)) ?_
  refine qs (f := dm_iinc 1266 4 9) rfl (rfl) ?_
  refine qs (f := dm_goto 23) rfl (rfl) ?_
  refine qs (f := dm_ild 25 4) rfl (rfl) ?_
  refine qs (f := dm_ald 26 0) rfl (rfl) ?_
  refine qs (f := dm_sln 27 9) rfl (rfl) ?_
  refine qs (f := dm_push 29 (.int 9)) rfl (rfl) ?_
  refine qs (f := dm_ii 30 (fun x y => x - y)) rfl (rfl) ?_
  refine qs (f := dm_ic_gt 33 1269) rfl (dm_ic_gt_t (by decide)) ?_
  refine qs (f := dm_push 1270 (.int 1)) rfl (rfl) ?_
  exact qr (f := dm_ret .boolean) rfl rfl
set_option maxRecDepth 100000 in
theorem lo_38 (xs : Nat → Int32) (f1 f2 : dm_Sem) (h : xs 0 &&& 31 = 15) (hs : (xs 1) = 0) (hw : (xs 2) = 8) : ∃ M, dm_run ev_E (cdL 9 xs f1 f2) 1999976 (40, lvA, [.int (xs 0 &&& 31)]) ev_3 = some (some (.int 1), M) ∧ dm_bd M = true := by
  refine ⟨(ev_M (ev_E 182 [.ref 68, .int 0, .int 8] (ev_M (ev_E 110 [.ref 0, .int 0, .int 8] ev_3)))), ?_, bd_25⟩
  refine qs (f := dm_tsw 0 28 1263 [172, 183, 208, 233, 270, 295, 320, 357, 382, 419, 432, 469, 506, 543, 655, 774, 811, 860, 874, 887, 1042, 1067, 1092, 1161, 1186, 1199, 1212, 1225, 1238]) rfl (dm_tsw_at h rfl) ?_
  refine qs (f := dm_ald 775 1) rfl (rfl) ?_
  refine qs (f := dm_ald 776 0) rfl (rfl) ?_
  refine qs (f := dm_ild 778 4) rfl (rfl) ?_
  refine qs (f := dm_push 779 (.int 1)) rfl (rfl) ?_
  refine qs (f := dm_ii 780 (fun x y => x + y)) rfl (rfl) ?_
  refine qs (f := dm_sld 781 9 xs) rfl (dm_sld_ok (j := 1) (by decide) (by decide)) ?_
  refine qs (f := dm_ald 782 0) rfl (rfl) ?_
  refine qs (f := dm_ild 784 4) rfl (rfl) ?_
  refine qs (f := dm_push 785 (.int 2)) rfl (rfl) ?_
  refine qs (f := dm_ii 786 (fun x y => x + y)) rfl (rfl) ?_
  refine qs (f := dm_sld 787 9 xs) rfl (dm_sld_ok (j := 2) (by decide) (by decide)) ?_
  refine qc (f := dm_inv 790 110 2 7) rfl (dm_inv_ok io_0 rfl (Nat.le_of_ble_eq_true rfl)) (ez_28 (xs 1) (xs 2) hs hw) ?_
  refine qs (f := dm_ald 791 2) rfl (rfl) ?_
  refine qs (f := dm_ald 792 0) rfl (rfl) ?_
  refine qs (f := dm_ild 794 4) rfl (rfl) ?_
  refine qs (f := dm_push 795 (.int 1)) rfl (rfl) ?_
  refine qs (f := dm_ii 796 (fun x y => x + y)) rfl (rfl) ?_
  refine qs (f := dm_sld 797 9 xs) rfl (dm_sld_ok (j := 1) (by decide) (by decide)) ?_
  refine qs (f := dm_ald 798 0) rfl (rfl) ?_
  refine qs (f := dm_ild 800 4) rfl (rfl) ?_
  refine qs (f := dm_push 801 (.int 2)) rfl (rfl) ?_
  refine qs (f := dm_ii 802 (fun x y => x + y)) rfl (rfl) ?_
  refine qs (f := dm_sld 803 9 xs) rfl (dm_sld_ok (j := 2) (by decide) (by decide)) ?_
  refine qc (f := dm_inv 806 182 2 8) rfl (dm_inv_ok io_26 rfl (Nat.le_of_ble_eq_true rfl)) (en_28 (xs 1) (xs 2) hs hw) ?_
  refine qs (f := dm_ic_eq 809 1263) rfl (dm_ic_eq_t (by first | rfl | decide)) ?_
  refine qs (f := dm_iinc 1266 4 9) rfl (rfl) ?_
  refine qs (f := dm_goto 23) rfl (rfl) ?_
  refine qs (f := dm_ild 25 4) rfl (rfl) ?_
  refine qs (f := dm_ald 26 0) rfl (rfl) ?_
  refine qs (f := dm_sln 27 9) rfl (rfl) ?_
  refine qs (f := dm_push 29 (.int 9)) rfl (rfl) ?_
  refine qs (f := dm_ii 30 (fun x y => x - y)) rfl (rfl) ?_
  refine qs (f := dm_ic_gt 33 1269) rfl (dm_ic_gt_t (by decide)) ?_
  refine qs (f := dm_push 1270 (.int 1)) rfl (rfl) ?_
  exact qr (f := dm_ret .boolean) rfl rfl
set_option maxRecDepth 100000 in
theorem lo_39 (xs : Nat → Int32) (f1 f2 : dm_Sem) (h : xs 0 &&& 31 = 15) (hs : (xs 1) = 0) (hw : (xs 2) = 9) : ∃ M, dm_run ev_E (cdL 9 xs f1 f2) 1999976 (40, lvA, [.int (xs 0 &&& 31)]) ev_3 = some (some (.int 1), M) ∧ dm_bd M = true := by
  refine ⟨(ev_M (ev_E 182 [.ref 68, .int 0, .int 9] (ev_M (ev_E 110 [.ref 0, .int 0, .int 9] ev_3)))), ?_, bd_26⟩
  refine qs (f := dm_tsw 0 28 1263 [172, 183, 208, 233, 270, 295, 320, 357, 382, 419, 432, 469, 506, 543, 655, 774, 811, 860, 874, 887, 1042, 1067, 1092, 1161, 1186, 1199, 1212, 1225, 1238]) rfl (dm_tsw_at h rfl) ?_
  refine qs (f := dm_ald 775 1) rfl (rfl) ?_
  refine qs (f := dm_ald 776 0) rfl (rfl) ?_
  refine qs (f := dm_ild 778 4) rfl (rfl) ?_
  refine qs (f := dm_push 779 (.int 1)) rfl (rfl) ?_
  refine qs (f := dm_ii 780 (fun x y => x + y)) rfl (rfl) ?_
  refine qs (f := dm_sld 781 9 xs) rfl (dm_sld_ok (j := 1) (by decide) (by decide)) ?_
  refine qs (f := dm_ald 782 0) rfl (rfl) ?_
  refine qs (f := dm_ild 784 4) rfl (rfl) ?_
  refine qs (f := dm_push 785 (.int 2)) rfl (rfl) ?_
  refine qs (f := dm_ii 786 (fun x y => x + y)) rfl (rfl) ?_
  refine qs (f := dm_sld 787 9 xs) rfl (dm_sld_ok (j := 2) (by decide) (by decide)) ?_
  refine qc (f := dm_inv 790 110 2 7) rfl (dm_inv_ok io_0 rfl (Nat.le_of_ble_eq_true rfl)) (ez_29 (xs 1) (xs 2) hs hw) ?_
  refine qs (f := dm_ald 791 2) rfl (rfl) ?_
  refine qs (f := dm_ald 792 0) rfl (rfl) ?_
  refine qs (f := dm_ild 794 4) rfl (rfl) ?_
  refine qs (f := dm_push 795 (.int 1)) rfl (rfl) ?_
  refine qs (f := dm_ii 796 (fun x y => x + y)) rfl (rfl) ?_
  refine qs (f := dm_sld 797 9 xs) rfl (dm_sld_ok (j := 1) (by decide) (by decide)) ?_
  refine qs (f := dm_ald 798 0) rfl (rfl) ?_
  refine qs (f := dm_ild 800 4) rfl (rfl) ?_
  refine qs (f := dm_push 801 (.int 2)) rfl (rfl) ?_
  refine qs (f := dm_ii 802 (fun x y => x + y)) rfl (rfl) ?_
  refine qs (f := dm_sld 803 9 xs) rfl (dm_sld_ok (j := 2) (by decide) (by decide)) ?_
  refine qc (f := dm_inv 806 182 2 8) rfl (dm_inv_ok io_27 rfl (Nat.le_of_ble_eq_true rfl)) (en_29 (xs 1) (xs 2) hs hw) ?_
  refine qs (f := dm_ic_eq 809 1263) rfl (dm_ic_eq_t (by first | rfl | decide)) ?_
  refine qs (f := dm_iinc 1266 4 9) rfl (rfl) ?_
  refine qs (f := dm_goto 23) rfl (rfl) ?_
  refine qs (f := dm_ild 25 4) rfl (rfl) ?_
  refine qs (f := dm_ald 26 0) rfl (rfl) ?_
  refine qs (f := dm_sln 27 9) rfl (rfl) ?_
  refine qs (f := dm_push 29 (.int 9)) rfl (rfl) ?_
  refine qs (f := dm_ii 30 (fun x y => x - y)) rfl (rfl) ?_
  refine qs (f := dm_ic_gt 33 1269) rfl (dm_ic_gt_t (by decide)) ?_
  refine qs (f := dm_push 1270 (.int 1)) rfl (rfl) ?_
  exact qr (f := dm_ret .boolean) rfl rfl
set_option maxRecDepth 100000 in
theorem lo_40 (xs : Nat → Int32) (f1 f2 : dm_Sem) (h : xs 0 &&& 31 = 15) (hs : (xs 1) = 0) (hw : (xs 2) = 10) : ∃ M, dm_run ev_E (cdL 9 xs f1 f2) 1999976 (40, lvA, [.int (xs 0 &&& 31)]) ev_3 = some (some (.int 1), M) ∧ dm_bd M = true := by
  refine ⟨(ev_M (ev_E 182 [.ref 68, .int 0, .int 10] (ev_M (ev_E 110 [.ref 0, .int 0, .int 10] ev_3)))), ?_, bd_27⟩
  refine qs (f := dm_tsw 0 28 1263 [172, 183, 208, 233, 270, 295, 320, 357, 382, 419, 432, 469, 506, 543, 655, 774, 811, 860, 874, 887, 1042, 1067, 1092, 1161, 1186, 1199, 1212, 1225, 1238]) rfl (dm_tsw_at h rfl) ?_
  refine qs (f := dm_ald 775 1) rfl (rfl) ?_
  refine qs (f := dm_ald 776 0) rfl (rfl) ?_
  refine qs (f := dm_ild 778 4) rfl (rfl) ?_
  refine qs (f := dm_push 779 (.int 1)) rfl (rfl) ?_
  refine qs (f := dm_ii 780 (fun x y => x + y)) rfl (rfl) ?_
  refine qs (f := dm_sld 781 9 xs) rfl (dm_sld_ok (j := 1) (by decide) (by decide)) ?_
  refine qs (f := dm_ald 782 0) rfl (rfl) ?_
  refine qs (f := dm_ild 784 4) rfl (rfl) ?_
  refine qs (f := dm_push 785 (.int 2)) rfl (rfl) ?_
  refine qs (f := dm_ii 786 (fun x y => x + y)) rfl (rfl) ?_
  refine qs (f := dm_sld 787 9 xs) rfl (dm_sld_ok (j := 2) (by decide) (by decide)) ?_
  refine qc (f := dm_inv 790 110 2 7) rfl (dm_inv_ok io_0 rfl (Nat.le_of_ble_eq_true rfl)) (ez_30 (xs 1) (xs 2) hs hw) ?_
  refine qs (f := dm_ald 791 2) rfl (rfl) ?_
  refine qs (f := dm_ald 792 0) rfl (rfl) ?_
  refine qs (f := dm_ild 794 4) rfl (rfl) ?_
  refine qs (f := dm_push 795 (.int 1)) rfl (rfl) ?_
  refine qs (f := dm_ii 796 (fun x y => x + y)) rfl (rfl) ?_
  refine qs (f := dm_sld 797 9 xs) rfl (dm_sld_ok (j := 1) (by decide) (by decide)) ?_
  refine qs (f := dm_ald 798 0) rfl (rfl) ?_
  refine qs (f := dm_ild 800 4) rfl (rfl) ?_
  refine qs (f := dm_push 801 (.int 2)) rfl (rfl) ?_
  refine qs (f := dm_ii 802 (fun x y => x + y)) rfl (rfl) ?_
  refine qs (f := dm_sld 803 9 xs) rfl (dm_sld_ok (j := 2) (by decide) (by decide)) ?_
  refine qc (f := dm_inv 806 182 2 8) rfl (dm_inv_ok io_28 rfl (Nat.le_of_ble_eq_true rfl)) (en_30 (xs 1) (xs 2) hs hw) ?_
  refine qs (f := dm_ic_eq 809 1263) rfl (dm_ic_eq_t (by first | rfl | decide)) ?_
  refine qs (f := dm_iinc 1266 4 9) rfl (rfl) ?_
  refine qs (f := dm_goto 23) rfl (rfl) ?_
  refine qs (f := dm_ild 25 4) rfl (rfl) ?_
  refine qs (f := dm_ald 26 0) rfl (rfl) ?_
  refine qs (f := dm_sln 27 9) rfl (rfl) ?_
  refine qs (f := dm_push 29 (.int 9)) rfl (rfl) ?_
  refine qs (f := dm_ii 30 (fun x y => x - y)) rfl (rfl) ?_
  refine qs (f := dm_ic_gt 33 1269) rfl (dm_ic_gt_t (by decide)) ?_
  refine qs (f := dm_push 1270 (.int 1)) rfl (rfl) ?_
  exact qr (f := dm_ret .boolean) rfl rfl
set_option maxRecDepth 100000 in
theorem lo_41 (xs : Nat → Int32) (f1 f2 : dm_Sem) (h : xs 0 &&& 31 = 15) (hs : ¬ (xs 1) = 0) : ∃ M, dm_run ev_E (cdL 9 xs f1 f2) 1999976 (40, lvA, [.int (xs 0 &&& 31)]) ev_3 = some (some (.int 1), M) ∧ dm_bd M = true := by
  refine ⟨ev_3, ?_, bd_2⟩
  refine qs (f := dm_tsw 0 28 1263 [172, 183, 208, 233, 270, 295, 320, 357, 382, 419, 432, 469, 506, 543, 655, 774, 811, 860, 874, 887, 1042, 1067, 1092, 1161, 1186, 1199, 1212, 1225, 1238]) rfl (dm_tsw_at h rfl) ?_
  refine qs (f := dm_ald 775 1) rfl (rfl) ?_
  refine qs (f := dm_ald 776 0) rfl (rfl) ?_
  refine qs (f := dm_ild 778 4) rfl (rfl) ?_
  refine qs (f := dm_push 779 (.int 1)) rfl (rfl) ?_
  refine qs (f := dm_ii 780 (fun x y => x + y)) rfl (rfl) ?_
  refine qs (f := dm_sld 781 9 xs) rfl (dm_sld_ok (j := 1) (by decide) (by decide)) ?_
  refine qs (f := dm_ald 782 0) rfl (rfl) ?_
  refine qs (f := dm_ild 784 4) rfl (rfl) ?_
  refine qs (f := dm_push 785 (.int 2)) rfl (rfl) ?_
  refine qs (f := dm_ii 786 (fun x y => x + y)) rfl (rfl) ?_
  refine qs (f := dm_sld 787 9 xs) rfl (dm_sld_ok (j := 2) (by decide) (by decide)) ?_
  refine qc (f := dm_inv 790 110 2 7) rfl (dm_inv_ok io_0 rfl (Nat.le_of_ble_eq_true rfl)) (sy_22 (xs 1) (xs 2) hs) ?_
  refine qs (f := dm_ald 791 2) rfl (rfl) ?_
  refine qs (f := dm_ald 792 0) rfl (rfl) ?_
  refine qs (f := dm_ild 794 4) rfl (rfl) ?_
  refine qs (f := dm_push 795 (.int 1)) rfl (rfl) ?_
  refine qs (f := dm_ii 796 (fun x y => x + y)) rfl (rfl) ?_
  refine qs (f := dm_sld 797 9 xs) rfl (dm_sld_ok (j := 1) (by decide) (by decide)) ?_
  refine qs (f := dm_ald 798 0) rfl (rfl) ?_
  refine qs (f := dm_ild 800 4) rfl (rfl) ?_
  refine qs (f := dm_push 801 (.int 2)) rfl (rfl) ?_
  refine qs (f := dm_ii 802 (fun x y => x + y)) rfl (rfl) ?_
  refine qs (f := dm_sld 803 9 xs) rfl (dm_sld_ok (j := 2) (by decide) (by decide)) ?_
  refine qc (f := dm_inv 806 182 2 8) rfl (dm_inv_ok io_3 rfl (Nat.le_of_ble_eq_true rfl)) (sy_23 (xs 1) (xs 2) hs) ?_
  refine qs (f := dm_ic_eq 809 1263) rfl (dm_ic_eq_t (by first | rfl | decide)) ?_
  refine qs (f := dm_iinc 1266 4 9) rfl (rfl) ?_
  refine qs (f := dm_goto 23) rfl (rfl) ?_
  refine qs (f := dm_ild 25 4) rfl (rfl) ?_
  refine qs (f := dm_ald 26 0) rfl (rfl) ?_
  refine qs (f := dm_sln 27 9) rfl (rfl) ?_
  refine qs (f := dm_push 29 (.int 9)) rfl (rfl) ?_
  refine qs (f := dm_ii 30 (fun x y => x - y)) rfl (rfl) ?_
  refine qs (f := dm_ic_gt 33 1269) rfl (dm_ic_gt_t (by decide)) ?_
  refine qs (f := dm_push 1270 (.int 1)) rfl (rfl) ?_
  exact qr (f := dm_ret .boolean) rfl rfl
set_option maxRecDepth 100000 in
theorem lo_42 (xs : Nat → Int32) (f1 f2 : dm_Sem) (h : xs 0 &&& 31 = 15) (hw : (xs 2).toInt < 0 ∨ 10 < (xs 2).toInt) (zs : xs 1 = 0) : ∃ M, dm_run ev_E (cdL 9 xs f1 f2) 1999976 (40, lvA, [.int (xs 0 &&& 31)]) ev_3 = some (some (.int 1), M) ∧ dm_bd M = true := by
  refine ⟨mm_14, ?_, bd_28⟩
  refine qs (f := dm_tsw 0 28 1263 [172, 183, 208, 233, 270, 295, 320, 357, 382, 419, 432, 469, 506, 543, 655, 774, 811, 860, 874, 887, 1042, 1067, 1092, 1161, 1186, 1199, 1212, 1225, 1238]) rfl (dm_tsw_at h rfl) ?_
  refine qs (f := dm_ald 775 1) rfl (rfl) ?_
  refine qs (f := dm_ald 776 0) rfl (rfl) ?_
  refine qs (f := dm_ild 778 4) rfl (rfl) ?_
  refine qs (f := dm_push 779 (.int 1)) rfl (rfl) ?_
  refine qs (f := dm_ii 780 (fun x y => x + y)) rfl (rfl) ?_
  refine qs (f := dm_sld 781 9 xs) rfl (dm_sld_ok (j := 1) (by decide) (by decide)) ?_
  refine qs (f := dm_ald 782 0) rfl (rfl) ?_
  refine qs (f := dm_ild 784 4) rfl (rfl) ?_
  refine qs (f := dm_push 785 (.int 2)) rfl (rfl) ?_
  refine qs (f := dm_ii 786 (fun x y => x + y)) rfl (rfl) ?_
  refine qs (f := dm_sld 787 9 xs) rfl (dm_sld_ok (j := 2) (by decide) (by decide)) ?_
  refine qc (f := dm_inv 790 110 2 7) rfl (dm_inv_ok io_0 rfl (Nat.le_of_ble_eq_true rfl)) ((by rw [zs]; exact sy_69 (xs 2) hw : ev_E 110 [.ref 0, .int (xs 1), .int (xs 2)] ev_3 = some (some (.int (-1)), mm_1))) ?_
  refine qs (f := dm_ald 791 2) rfl (rfl) ?_
  refine qs (f := dm_ald 792 0) rfl (rfl) ?_
  refine qs (f := dm_ild 794 4) rfl (rfl) ?_
  refine qs (f := dm_push 795 (.int 1)) rfl (rfl) ?_
  refine qs (f := dm_ii 796 (fun x y => x + y)) rfl (rfl) ?_
  refine qs (f := dm_sld 797 9 xs) rfl (dm_sld_ok (j := 1) (by decide) (by decide)) ?_
  refine qs (f := dm_ald 798 0) rfl (rfl) ?_
  refine qs (f := dm_ild 800 4) rfl (rfl) ?_
  refine qs (f := dm_push 801 (.int 2)) rfl (rfl) ?_
  refine qs (f := dm_ii 802 (fun x y => x + y)) rfl (rfl) ?_
  refine qs (f := dm_sld 803 9 xs) rfl (dm_sld_ok (j := 2) (by decide) (by decide)) ?_
  refine qc (f := dm_inv 806 182 2 8) rfl (dm_inv_ok io_15 rfl (Nat.le_of_ble_eq_true rfl)) ((by rw [zs]; exact sy_70 (xs 2) hw : ev_E 182 [.ref 68, .int (xs 1), .int (xs 2)] mm_1 = some (some (.int (-1)), mm_14))) ?_
  refine qs (f := dm_ic_eq 809 1263) rfl (dm_ic_eq_t (by first | rfl | decide)) ?_
  refine qs (f := dm_iinc 1266 4 9) rfl (rfl) ?_
  refine qs (f := dm_goto 23) rfl (rfl) ?_
  refine qs (f := dm_ild 25 4) rfl (rfl) ?_
  refine qs (f := dm_ald 26 0) rfl (rfl) ?_
  refine qs (f := dm_sln 27 9) rfl (rfl) ?_
  refine qs (f := dm_push 29 (.int 9)) rfl (rfl) ?_
  refine qs (f := dm_ii 30 (fun x y => x - y)) rfl (rfl) ?_
  refine qs (f := dm_ic_gt 33 1269) rfl (dm_ic_gt_t (by decide)) ?_
  refine qs (f := dm_push 1270 (.int 1)) rfl (rfl) ?_
  exact qr (f := dm_ret .boolean) rfl rfl
set_option maxRecDepth 100000 in
theorem lo_43 (xs : Nat → Int32) (f1 f2 : dm_Sem) (h : xs 0 &&& 31 = 16) (hs : ¬ (xs 1) = 0) : ∃ M, dm_run ev_E (cdL 9 xs f1 f2) 1999976 (40, lvA, [.int (xs 0 &&& 31)]) ev_3 = some (some (.int 1), M) ∧ dm_bd M = true := by
  refine ⟨ev_3, ?_, bd_2⟩
  refine qs (f := dm_tsw 0 28 1263 [172, 183, 208, 233, 270, 295, 320, 357, 382, 419, 432, 469, 506, 543, 655, 774, 811, 860, 874, 887, 1042, 1067, 1092, 1161, 1186, 1199, 1212, 1225, 1238]) rfl (dm_tsw_at h rfl) ?_
  refine qs (f := dm_ald 812 1) rfl (rfl) ?_
  refine qs (f := dm_ald 813 0) rfl (rfl) ?_
  refine qs (f := dm_ild 815 4) rfl (rfl) ?_
  refine qs (f := dm_push 816 (.int 1)) rfl (rfl) ?_
  refine qs (f := dm_ii 817 (fun x y => x + y)) rfl (rfl) ?_
  refine qs (f := dm_sld 818 9 xs) rfl (dm_sld_ok (j := 1) (by decide) (by decide)) ?_
  refine qs (f := dm_ald 819 0) rfl (rfl) ?_
  refine qs (f := dm_ild 821 4) rfl (rfl) ?_
  refine qs (f := dm_push 822 (.int 2)) rfl (rfl) ?_
  refine qs (f := dm_ii 823 (fun x y => x + y)) rfl (rfl) ?_
  refine qs (f := dm_sld 824 9 xs) rfl (dm_sld_ok (j := 2) (by decide) (by decide)) ?_
  refine qs (f := dm_ald 825 0) rfl (rfl) ?_
  refine qs (f := dm_ild 827 4) rfl (rfl) ?_
  refine qs (f := dm_push 828 (.int 3)) rfl (rfl) ?_
  refine qs (f := dm_ii 829 (fun x y => x + y)) rfl (rfl) ?_
  refine qs (f := dm_sld 830 9 xs) rfl (dm_sld_ok (j := 3) (by decide) (by decide)) ?_
  refine qc (f := dm_inv 833 111 3 7) rfl (dm_inv_ok io_0 rfl (Nat.le_of_ble_eq_true rfl)) (sy_60 (xs 1) (xs 2) (xs 3) hs) ?_
  refine qs (f := dm_ald 834 2) rfl (rfl) ?_
  refine qs (f := dm_ald 835 0) rfl (rfl) ?_
  refine qs (f := dm_ild 837 4) rfl (rfl) ?_
  refine qs (f := dm_push 838 (.int 1)) rfl (rfl) ?_
  refine qs (f := dm_ii 839 (fun x y => x + y)) rfl (rfl) ?_
  refine qs (f := dm_sld 840 9 xs) rfl (dm_sld_ok (j := 1) (by decide) (by decide)) ?_
  refine qs (f := dm_ald 841 0) rfl (rfl) ?_
  refine qs (f := dm_ild 843 4) rfl (rfl) ?_
  refine qs (f := dm_push 844 (.int 2)) rfl (rfl) ?_
  refine qs (f := dm_ii 845 (fun x y => x + y)) rfl (rfl) ?_
  refine qs (f := dm_sld 846 9 xs) rfl (dm_sld_ok (j := 2) (by decide) (by decide)) ?_
  refine qs (f := dm_ald 847 0) rfl (rfl) ?_
  refine qs (f := dm_ild 849 4) rfl (rfl) ?_
  refine qs (f := dm_push 850 (.int 3)) rfl (rfl) ?_
  refine qs (f := dm_ii 851 (fun x y => x + y)) rfl (rfl) ?_
  refine qs (f := dm_sld 852 9 xs) rfl (dm_sld_ok (j := 3) (by decide) (by decide)) ?_
  refine qc (f := dm_inv 855 185 3 8) rfl (dm_inv_ok io_3 rfl (Nat.le_of_ble_eq_true rfl)) (sy_61 (xs 1) (xs 2) (xs 3) hs) ?_
  refine qs (f := dm_ic_eq 858 1263) rfl (dm_ic_eq_t (by first | rfl | decide)) ?_
  refine qs (f := dm_iinc 1266 4 9) rfl (rfl) ?_
  refine qs (f := dm_goto 23) rfl (rfl) ?_
  refine qs (f := dm_ild 25 4) rfl (rfl) ?_
  refine qs (f := dm_ald 26 0) rfl (rfl) ?_
  refine qs (f := dm_sln 27 9) rfl (rfl) ?_
  refine qs (f := dm_push 29 (.int 9)) rfl (rfl) ?_
  refine qs (f := dm_ii 30 (fun x y => x - y)) rfl (rfl) ?_
  refine qs (f := dm_ic_gt 33 1269) rfl (dm_ic_gt_t (by decide)) ?_
  refine qs (f := dm_push 1270 (.int 1)) rfl (rfl) ?_
  exact qr (f := dm_ret .boolean) rfl rfl
set_option maxRecDepth 100000 in
theorem lo_44 (xs : Nat → Int32) (f1 f2 : dm_Sem) (h : xs 0 &&& 31 = 16) (ht : ¬ (xs 2) = 0) (zs : xs 1 = 0) : ∃ M, dm_run ev_E (cdL 9 xs f1 f2) 1999976 (40, lvA, [.int (xs 0 &&& 31)]) ev_3 = some (some (.int 1), M) ∧ dm_bd M = true := by
  refine ⟨mm_8, ?_, bd_29⟩
  refine qs (f := dm_tsw 0 28 1263 [172, 183, 208, 233, 270, 295, 320, 357, 382, 419, 432, 469, 506, 543, 655, 774, 811, 860, 874, 887, 1042, 1067, 1092, 1161, 1186, 1199, 1212, 1225, 1238]) rfl (dm_tsw_at h rfl) ?_
  refine qs (f := dm_ald 812 1) rfl (rfl) ?_
  refine qs (f := dm_ald 813 0) rfl (rfl) ?_
  refine qs (f := dm_ild 815 4) rfl (rfl) ?_
  refine qs (f := dm_push 816 (.int 1)) rfl (rfl) ?_
  refine qs (f := dm_ii 817 (fun x y => x + y)) rfl (rfl) ?_
  refine qs (f := dm_sld 818 9 xs) rfl (dm_sld_ok (j := 1) (by decide) (by decide)) ?_
  refine qs (f := dm_ald 819 0) rfl (rfl) ?_
  refine qs (f := dm_ild 821 4) rfl (rfl) ?_
  refine qs (f := dm_push 822 (.int 2)) rfl (rfl) ?_
  refine qs (f := dm_ii 823 (fun x y => x + y)) rfl (rfl) ?_
  refine qs (f := dm_sld 824 9 xs) rfl (dm_sld_ok (j := 2) (by decide) (by decide)) ?_
  refine qs (f := dm_ald 825 0) rfl (rfl) ?_
  refine qs (f := dm_ild 827 4) rfl (rfl) ?_
  refine qs (f := dm_push 828 (.int 3)) rfl (rfl) ?_
  refine qs (f := dm_ii 829 (fun x y => x + y)) rfl (rfl) ?_
  refine qs (f := dm_sld 830 9 xs) rfl (dm_sld_ok (j := 3) (by decide) (by decide)) ?_
  refine qc (f := dm_inv 833 111 3 7) rfl (dm_inv_ok io_0 rfl (Nat.le_of_ble_eq_true rfl)) ((by rw [zs]; exact sy_64 (xs 2) (xs 3) ht : ev_E 111 [.ref 0, .int (xs 1), .int (xs 2), .int (xs 3)] ev_3 = some (some (.int 0), mm_7))) ?_
  refine qs (f := dm_ald 834 2) rfl (rfl) ?_
  refine qs (f := dm_ald 835 0) rfl (rfl) ?_
  refine qs (f := dm_ild 837 4) rfl (rfl) ?_
  refine qs (f := dm_push 838 (.int 1)) rfl (rfl) ?_
  refine qs (f := dm_ii 839 (fun x y => x + y)) rfl (rfl) ?_
  refine qs (f := dm_sld 840 9 xs) rfl (dm_sld_ok (j := 1) (by decide) (by decide)) ?_
  refine qs (f := dm_ald 841 0) rfl (rfl) ?_
  refine qs (f := dm_ild 843 4) rfl (rfl) ?_
  refine qs (f := dm_push 844 (.int 2)) rfl (rfl) ?_
  refine qs (f := dm_ii 845 (fun x y => x + y)) rfl (rfl) ?_
  refine qs (f := dm_sld 846 9 xs) rfl (dm_sld_ok (j := 2) (by decide) (by decide)) ?_
  refine qs (f := dm_ald 847 0) rfl (rfl) ?_
  refine qs (f := dm_ild 849 4) rfl (rfl) ?_
  refine qs (f := dm_push 850 (.int 3)) rfl (rfl) ?_
  refine qs (f := dm_ii 851 (fun x y => x + y)) rfl (rfl) ?_
  refine qs (f := dm_sld 852 9 xs) rfl (dm_sld_ok (j := 3) (by decide) (by decide)) ?_
  refine qc (f := dm_inv 855 185 3 8) rfl (dm_inv_ok io_29 rfl (Nat.le_of_ble_eq_true rfl)) ((by rw [zs]; exact sy_66 (xs 2) (xs 3) ht : ev_E 185 [.ref 68, .int (xs 1), .int (xs 2), .int (xs 3)] mm_7 = some (some (.int 0), mm_8))) ?_
  refine qs (f := dm_ic_eq 858 1263) rfl (dm_ic_eq_t (by first | rfl | decide)) ?_
  refine qs (f := dm_iinc 1266 4 9) rfl (rfl) ?_
  refine qs (f := dm_goto 23) rfl (rfl) ?_
  refine qs (f := dm_ild 25 4) rfl (rfl) ?_
  refine qs (f := dm_ald 26 0) rfl (rfl) ?_
  refine qs (f := dm_sln 27 9) rfl (rfl) ?_
  refine qs (f := dm_push 29 (.int 9)) rfl (rfl) ?_
  refine qs (f := dm_ii 30 (fun x y => x - y)) rfl (rfl) ?_
  refine qs (f := dm_ic_gt 33 1269) rfl (dm_ic_gt_t (by decide)) ?_
  refine qs (f := dm_push 1270 (.int 1)) rfl (rfl) ?_
  exact qr (f := dm_ret .boolean) rfl rfl
set_option maxRecDepth 100000 in
theorem lo_45 (xs : Nat → Int32) (f1 f2 : dm_Sem) (h : xs 0 &&& 31 = 16) (zs : xs 1 = 0) (zt : xs 2 = 0) : ∃ M, dm_run ev_E (cdL 9 xs f1 f2) 1999976 (40, lvA, [.int (xs 0 &&& 31)]) ev_3 = some (some (.int 1), M) ∧ dm_bd M = true := by
  refine ⟨mm_12, ?_, bd_30⟩
  refine qs (f := dm_tsw 0 28 1263 [172, 183, 208, 233, 270, 295, 320, 357, 382, 419, 432, 469, 506, 543, 655, 774, 811, 860, 874, 887, 1042, 1067, 1092, 1161, 1186, 1199, 1212, 1225, 1238]) rfl (dm_tsw_at h rfl) ?_
  refine qs (f := dm_ald 812 1) rfl (rfl) ?_
  refine qs (f := dm_ald 813 0) rfl (rfl) ?_
  refine qs (f := dm_ild 815 4) rfl (rfl) ?_
  refine qs (f := dm_push 816 (.int 1)) rfl (rfl) ?_
  refine qs (f := dm_ii 817 (fun x y => x + y)) rfl (rfl) ?_
  refine qs (f := dm_sld 818 9 xs) rfl (dm_sld_ok (j := 1) (by decide) (by decide)) ?_
  refine qs (f := dm_ald 819 0) rfl (rfl) ?_
  refine qs (f := dm_ild 821 4) rfl (rfl) ?_
  refine qs (f := dm_push 822 (.int 2)) rfl (rfl) ?_
  refine qs (f := dm_ii 823 (fun x y => x + y)) rfl (rfl) ?_
  refine qs (f := dm_sld 824 9 xs) rfl (dm_sld_ok (j := 2) (by decide) (by decide)) ?_
  refine qs (f := dm_ald 825 0) rfl (rfl) ?_
  refine qs (f := dm_ild 827 4) rfl (rfl) ?_
  refine qs (f := dm_push 828 (.int 3)) rfl (rfl) ?_
  refine qs (f := dm_ii 829 (fun x y => x + y)) rfl (rfl) ?_
  refine qs (f := dm_sld 830 9 xs) rfl (dm_sld_ok (j := 3) (by decide) (by decide)) ?_
  refine qc (f := dm_inv 833 111 3 7) rfl (dm_inv_ok io_0 rfl (Nat.le_of_ble_eq_true rfl)) ((by rw [zs, zt]; exact sy_67 (xs 3) : ev_E 111 [.ref 0, .int (xs 1), .int (xs 2), .int (xs 3)] ev_3 = some (some (.int 0), mm_9))) ?_
  refine qs (f := dm_ald 834 2) rfl (rfl) ?_
  refine qs (f := dm_ald 835 0) rfl (rfl) ?_
  refine qs (f := dm_ild 837 4) rfl (rfl) ?_
  refine qs (f := dm_push 838 (.int 1)) rfl (rfl) ?_
  refine qs (f := dm_ii 839 (fun x y => x + y)) rfl (rfl) ?_
  refine qs (f := dm_sld 840 9 xs) rfl (dm_sld_ok (j := 1) (by decide) (by decide)) ?_
  refine qs (f := dm_ald 841 0) rfl (rfl) ?_
  refine qs (f := dm_ild 843 4) rfl (rfl) ?_
  refine qs (f := dm_push 844 (.int 2)) rfl (rfl) ?_
  refine qs (f := dm_ii 845 (fun x y => x + y)) rfl (rfl) ?_
  refine qs (f := dm_sld 846 9 xs) rfl (dm_sld_ok (j := 2) (by decide) (by decide)) ?_
  refine qs (f := dm_ald 847 0) rfl (rfl) ?_
  refine qs (f := dm_ild 849 4) rfl (rfl) ?_
  refine qs (f := dm_push 850 (.int 3)) rfl (rfl) ?_
  refine qs (f := dm_ii 851 (fun x y => x + y)) rfl (rfl) ?_
  refine qs (f := dm_sld 852 9 xs) rfl (dm_sld_ok (j := 3) (by decide) (by decide)) ?_
  refine qc (f := dm_inv 855 185 3 8) rfl (dm_inv_ok io_30 rfl (Nat.le_of_ble_eq_true rfl)) ((by rw [zs, zt]; exact sy_68 (xs 3) : ev_E 185 [.ref 68, .int (xs 1), .int (xs 2), .int (xs 3)] mm_9 = some (some (.int 0), mm_12))) ?_
  refine qs (f := dm_ic_eq 858 1263) rfl (dm_ic_eq_t (by first | rfl | decide)) ?_
  refine qs (f := dm_iinc 1266 4 9) rfl (rfl) ?_
  refine qs (f := dm_goto 23) rfl (rfl) ?_
  refine qs (f := dm_ild 25 4) rfl (rfl) ?_
  refine qs (f := dm_ald 26 0) rfl (rfl) ?_
  refine qs (f := dm_sln 27 9) rfl (rfl) ?_
  refine qs (f := dm_push 29 (.int 9)) rfl (rfl) ?_
  refine qs (f := dm_ii 30 (fun x y => x - y)) rfl (rfl) ?_
  refine qs (f := dm_ic_gt 33 1269) rfl (dm_ic_gt_t (by decide)) ?_
  refine qs (f := dm_push 1270 (.int 1)) rfl (rfl) ?_
  exact qr (f := dm_ret .boolean) rfl rfl
set_option maxRecDepth 100000 in
theorem lo_46 (xs : Nat → Int32) (f1 f2 : dm_Sem) (h : xs 0 &&& 31 = 17)  : ∃ M, dm_run ev_E (cdL 9 xs f1 f2) 1999976 (40, lvA, [.int (xs 0 &&& 31)]) ev_3 = some (some (.int 1), M) ∧ dm_bd M = true := by
  refine ⟨(ev_M (ev_E 186 [.ref 68] (ev_M (ev_E 112 [.ref 0] ev_3)))), ?_, bd_31⟩
  refine qs (f := dm_tsw 0 28 1263 [172, 183, 208, 233, 270, 295, 320, 357, 382, 419, 432, 469, 506, 543, 655, 774, 811, 860, 874, 887, 1042, 1067, 1092, 1161, 1186, 1199, 1212, 1225, 1238]) rfl (dm_tsw_at h rfl) ?_
  refine qs (f := dm_ald 861 1) rfl (rfl) ?_
  refine qc (f := dm_inv 864 112 0 7) rfl (dm_inv_ok io_0 rfl (Nat.le_of_ble_eq_true rfl)) (ec_9  ) ?_
  refine qs (f := dm_ald 865 2) rfl (rfl) ?_
  refine qc (f := dm_inv 868 186 0 8) rfl (dm_inv_ok io_31 rfl (Nat.le_of_ble_eq_true rfl)) (em_9  ) ?_
  refine qs (f := dm_lc 869) rfl (rfl) ?_
  refine qs (f := dm_if_eq 872 1263) rfl (dm_if_eq_t (by decide)) ?_
  refine qs (f := dm_iinc 1266 4 9) rfl (rfl) ?_
  refine qs (f := dm_goto 23) rfl (rfl) ?_
  refine qs (f := dm_ild 25 4) rfl (rfl) ?_
  refine qs (f := dm_ald 26 0) rfl (rfl) ?_
  refine qs (f := dm_sln 27 9) rfl (rfl) ?_
  refine qs (f := dm_push 29 (.int 9)) rfl (rfl) ?_
  refine qs (f := dm_ii 30 (fun x y => x - y)) rfl (rfl) ?_
  refine qs (f := dm_ic_gt 33 1269) rfl (dm_ic_gt_t (by decide)) ?_
  refine qs (f := dm_push 1270 (.int 1)) rfl (rfl) ?_
  exact qr (f := dm_ret .boolean) rfl rfl
set_option maxRecDepth 100000 in
theorem lo_47 (xs : Nat → Int32) (f1 f2 : dm_Sem) (h : xs 0 &&& 31 = 18)  : ∃ M, dm_run ev_E (cdL 9 xs f1 f2) 1999976 (40, lvA, [.int (xs 0 &&& 31)]) ev_3 = some (some (.int 1), M) ∧ dm_bd M = true := by
  refine ⟨(ev_M (ev_E 187 [.ref 68] (ev_M (ev_E 113 [.ref 0] ev_3)))), ?_, bd_32⟩
  refine qs (f := dm_tsw 0 28 1263 [172, 183, 208, 233, 270, 295, 320, 357, 382, 419, 432, 469, 506, 543, 655, 774, 811, 860, 874, 887, 1042, 1067, 1092, 1161, 1186, 1199, 1212, 1225, 1238]) rfl (dm_tsw_at h rfl) ?_
  refine qs (f := dm_ald 875 1) rfl (rfl) ?_
  refine qc (f := dm_inv 878 113 0 7) rfl (dm_inv_ok io_0 rfl (Nat.le_of_ble_eq_true rfl)) (ec_10  ) ?_
  refine qs (f := dm_ald 879 2) rfl (rfl) ?_
  refine qc (f := dm_inv 882 187 0 8) rfl (dm_inv_ok io_32 rfl (Nat.le_of_ble_eq_true rfl)) (em_10  ) ?_
  refine qs (f := dm_ic_eq 885 1263) rfl (dm_ic_eq_t (by first | rfl | decide)) ?_
  refine qs (f := dm_iinc 1266 4 9) rfl (rfl) ?_
  refine qs (f := dm_goto 23) rfl (rfl) ?_
  refine qs (f := dm_ild 25 4) rfl (rfl) ?_
  refine qs (f := dm_ald 26 0) rfl (rfl) ?_
  refine qs (f := dm_sln 27 9) rfl (rfl) ?_
  refine qs (f := dm_push 29 (.int 9)) rfl (rfl) ?_
  refine qs (f := dm_ii 30 (fun x y => x - y)) rfl (rfl) ?_
  refine qs (f := dm_ic_gt 33 1269) rfl (dm_ic_gt_t (by decide)) ?_
  refine qs (f := dm_push 1270 (.int 1)) rfl (rfl) ?_
  exact qr (f := dm_ret .boolean) rfl rfl
set_option maxRecDepth 100000 in
theorem lo_48 (xs : Nat → Int32) (f1 f2 : dm_Sem) (h : xs 0 &&& 31 = 19) (hs : ¬ (xs 1) = 0) : ∃ M, dm_run ev_E (cdL 9 xs f1 f2) 1999976 (40, lvA, [.int (xs 0 &&& 31)]) ev_3 = some (some (.int 1), M) ∧ dm_bd M = true := by
  refine ⟨ev_3, ?_, bd_2⟩
  refine qs (f := dm_tsw 0 28 1263 [172, 183, 208, 233, 270, 295, 320, 357, 382, 419, 432, 469, 506, 543, 655, 774, 811, 860, 874, 887, 1042, 1067, 1092, 1161, 1186, 1199, 1212, 1225, 1238]) rfl (dm_tsw_at h rfl) ?_
  refine qs (f := dm_ald 888 1) rfl (rfl) ?_
  refine qs (f := dm_ald 889 0) rfl (rfl) ?_
  refine qs (f := dm_ild 891 4) rfl (rfl) ?_
  refine qs (f := dm_push 892 (.int 1)) rfl (rfl) ?_
  refine qs (f := dm_ii 893 (fun x y => x + y)) rfl (rfl) ?_
  refine qs (f := dm_sld 894 9 xs) rfl (dm_sld_ok (j := 1) (by decide) (by decide)) ?_
  refine qs (f := dm_ald 895 0) rfl (rfl) ?_
  refine qs (f := dm_ild 897 4) rfl (rfl) ?_
  refine qs (f := dm_push 898 (.int 2)) rfl (rfl) ?_
  refine qs (f := dm_ii 899 (fun x y => x + y)) rfl (rfl) ?_
  refine qs (f := dm_sld 900 9 xs) rfl (dm_sld_ok (j := 2) (by decide) (by decide)) ?_
  refine qs (f := dm_ald 901 0) rfl (rfl) ?_
  refine qs (f := dm_ild 903 4) rfl (rfl) ?_
  refine qs (f := dm_push 904 (.int 3)) rfl (rfl) ?_
  refine qs (f := dm_ii 905 (fun x y => x + y)) rfl (rfl) ?_
  refine qs (f := dm_sld 906 9 xs) rfl (dm_sld_ok (j := 3) (by decide) (by decide)) ?_
  refine qs (f := dm_i1 907 (fun x => .long x.toInt64)) rfl (rfl) ?_
  refine qs (f := dm_push 909 (.int 32)) rfl (rfl) ?_
  refine qs (f := dm_li 910 (fun x y => x <<< (y.toInt64 &&& 63))) rfl (rfl) ?_
  refine qs (f := dm_ald 911 0) rfl (rfl) ?_
  refine qs (f := dm_ild 913 4) rfl (rfl) ?_
  refine qs (f := dm_push 914 (.int 4)) rfl (rfl) ?_
  refine qs (f := dm_ii 915 (fun x y => x + y)) rfl (rfl) ?_
  refine qs (f := dm_sld 916 9 xs) rfl (dm_sld_ok (j := 4) (by decide) (by decide)) ?_
  refine qs (f := dm_i1 917 (fun x => .long x.toInt64)) rfl (rfl) ?_
  refine qs (f := dm_push 920 (.long 4294967295)) rfl (rfl) ?_
  refine qs (f := dm_ll 921 (fun x y => x &&& y)) rfl (rfl) ?_
  refine qs (f := dm_ll 922 (fun x y => x ||| y)) rfl (rfl) ?_
  refine qs (f := dm_ald 923 0) rfl (rfl) ?_
  refine qs (f := dm_ild 925 4) rfl (rfl) ?_
  refine qs (f := dm_push 926 (.int 5)) rfl (rfl) ?_
  refine qs (f := dm_ii 927 (fun x y => x + y)) rfl (rfl) ?_
  refine qs (f := dm_sld 928 9 xs) rfl (dm_sld_ok (j := 5) (by decide) (by decide)) ?_
  refine qs (f := dm_ald 929 0) rfl (rfl) ?_
  refine qs (f := dm_ild 931 4) rfl (rfl) ?_
  refine qs (f := dm_push 933 (.int 6)) rfl (rfl) ?_
  refine qs (f := dm_ii 934 (fun x y => x + y)) rfl (rfl) ?_
  refine qs (f := dm_sld 935 9 xs) rfl (dm_sld_ok (j := 6) (by decide) (by decide)) ?_
  refine qs (f := dm_i1 936 (fun x => .long x.toInt64)) rfl (rfl) ?_
  refine qs (f := dm_push 938 (.int 32)) rfl (rfl) ?_
  refine qs (f := dm_li 939 (fun x y => x <<< (y.toInt64 &&& 63))) rfl (rfl) ?_
  refine qs (f := dm_ald 940 0) rfl (rfl) ?_
  refine qs (f := dm_ild 942 4) rfl (rfl) ?_
  refine qs (f := dm_push 944 (.int 7)) rfl (rfl) ?_
  refine qs (f := dm_ii 945 (fun x y => x + y)) rfl (rfl) ?_
  refine qs (f := dm_sld 946 9 xs) rfl (dm_sld_ok (j := 7) (by decide) (by decide)) ?_
  refine qs (f := dm_i1 947 (fun x => .long x.toInt64)) rfl (rfl) ?_
  refine qs (f := dm_push 950 (.long 4294967295)) rfl (rfl) ?_
  refine qs (f := dm_ll 951 (fun x y => x &&& y)) rfl (rfl) ?_
  refine qs (f := dm_ll 952 (fun x y => x ||| y)) rfl (rfl) ?_
  refine qs (f := dm_ald 953 0) rfl (rfl) ?_
  refine qs (f := dm_ild 955 4) rfl (rfl) ?_
  refine qs (f := dm_push 957 (.int 8)) rfl (rfl) ?_
  refine qs (f := dm_ii 958 (fun x y => x + y)) rfl (rfl) ?_
  refine qs (f := dm_sld 959 9 xs) rfl (dm_sld_ok (j := 8) (by decide) (by decide)) ?_
  refine qc (f := dm_inv 962 114 6 7) rfl (dm_inv_ok io_0 rfl (Nat.le_of_ble_eq_true rfl)) (sy_79 (xs 1) (xs 2) (((xs 3).toInt64 <<< ((32 : Int32).toInt64 &&& 63)) ||| ((xs 4).toInt64 &&& (4294967295 : Int64))) (xs 5) (((xs 6).toInt64 <<< ((32 : Int32).toInt64 &&& 63)) ||| ((xs 7).toInt64 &&& (4294967295 : Int64))) (xs 8) hs) ?_
  refine qs (f := dm_ald 963 2) rfl (rfl) ?_
  refine qs (f := dm_ald 964 0) rfl (rfl) ?_
  refine qs (f := dm_ild 966 4) rfl (rfl) ?_
  refine qs (f := dm_push 967 (.int 1)) rfl (rfl) ?_
  refine qs (f := dm_ii 968 (fun x y => x + y)) rfl (rfl) ?_
  refine qs (f := dm_sld 969 9 xs) rfl (dm_sld_ok (j := 1) (by decide) (by decide)) ?_
  refine qs (f := dm_ald 970 0) rfl (rfl) ?_
  refine qs (f := dm_ild 972 4) rfl (rfl) ?_
  refine qs (f := dm_push 973 (.int 2)) rfl (rfl) ?_
  refine qs (f := dm_ii 974 (fun x y => x + y)) rfl (rfl) ?_
  refine qs (f := dm_sld 975 9 xs) rfl (dm_sld_ok (j := 2) (by decide) (by decide)) ?_
  refine qs (f := dm_ald 976 0) rfl (rfl) ?_
  refine qs (f := dm_ild 978 4) rfl (rfl) ?_
  refine qs (f := dm_push 979 (.int 3)) rfl (rfl) ?_
  refine qs (f := dm_ii 980 (fun x y => x + y)) rfl (rfl) ?_
  refine qs (f := dm_sld 981 9 xs) rfl (dm_sld_ok (j := 3) (by decide) (by decide)) ?_
  refine qs (f := dm_i1 982 (fun x => .long x.toInt64)) rfl (rfl) ?_
  refine qs (f := dm_push 984 (.int 32)) rfl (rfl) ?_
  refine qs (f := dm_li 985 (fun x y => x <<< (y.toInt64 &&& 63))) rfl (rfl) ?_
  refine qs (f := dm_ald 986 0) rfl (rfl) ?_
  refine qs (f := dm_ild 988 4) rfl (rfl) ?_
  refine qs (f := dm_push 989 (.int 4)) rfl (rfl) ?_
  refine qs (f := dm_ii 990 (fun x y => x + y)) rfl (rfl) ?_
  refine qs (f := dm_sld 991 9 xs) rfl (dm_sld_ok (j := 4) (by decide) (by decide)) ?_
  refine qs (f := dm_i1 992 (fun x => .long x.toInt64)) rfl (rfl) ?_
  refine qs (f := dm_push 995 (.long 4294967295)) rfl (rfl) ?_
  refine qs (f := dm_ll 996 (fun x y => x &&& y)) rfl (rfl) ?_
  refine qs (f := dm_ll 997 (fun x y => x ||| y)) rfl (rfl) ?_
  refine qs (f := dm_ald 998 0) rfl (rfl) ?_
  refine qs (f := dm_ild 1000 4) rfl (rfl) ?_
  refine qs (f := dm_push 1001 (.int 5)) rfl (rfl) ?_
  refine qs (f := dm_ii 1002 (fun x y => x + y)) rfl (rfl) ?_
  refine qs (f := dm_sld 1003 9 xs) rfl (dm_sld_ok (j := 5) (by decide) (by decide)) ?_
  refine qs (f := dm_ald 1004 0) rfl (rfl) ?_
  refine qs (f := dm_ild 1006 4) rfl (rfl) ?_
  refine qs (f := dm_push 1008 (.int 6)) rfl (rfl) ?_
  refine qs (f := dm_ii 1009 (fun x y => x + y)) rfl (rfl) ?_
  refine qs (f := dm_sld 1010 9 xs) rfl (dm_sld_ok (j := 6) (by decide) (by decide)) ?_
  refine qs (f := dm_i1 1011 (fun x => .long x.toInt64)) rfl (rfl) ?_
  refine qs (f := dm_push 1013 (.int 32)) rfl (rfl) ?_
  refine qs (f := dm_li 1014 (fun x y => x <<< (y.toInt64 &&& 63))) rfl (rfl) ?_
  refine qs (f := dm_ald 1015 0) rfl (rfl) ?_
  refine qs (f := dm_ild 1017 4) rfl (rfl) ?_
  refine qs (f := dm_push 1019 (.int 7)) rfl (rfl) ?_
  refine qs (f := dm_ii 1020 (fun x y => x + y)) rfl (rfl) ?_
  refine qs (f := dm_sld 1021 9 xs) rfl (dm_sld_ok (j := 7) (by decide) (by decide)) ?_
  refine qs (f := dm_i1 1022 (fun x => .long x.toInt64)) rfl (rfl) ?_
  refine qs (f := dm_push 1025 (.long 4294967295)) rfl (rfl) ?_
  refine qs (f := dm_ll 1026 (fun x y => x &&& y)) rfl (rfl) ?_
  refine qs (f := dm_ll 1027 (fun x y => x ||| y)) rfl (rfl) ?_
  refine qs (f := dm_ald 1028 0) rfl (rfl) ?_
  refine qs (f := dm_ild 1030 4) rfl (rfl) ?_
  refine qs (f := dm_push 1032 (.int 8)) rfl (rfl) ?_
  refine qs (f := dm_ii 1033 (fun x y => x + y)) rfl (rfl) ?_
  refine qs (f := dm_sld 1034 9 xs) rfl (dm_sld_ok (j := 8) (by decide) (by decide)) ?_
  refine qc (f := dm_inv 1037 188 6 8) rfl (dm_inv_ok io_3 rfl (Nat.le_of_ble_eq_true rfl)) (sy_80 (xs 1) (xs 2) (((xs 3).toInt64 <<< ((32 : Int32).toInt64 &&& 63)) ||| ((xs 4).toInt64 &&& (4294967295 : Int64))) (xs 5) (((xs 6).toInt64 <<< ((32 : Int32).toInt64 &&& 63)) ||| ((xs 7).toInt64 &&& (4294967295 : Int64))) (xs 8) hs) ?_
  refine qs (f := dm_ic_eq 1040 1263) rfl (dm_ic_eq_t (by first | rfl | decide)) ?_
  refine qs (f := dm_iinc 1266 4 9) rfl (rfl) ?_
  refine qs (f := dm_goto 23) rfl (rfl) ?_
  refine qs (f := dm_ild 25 4) rfl (rfl) ?_
  refine qs (f := dm_ald 26 0) rfl (rfl) ?_
  refine qs (f := dm_sln 27 9) rfl (rfl) ?_
  refine qs (f := dm_push 29 (.int 9)) rfl (rfl) ?_
  refine qs (f := dm_ii 30 (fun x y => x - y)) rfl (rfl) ?_
  refine qs (f := dm_ic_gt 33 1269) rfl (dm_ic_gt_t (by decide)) ?_
  refine qs (f := dm_push 1270 (.int 1)) rfl (rfl) ?_
  exact qr (f := dm_ret .boolean) rfl rfl
set_option maxRecDepth 100000 in
theorem lo_49 (xs : Nat → Int32) (f1 f2 : dm_Sem) (h : xs 0 &&& 31 = 19) (ht : ¬ (xs 2) = 0) (zs : xs 1 = 0) : ∃ M, dm_run ev_E (cdL 9 xs f1 f2) 1999976 (40, lvA, [.int (xs 0 &&& 31)]) ev_3 = some (some (.int 1), M) ∧ dm_bd M = true := by
  refine ⟨mm_2, ?_, bd_14⟩
  refine qs (f := dm_tsw 0 28 1263 [172, 183, 208, 233, 270, 295, 320, 357, 382, 419, 432, 469, 506, 543, 655, 774, 811, 860, 874, 887, 1042, 1067, 1092, 1161, 1186, 1199, 1212, 1225, 1238]) rfl (dm_tsw_at h rfl) ?_
  refine qs (f := dm_ald 888 1) rfl (rfl) ?_
  refine qs (f := dm_ald 889 0) rfl (rfl) ?_
  refine qs (f := dm_ild 891 4) rfl (rfl) ?_
  refine qs (f := dm_push 892 (.int 1)) rfl (rfl) ?_
  refine qs (f := dm_ii 893 (fun x y => x + y)) rfl (rfl) ?_
  refine qs (f := dm_sld 894 9 xs) rfl (dm_sld_ok (j := 1) (by decide) (by decide)) ?_
  refine qs (f := dm_ald 895 0) rfl (rfl) ?_
  refine qs (f := dm_ild 897 4) rfl (rfl) ?_
  refine qs (f := dm_push 898 (.int 2)) rfl (rfl) ?_
  refine qs (f := dm_ii 899 (fun x y => x + y)) rfl (rfl) ?_
  refine qs (f := dm_sld 900 9 xs) rfl (dm_sld_ok (j := 2) (by decide) (by decide)) ?_
  refine qs (f := dm_ald 901 0) rfl (rfl) ?_
  refine qs (f := dm_ild 903 4) rfl (rfl) ?_
  refine qs (f := dm_push 904 (.int 3)) rfl (rfl) ?_
  refine qs (f := dm_ii 905 (fun x y => x + y)) rfl (rfl) ?_
  refine qs (f := dm_sld 906 9 xs) rfl (dm_sld_ok (j := 3) (by decide) (by decide)) ?_
  refine qs (f := dm_i1 907 (fun x => .long x.toInt64)) rfl (rfl) ?_
  refine qs (f := dm_push 909 (.int 32)) rfl (rfl) ?_
  refine qs (f := dm_li 910 (fun x y => x <<< (y.toInt64 &&& 63))) rfl (rfl) ?_
  refine qs (f := dm_ald 911 0) rfl (rfl) ?_
  refine qs (f := dm_ild 913 4) rfl (rfl) ?_
  refine qs (f := dm_push 914 (.int 4)) rfl (rfl) ?_
  refine qs (f := dm_ii 915 (fun x y => x + y)) rfl (rfl) ?_
  refine qs (f := dm_sld 916 9 xs) rfl (dm_sld_ok (j := 4) (by decide) (by decide)) ?_
  refine qs (f := dm_i1 917 (fun x => .long x.toInt64)) rfl (rfl) ?_
  refine qs (f := dm_push 920 (.long 4294967295)) rfl (rfl) ?_
  refine qs (f := dm_ll 921 (fun x y => x &&& y)) rfl (rfl) ?_
  refine qs (f := dm_ll 922 (fun x y => x ||| y)) rfl (rfl) ?_
  refine qs (f := dm_ald 923 0) rfl (rfl) ?_
  refine qs (f := dm_ild 925 4) rfl (rfl) ?_
  refine qs (f := dm_push 926 (.int 5)) rfl (rfl) ?_
  refine qs (f := dm_ii 927 (fun x y => x + y)) rfl (rfl) ?_
  refine qs (f := dm_sld 928 9 xs) rfl (dm_sld_ok (j := 5) (by decide) (by decide)) ?_
  refine qs (f := dm_ald 929 0) rfl (rfl) ?_
  refine qs (f := dm_ild 931 4) rfl (rfl) ?_
  refine qs (f := dm_push 933 (.int 6)) rfl (rfl) ?_
  refine qs (f := dm_ii 934 (fun x y => x + y)) rfl (rfl) ?_
  refine qs (f := dm_sld 935 9 xs) rfl (dm_sld_ok (j := 6) (by decide) (by decide)) ?_
  refine qs (f := dm_i1 936 (fun x => .long x.toInt64)) rfl (rfl) ?_
  refine qs (f := dm_push 938 (.int 32)) rfl (rfl) ?_
  refine qs (f := dm_li 939 (fun x y => x <<< (y.toInt64 &&& 63))) rfl (rfl) ?_
  refine qs (f := dm_ald 940 0) rfl (rfl) ?_
  refine qs (f := dm_ild 942 4) rfl (rfl) ?_
  refine qs (f := dm_push 944 (.int 7)) rfl (rfl) ?_
  refine qs (f := dm_ii 945 (fun x y => x + y)) rfl (rfl) ?_
  refine qs (f := dm_sld 946 9 xs) rfl (dm_sld_ok (j := 7) (by decide) (by decide)) ?_
  refine qs (f := dm_i1 947 (fun x => .long x.toInt64)) rfl (rfl) ?_
  refine qs (f := dm_push 950 (.long 4294967295)) rfl (rfl) ?_
  refine qs (f := dm_ll 951 (fun x y => x &&& y)) rfl (rfl) ?_
  refine qs (f := dm_ll 952 (fun x y => x ||| y)) rfl (rfl) ?_
  refine qs (f := dm_ald 953 0) rfl (rfl) ?_
  refine qs (f := dm_ild 955 4) rfl (rfl) ?_
  refine qs (f := dm_push 957 (.int 8)) rfl (rfl) ?_
  refine qs (f := dm_ii 958 (fun x y => x + y)) rfl (rfl) ?_
  refine qs (f := dm_sld 959 9 xs) rfl (dm_sld_ok (j := 8) (by decide) (by decide)) ?_
  refine qc (f := dm_inv 962 114 6 7) rfl (dm_inv_ok io_0 rfl (Nat.le_of_ble_eq_true rfl)) ((by rw [zs]; exact sy_81 (xs 2) (((xs 3).toInt64 <<< ((32 : Int32).toInt64 &&& 63)) ||| ((xs 4).toInt64 &&& (4294967295 : Int64))) (xs 5) (((xs 6).toInt64 <<< ((32 : Int32).toInt64 &&& 63)) ||| ((xs 7).toInt64 &&& (4294967295 : Int64))) (xs 8) ht : ev_E 114 [.ref 0, .int (xs 1), .int (xs 2), .long (((xs 3).toInt64 <<< ((32 : Int32).toInt64 &&& 63)) ||| ((xs 4).toInt64 &&& (4294967295 : Int64))), .int (xs 5), .long (((xs 6).toInt64 <<< ((32 : Int32).toInt64 &&& 63)) ||| ((xs 7).toInt64 &&& (4294967295 : Int64))), .int (xs 8)] ev_3 = some (some (.int (-1)), mm_1))) ?_
  refine qs (f := dm_ald 963 2) rfl (rfl) ?_
  refine qs (f := dm_ald 964 0) rfl (rfl) ?_
  refine qs (f := dm_ild 966 4) rfl (rfl) ?_
  refine qs (f := dm_push 967 (.int 1)) rfl (rfl) ?_
  refine qs (f := dm_ii 968 (fun x y => x + y)) rfl (rfl) ?_
  refine qs (f := dm_sld 969 9 xs) rfl (dm_sld_ok (j := 1) (by decide) (by decide)) ?_
  refine qs (f := dm_ald 970 0) rfl (rfl) ?_
  refine qs (f := dm_ild 972 4) rfl (rfl) ?_
  refine qs (f := dm_push 973 (.int 2)) rfl (rfl) ?_
  refine qs (f := dm_ii 974 (fun x y => x + y)) rfl (rfl) ?_
  refine qs (f := dm_sld 975 9 xs) rfl (dm_sld_ok (j := 2) (by decide) (by decide)) ?_
  refine qs (f := dm_ald 976 0) rfl (rfl) ?_
  refine qs (f := dm_ild 978 4) rfl (rfl) ?_
  refine qs (f := dm_push 979 (.int 3)) rfl (rfl) ?_
  refine qs (f := dm_ii 980 (fun x y => x + y)) rfl (rfl) ?_
  refine qs (f := dm_sld 981 9 xs) rfl (dm_sld_ok (j := 3) (by decide) (by decide)) ?_
  refine qs (f := dm_i1 982 (fun x => .long x.toInt64)) rfl (rfl) ?_
  refine qs (f := dm_push 984 (.int 32)) rfl (rfl) ?_
  refine qs (f := dm_li 985 (fun x y => x <<< (y.toInt64 &&& 63))) rfl (rfl) ?_
  refine qs (f := dm_ald 986 0) rfl (rfl) ?_
  refine qs (f := dm_ild 988 4) rfl (rfl) ?_
  refine qs (f := dm_push 989 (.int 4)) rfl (rfl) ?_
  refine qs (f := dm_ii 990 (fun x y => x + y)) rfl (rfl) ?_
  refine qs (f := dm_sld 991 9 xs) rfl (dm_sld_ok (j := 4) (by decide) (by decide)) ?_
  refine qs (f := dm_i1 992 (fun x => .long x.toInt64)) rfl (rfl) ?_
  refine qs (f := dm_push 995 (.long 4294967295)) rfl (rfl) ?_
  refine qs (f := dm_ll 996 (fun x y => x &&& y)) rfl (rfl) ?_
  refine qs (f := dm_ll 997 (fun x y => x ||| y)) rfl (rfl) ?_
  refine qs (f := dm_ald 998 0) rfl (rfl) ?_
  refine qs (f := dm_ild 1000 4) rfl (rfl) ?_
  refine qs (f := dm_push 1001 (.int 5)) rfl (rfl) ?_
  refine qs (f := dm_ii 1002 (fun x y => x + y)) rfl (rfl) ?_
  refine qs (f := dm_sld 1003 9 xs) rfl (dm_sld_ok (j := 5) (by decide) (by decide)) ?_
  refine qs (f := dm_ald 1004 0) rfl (rfl) ?_
  refine qs (f := dm_ild 1006 4) rfl (rfl) ?_
  refine qs (f := dm_push 1008 (.int 6)) rfl (rfl) ?_
  refine qs (f := dm_ii 1009 (fun x y => x + y)) rfl (rfl) ?_
  refine qs (f := dm_sld 1010 9 xs) rfl (dm_sld_ok (j := 6) (by decide) (by decide)) ?_
  refine qs (f := dm_i1 1011 (fun x => .long x.toInt64)) rfl (rfl) ?_
  refine qs (f := dm_push 1013 (.int 32)) rfl (rfl) ?_
  refine qs (f := dm_li 1014 (fun x y => x <<< (y.toInt64 &&& 63))) rfl (rfl) ?_
  refine qs (f := dm_ald 1015 0) rfl (rfl) ?_
  refine qs (f := dm_ild 1017 4) rfl (rfl) ?_
  refine qs (f := dm_push 1019 (.int 7)) rfl (rfl) ?_
  refine qs (f := dm_ii 1020 (fun x y => x + y)) rfl (rfl) ?_
  refine qs (f := dm_sld 1021 9 xs) rfl (dm_sld_ok (j := 7) (by decide) (by decide)) ?_
  refine qs (f := dm_i1 1022 (fun x => .long x.toInt64)) rfl (rfl) ?_
  refine qs (f := dm_push 1025 (.long 4294967295)) rfl (rfl) ?_
  refine qs (f := dm_ll 1026 (fun x y => x &&& y)) rfl (rfl) ?_
  refine qs (f := dm_ll 1027 (fun x y => x ||| y)) rfl (rfl) ?_
  refine qs (f := dm_ald 1028 0) rfl (rfl) ?_
  refine qs (f := dm_ild 1030 4) rfl (rfl) ?_
  refine qs (f := dm_push 1032 (.int 8)) rfl (rfl) ?_
  refine qs (f := dm_ii 1033 (fun x y => x + y)) rfl (rfl) ?_
  refine qs (f := dm_sld 1034 9 xs) rfl (dm_sld_ok (j := 8) (by decide) (by decide)) ?_
  refine qc (f := dm_inv 1037 188 6 8) rfl (dm_inv_ok io_15 rfl (Nat.le_of_ble_eq_true rfl)) ((by rw [zs]; exact sy_82 (xs 2) (((xs 3).toInt64 <<< ((32 : Int32).toInt64 &&& 63)) ||| ((xs 4).toInt64 &&& (4294967295 : Int64))) (xs 5) (((xs 6).toInt64 <<< ((32 : Int32).toInt64 &&& 63)) ||| ((xs 7).toInt64 &&& (4294967295 : Int64))) (xs 8) ht : ev_E 188 [.ref 68, .int (xs 1), .int (xs 2), .long (((xs 3).toInt64 <<< ((32 : Int32).toInt64 &&& 63)) ||| ((xs 4).toInt64 &&& (4294967295 : Int64))), .int (xs 5), .long (((xs 6).toInt64 <<< ((32 : Int32).toInt64 &&& 63)) ||| ((xs 7).toInt64 &&& (4294967295 : Int64))), .int (xs 8)] mm_1 = some (some (.int (-1)), mm_2))) ?_
  refine qs (f := dm_ic_eq 1040 1263) rfl (dm_ic_eq_t (by first | rfl | decide)) ?_
  refine qs (f := dm_iinc 1266 4 9) rfl (rfl) ?_
  refine qs (f := dm_goto 23) rfl (rfl) ?_
  refine qs (f := dm_ild 25 4) rfl (rfl) ?_
  refine qs (f := dm_ald 26 0) rfl (rfl) ?_
  refine qs (f := dm_sln 27 9) rfl (rfl) ?_
  refine qs (f := dm_push 29 (.int 9)) rfl (rfl) ?_
  refine qs (f := dm_ii 30 (fun x y => x - y)) rfl (rfl) ?_
  refine qs (f := dm_ic_gt 33 1269) rfl (dm_ic_gt_t (by decide)) ?_
  refine qs (f := dm_push 1270 (.int 1)) rfl (rfl) ?_
  exact qr (f := dm_ret .boolean) rfl rfl
set_option maxRecDepth 100000 in
theorem lo_50 (xs : Nat → Int32) (f1 f2 : dm_Sem) (h : xs 0 &&& 31 = 19) (hP : ¬ okP (((xs 3).toInt64 <<< ((32 : Int32).toInt64 &&& 63)) ||| ((xs 4).toInt64 &&& (4294967295 : Int64))) (xs 5)) (zs : xs 1 = 0) (zt : xs 2 = 0) : ∃ M, dm_run ev_E (cdL 9 xs f1 f2) 1999976 (40, lvA, [.int (xs 0 &&& 31)]) ev_3 = some (some (.int 1), M) ∧ dm_bd M = true := by
  refine ⟨mm_17, ?_, bd_33⟩
  refine qs (f := dm_tsw 0 28 1263 [172, 183, 208, 233, 270, 295, 320, 357, 382, 419, 432, 469, 506, 543, 655, 774, 811, 860, 874, 887, 1042, 1067, 1092, 1161, 1186, 1199, 1212, 1225, 1238]) rfl (dm_tsw_at h rfl) ?_
  refine qs (f := dm_ald 888 1) rfl (rfl) ?_
  refine qs (f := dm_ald 889 0) rfl (rfl) ?_
  refine qs (f := dm_ild 891 4) rfl (rfl) ?_
  refine qs (f := dm_push 892 (.int 1)) rfl (rfl) ?_
  refine qs (f := dm_ii 893 (fun x y => x + y)) rfl (rfl) ?_
  refine qs (f := dm_sld 894 9 xs) rfl (dm_sld_ok (j := 1) (by decide) (by decide)) ?_
  refine qs (f := dm_ald 895 0) rfl (rfl) ?_
  refine qs (f := dm_ild 897 4) rfl (rfl) ?_
  refine qs (f := dm_push 898 (.int 2)) rfl (rfl) ?_
  refine qs (f := dm_ii 899 (fun x y => x + y)) rfl (rfl) ?_
  refine qs (f := dm_sld 900 9 xs) rfl (dm_sld_ok (j := 2) (by decide) (by decide)) ?_
  refine qs (f := dm_ald 901 0) rfl (rfl) ?_
  refine qs (f := dm_ild 903 4) rfl (rfl) ?_
  refine qs (f := dm_push 904 (.int 3)) rfl (rfl) ?_
  refine qs (f := dm_ii 905 (fun x y => x + y)) rfl (rfl) ?_
  refine qs (f := dm_sld 906 9 xs) rfl (dm_sld_ok (j := 3) (by decide) (by decide)) ?_
  refine qs (f := dm_i1 907 (fun x => .long x.toInt64)) rfl (rfl) ?_
  refine qs (f := dm_push 909 (.int 32)) rfl (rfl) ?_
  refine qs (f := dm_li 910 (fun x y => x <<< (y.toInt64 &&& 63))) rfl (rfl) ?_
  refine qs (f := dm_ald 911 0) rfl (rfl) ?_
  refine qs (f := dm_ild 913 4) rfl (rfl) ?_
  refine qs (f := dm_push 914 (.int 4)) rfl (rfl) ?_
  refine qs (f := dm_ii 915 (fun x y => x + y)) rfl (rfl) ?_
  refine qs (f := dm_sld 916 9 xs) rfl (dm_sld_ok (j := 4) (by decide) (by decide)) ?_
  refine qs (f := dm_i1 917 (fun x => .long x.toInt64)) rfl (rfl) ?_
  refine qs (f := dm_push 920 (.long 4294967295)) rfl (rfl) ?_
  refine qs (f := dm_ll 921 (fun x y => x &&& y)) rfl (rfl) ?_
  refine qs (f := dm_ll 922 (fun x y => x ||| y)) rfl (rfl) ?_
  refine qs (f := dm_ald 923 0) rfl (rfl) ?_
  refine qs (f := dm_ild 925 4) rfl (rfl) ?_
  refine qs (f := dm_push 926 (.int 5)) rfl (rfl) ?_
  refine qs (f := dm_ii 927 (fun x y => x + y)) rfl (rfl) ?_
  refine qs (f := dm_sld 928 9 xs) rfl (dm_sld_ok (j := 5) (by decide) (by decide)) ?_
  refine qs (f := dm_ald 929 0) rfl (rfl) ?_
  refine qs (f := dm_ild 931 4) rfl (rfl) ?_
  refine qs (f := dm_push 933 (.int 6)) rfl (rfl) ?_
  refine qs (f := dm_ii 934 (fun x y => x + y)) rfl (rfl) ?_
  refine qs (f := dm_sld 935 9 xs) rfl (dm_sld_ok (j := 6) (by decide) (by decide)) ?_
  refine qs (f := dm_i1 936 (fun x => .long x.toInt64)) rfl (rfl) ?_
  refine qs (f := dm_push 938 (.int 32)) rfl (rfl) ?_
  refine qs (f := dm_li 939 (fun x y => x <<< (y.toInt64 &&& 63))) rfl (rfl) ?_
  refine qs (f := dm_ald 940 0) rfl (rfl) ?_
  refine qs (f := dm_ild 942 4) rfl (rfl) ?_
  refine qs (f := dm_push 944 (.int 7)) rfl (rfl) ?_
  refine qs (f := dm_ii 945 (fun x y => x + y)) rfl (rfl) ?_
  refine qs (f := dm_sld 946 9 xs) rfl (dm_sld_ok (j := 7) (by decide) (by decide)) ?_
  refine qs (f := dm_i1 947 (fun x => .long x.toInt64)) rfl (rfl) ?_
  refine qs (f := dm_push 950 (.long 4294967295)) rfl (rfl) ?_
  refine qs (f := dm_ll 951 (fun x y => x &&& y)) rfl (rfl) ?_
  refine qs (f := dm_ll 952 (fun x y => x ||| y)) rfl (rfl) ?_
  refine qs (f := dm_ald 953 0) rfl (rfl) ?_
  refine qs (f := dm_ild 955 4) rfl (rfl) ?_
  refine qs (f := dm_push 957 (.int 8)) rfl (rfl) ?_
  refine qs (f := dm_ii 958 (fun x y => x + y)) rfl (rfl) ?_
  refine qs (f := dm_sld 959 9 xs) rfl (dm_sld_ok (j := 8) (by decide) (by decide)) ?_
  refine qc (f := dm_inv 962 114 6 7) rfl (dm_inv_ok io_0 rfl (Nat.le_of_ble_eq_true rfl)) ((by rw [zs, zt]; exact sy_84 (((xs 3).toInt64 <<< ((32 : Int32).toInt64 &&& 63)) ||| ((xs 4).toInt64 &&& (4294967295 : Int64))) (xs 5) (((xs 6).toInt64 <<< ((32 : Int32).toInt64 &&& 63)) ||| ((xs 7).toInt64 &&& (4294967295 : Int64))) (xs 8) hP : ev_E 114 [.ref 0, .int (xs 1), .int (xs 2), .long (((xs 3).toInt64 <<< ((32 : Int32).toInt64 &&& 63)) ||| ((xs 4).toInt64 &&& (4294967295 : Int64))), .int (xs 5), .long (((xs 6).toInt64 <<< ((32 : Int32).toInt64 &&& 63)) ||| ((xs 7).toInt64 &&& (4294967295 : Int64))), .int (xs 8)] ev_3 = some (some (.int (-1)), mm_15))) ?_
  refine qs (f := dm_ald 963 2) rfl (rfl) ?_
  refine qs (f := dm_ald 964 0) rfl (rfl) ?_
  refine qs (f := dm_ild 966 4) rfl (rfl) ?_
  refine qs (f := dm_push 967 (.int 1)) rfl (rfl) ?_
  refine qs (f := dm_ii 968 (fun x y => x + y)) rfl (rfl) ?_
  refine qs (f := dm_sld 969 9 xs) rfl (dm_sld_ok (j := 1) (by decide) (by decide)) ?_
  refine qs (f := dm_ald 970 0) rfl (rfl) ?_
  refine qs (f := dm_ild 972 4) rfl (rfl) ?_
  refine qs (f := dm_push 973 (.int 2)) rfl (rfl) ?_
  refine qs (f := dm_ii 974 (fun x y => x + y)) rfl (rfl) ?_
  refine qs (f := dm_sld 975 9 xs) rfl (dm_sld_ok (j := 2) (by decide) (by decide)) ?_
  refine qs (f := dm_ald 976 0) rfl (rfl) ?_
  refine qs (f := dm_ild 978 4) rfl (rfl) ?_
  refine qs (f := dm_push 979 (.int 3)) rfl (rfl) ?_
  refine qs (f := dm_ii 980 (fun x y => x + y)) rfl (rfl) ?_
  refine qs (f := dm_sld 981 9 xs) rfl (dm_sld_ok (j := 3) (by decide) (by decide)) ?_
  refine qs (f := dm_i1 982 (fun x => .long x.toInt64)) rfl (rfl) ?_
  refine qs (f := dm_push 984 (.int 32)) rfl (rfl) ?_
  refine qs (f := dm_li 985 (fun x y => x <<< (y.toInt64 &&& 63))) rfl (rfl) ?_
  refine qs (f := dm_ald 986 0) rfl (rfl) ?_
  refine qs (f := dm_ild 988 4) rfl (rfl) ?_
  refine qs (f := dm_push 989 (.int 4)) rfl (rfl) ?_
  refine qs (f := dm_ii 990 (fun x y => x + y)) rfl (rfl) ?_
  refine qs (f := dm_sld 991 9 xs) rfl (dm_sld_ok (j := 4) (by decide) (by decide)) ?_
  refine qs (f := dm_i1 992 (fun x => .long x.toInt64)) rfl (rfl) ?_
  refine qs (f := dm_push 995 (.long 4294967295)) rfl (rfl) ?_
  refine qs (f := dm_ll 996 (fun x y => x &&& y)) rfl (rfl) ?_
  refine qs (f := dm_ll 997 (fun x y => x ||| y)) rfl (rfl) ?_
  refine qs (f := dm_ald 998 0) rfl (rfl) ?_
  refine qs (f := dm_ild 1000 4) rfl (rfl) ?_
  refine qs (f := dm_push 1001 (.int 5)) rfl (rfl) ?_
  refine qs (f := dm_ii 1002 (fun x y => x + y)) rfl (rfl) ?_
  refine qs (f := dm_sld 1003 9 xs) rfl (dm_sld_ok (j := 5) (by decide) (by decide)) ?_
  refine qs (f := dm_ald 1004 0) rfl (rfl) ?_
  refine qs (f := dm_ild 1006 4) rfl (rfl) ?_
  refine qs (f := dm_push 1008 (.int 6)) rfl (rfl) ?_
  refine qs (f := dm_ii 1009 (fun x y => x + y)) rfl (rfl) ?_
  refine qs (f := dm_sld 1010 9 xs) rfl (dm_sld_ok (j := 6) (by decide) (by decide)) ?_
  refine qs (f := dm_i1 1011 (fun x => .long x.toInt64)) rfl (rfl) ?_
  refine qs (f := dm_push 1013 (.int 32)) rfl (rfl) ?_
  refine qs (f := dm_li 1014 (fun x y => x <<< (y.toInt64 &&& 63))) rfl (rfl) ?_
  refine qs (f := dm_ald 1015 0) rfl (rfl) ?_
  refine qs (f := dm_ild 1017 4) rfl (rfl) ?_
  refine qs (f := dm_push 1019 (.int 7)) rfl (rfl) ?_
  refine qs (f := dm_ii 1020 (fun x y => x + y)) rfl (rfl) ?_
  refine qs (f := dm_sld 1021 9 xs) rfl (dm_sld_ok (j := 7) (by decide) (by decide)) ?_
  refine qs (f := dm_i1 1022 (fun x => .long x.toInt64)) rfl (rfl) ?_
  refine qs (f := dm_push 1025 (.long 4294967295)) rfl (rfl) ?_
  refine qs (f := dm_ll 1026 (fun x y => x &&& y)) rfl (rfl) ?_
  refine qs (f := dm_ll 1027 (fun x y => x ||| y)) rfl (rfl) ?_
  refine qs (f := dm_ald 1028 0) rfl (rfl) ?_
  refine qs (f := dm_ild 1030 4) rfl (rfl) ?_
  refine qs (f := dm_push 1032 (.int 8)) rfl (rfl) ?_
  refine qs (f := dm_ii 1033 (fun x y => x + y)) rfl (rfl) ?_
  refine qs (f := dm_sld 1034 9 xs) rfl (dm_sld_ok (j := 8) (by decide) (by decide)) ?_
  refine qc (f := dm_inv 1037 188 6 8) rfl (dm_inv_ok io_33 rfl (Nat.le_of_ble_eq_true rfl)) ((by rw [zs, zt]; exact sy_86 (((xs 3).toInt64 <<< ((32 : Int32).toInt64 &&& 63)) ||| ((xs 4).toInt64 &&& (4294967295 : Int64))) (xs 5) (((xs 6).toInt64 <<< ((32 : Int32).toInt64 &&& 63)) ||| ((xs 7).toInt64 &&& (4294967295 : Int64))) (xs 8) hP : ev_E 188 [.ref 68, .int (xs 1), .int (xs 2), .long (((xs 3).toInt64 <<< ((32 : Int32).toInt64 &&& 63)) ||| ((xs 4).toInt64 &&& (4294967295 : Int64))), .int (xs 5), .long (((xs 6).toInt64 <<< ((32 : Int32).toInt64 &&& 63)) ||| ((xs 7).toInt64 &&& (4294967295 : Int64))), .int (xs 8)] mm_15 = some (some (.int (-1)), mm_17))) ?_
  refine qs (f := dm_ic_eq 1040 1263) rfl (dm_ic_eq_t (by first | rfl | decide)) ?_
  refine qs (f := dm_iinc 1266 4 9) rfl (rfl) ?_
  refine qs (f := dm_goto 23) rfl (rfl) ?_
  refine qs (f := dm_ild 25 4) rfl (rfl) ?_
  refine qs (f := dm_ald 26 0) rfl (rfl) ?_
  refine qs (f := dm_sln 27 9) rfl (rfl) ?_
  refine qs (f := dm_push 29 (.int 9)) rfl (rfl) ?_
  refine qs (f := dm_ii 30 (fun x y => x - y)) rfl (rfl) ?_
  refine qs (f := dm_ic_gt 33 1269) rfl (dm_ic_gt_t (by decide)) ?_
  refine qs (f := dm_push 1270 (.int 1)) rfl (rfl) ?_
  exact qr (f := dm_ret .boolean) rfl rfl
set_option maxRecDepth 100000 in
theorem lo_51 (xs : Nat → Int32) (f1 f2 : dm_Sem) (h : xs 0 &&& 31 = 19) (hP : okP (((xs 3).toInt64 <<< ((32 : Int32).toInt64 &&& 63)) ||| ((xs 4).toInt64 &&& (4294967295 : Int64))) (xs 5)) (hQ : ¬ okP (((xs 6).toInt64 <<< ((32 : Int32).toInt64 &&& 63)) ||| ((xs 7).toInt64 &&& (4294967295 : Int64))) (xs 8)) (zs : xs 1 = 0) (zt : xs 2 = 0) : ∃ M, dm_run ev_E (cdL 9 xs f1 f2) 1999976 (40, lvA, [.int (xs 0 &&& 31)]) ev_3 = some (some (.int 1), M) ∧ dm_bd M = true := by
  refine ⟨mm_17, ?_, bd_33⟩
  refine qs (f := dm_tsw 0 28 1263 [172, 183, 208, 233, 270, 295, 320, 357, 382, 419, 432, 469, 506, 543, 655, 774, 811, 860, 874, 887, 1042, 1067, 1092, 1161, 1186, 1199, 1212, 1225, 1238]) rfl (dm_tsw_at h rfl) ?_
  refine qs (f := dm_ald 888 1) rfl (rfl) ?_
  refine qs (f := dm_ald 889 0) rfl (rfl) ?_
  refine qs (f := dm_ild 891 4) rfl (rfl) ?_
  refine qs (f := dm_push 892 (.int 1)) rfl (rfl) ?_
  refine qs (f := dm_ii 893 (fun x y => x + y)) rfl (rfl) ?_
  refine qs (f := dm_sld 894 9 xs) rfl (dm_sld_ok (j := 1) (by decide) (by decide)) ?_
  refine qs (f := dm_ald 895 0) rfl (rfl) ?_
  refine qs (f := dm_ild 897 4) rfl (rfl) ?_
  refine qs (f := dm_push 898 (.int 2)) rfl (rfl) ?_
  refine qs (f := dm_ii 899 (fun x y => x + y)) rfl (rfl) ?_
  refine qs (f := dm_sld 900 9 xs) rfl (dm_sld_ok (j := 2) (by decide) (by decide)) ?_
  refine qs (f := dm_ald 901 0) rfl (rfl) ?_
  refine qs (f := dm_ild 903 4) rfl (rfl) ?_
  refine qs (f := dm_push 904 (.int 3)) rfl (rfl) ?_
  refine qs (f := dm_ii 905 (fun x y => x + y)) rfl (rfl) ?_
  refine qs (f := dm_sld 906 9 xs) rfl (dm_sld_ok (j := 3) (by decide) (by decide)) ?_
  refine qs (f := dm_i1 907 (fun x => .long x.toInt64)) rfl (rfl) ?_
  refine qs (f := dm_push 909 (.int 32)) rfl (rfl) ?_
  refine qs (f := dm_li 910 (fun x y => x <<< (y.toInt64 &&& 63))) rfl (rfl) ?_
  refine qs (f := dm_ald 911 0) rfl (rfl) ?_
  refine qs (f := dm_ild 913 4) rfl (rfl) ?_
  refine qs (f := dm_push 914 (.int 4)) rfl (rfl) ?_
  refine qs (f := dm_ii 915 (fun x y => x + y)) rfl (rfl) ?_
  refine qs (f := dm_sld 916 9 xs) rfl (dm_sld_ok (j := 4) (by decide) (by decide)) ?_
  refine qs (f := dm_i1 917 (fun x => .long x.toInt64)) rfl (rfl) ?_
  refine qs (f := dm_push 920 (.long 4294967295)) rfl (rfl) ?_
  refine qs (f := dm_ll 921 (fun x y => x &&& y)) rfl (rfl) ?_
  refine qs (f := dm_ll 922 (fun x y => x ||| y)) rfl (rfl) ?_
  refine qs (f := dm_ald 923 0) rfl (rfl) ?_
  refine qs (f := dm_ild 925 4) rfl (rfl) ?_
  refine qs (f := dm_push 926 (.int 5)) rfl (rfl) ?_
  refine qs (f := dm_ii 927 (fun x y => x + y)) rfl (rfl) ?_
  refine qs (f := dm_sld 928 9 xs) rfl (dm_sld_ok (j := 5) (by decide) (by decide)) ?_
  refine qs (f := dm_ald 929 0) rfl (rfl) ?_
  refine qs (f := dm_ild 931 4) rfl (rfl) ?_
  refine qs (f := dm_push 933 (.int 6)) rfl (rfl) ?_
  refine qs (f := dm_ii 934 (fun x y => x + y)) rfl (rfl) ?_
  refine qs (f := dm_sld 935 9 xs) rfl (dm_sld_ok (j := 6) (by decide) (by decide)) ?_
  refine qs (f := dm_i1 936 (fun x => .long x.toInt64)) rfl (rfl) ?_
  refine qs (f := dm_push 938 (.int 32)) rfl (rfl) ?_
  refine qs (f := dm_li 939 (fun x y => x <<< (y.toInt64 &&& 63))) rfl (rfl) ?_
  refine qs (f := dm_ald 940 0) rfl (rfl) ?_
  refine qs (f := dm_ild 942 4) rfl (rfl) ?_
  refine qs (f := dm_push 944 (.int 7)) rfl (rfl) ?_
  refine qs (f := dm_ii 945 (fun x y => x + y)) rfl (rfl) ?_
  refine qs (f := dm_sld 946 9 xs) rfl (dm_sld_ok (j := 7) (by decide) (by decide)) ?_
  refine qs (f := dm_i1 947 (fun x => .long x.toInt64)) rfl (rfl) ?_
  refine qs (f := dm_push 950 (.long 4294967295)) rfl (rfl) ?_
  refine qs (f := dm_ll 951 (fun x y => x &&& y)) rfl (rfl) ?_
  refine qs (f := dm_ll 952 (fun x y => x ||| y)) rfl (rfl) ?_
  refine qs (f := dm_ald 953 0) rfl (rfl) ?_
  refine qs (f := dm_ild 955 4) rfl (rfl) ?_
  refine qs (f := dm_push 957 (.int 8)) rfl (rfl) ?_
  refine qs (f := dm_ii 958 (fun x y => x + y)) rfl (rfl) ?_
  refine qs (f := dm_sld 959 9 xs) rfl (dm_sld_ok (j := 8) (by decide) (by decide)) ?_
  refine qc (f := dm_inv 962 114 6 7) rfl (dm_inv_ok io_0 rfl (Nat.le_of_ble_eq_true rfl)) ((by rw [zs, zt]; exact sy_89 (((xs 3).toInt64 <<< ((32 : Int32).toInt64 &&& 63)) ||| ((xs 4).toInt64 &&& (4294967295 : Int64))) (xs 5) (((xs 6).toInt64 <<< ((32 : Int32).toInt64 &&& 63)) ||| ((xs 7).toInt64 &&& (4294967295 : Int64))) (xs 8) hP hQ : ev_E 114 [.ref 0, .int (xs 1), .int (xs 2), .long (((xs 3).toInt64 <<< ((32 : Int32).toInt64 &&& 63)) ||| ((xs 4).toInt64 &&& (4294967295 : Int64))), .int (xs 5), .long (((xs 6).toInt64 <<< ((32 : Int32).toInt64 &&& 63)) ||| ((xs 7).toInt64 &&& (4294967295 : Int64))), .int (xs 8)] ev_3 = some (some (.int (-1)), mm_15))) ?_
  refine qs (f := dm_ald 963 2) rfl (rfl) ?_
  refine qs (f := dm_ald 964 0) rfl (rfl) ?_
  refine qs (f := dm_ild 966 4) rfl (rfl) ?_
  refine qs (f := dm_push 967 (.int 1)) rfl (rfl) ?_
  refine qs (f := dm_ii 968 (fun x y => x + y)) rfl (rfl) ?_
  refine qs (f := dm_sld 969 9 xs) rfl (dm_sld_ok (j := 1) (by decide) (by decide)) ?_
  refine qs (f := dm_ald 970 0) rfl (rfl) ?_
  refine qs (f := dm_ild 972 4) rfl (rfl) ?_
  refine qs (f := dm_push 973 (.int 2)) rfl (rfl) ?_
  refine qs (f := dm_ii 974 (fun x y => x + y)) rfl (rfl) ?_
  refine qs (f := dm_sld 975 9 xs) rfl (dm_sld_ok (j := 2) (by decide) (by decide)) ?_
  refine qs (f := dm_ald 976 0) rfl (rfl) ?_
  refine qs (f := dm_ild 978 4) rfl (rfl) ?_
  refine qs (f := dm_push 979 (.int 3)) rfl (rfl) ?_
  refine qs (f := dm_ii 980 (fun x y => x + y)) rfl (rfl) ?_
  refine qs (f := dm_sld 981 9 xs) rfl (dm_sld_ok (j := 3) (by decide) (by decide)) ?_
  refine qs (f := dm_i1 982 (fun x => .long x.toInt64)) rfl (rfl) ?_
  refine qs (f := dm_push 984 (.int 32)) rfl (rfl) ?_
  refine qs (f := dm_li 985 (fun x y => x <<< (y.toInt64 &&& 63))) rfl (rfl) ?_
  refine qs (f := dm_ald 986 0) rfl (rfl) ?_
  refine qs (f := dm_ild 988 4) rfl (rfl) ?_
  refine qs (f := dm_push 989 (.int 4)) rfl (rfl) ?_
  refine qs (f := dm_ii 990 (fun x y => x + y)) rfl (rfl) ?_
  refine qs (f := dm_sld 991 9 xs) rfl (dm_sld_ok (j := 4) (by decide) (by decide)) ?_
  refine qs (f := dm_i1 992 (fun x => .long x.toInt64)) rfl (rfl) ?_
  refine qs (f := dm_push 995 (.long 4294967295)) rfl (rfl) ?_
  refine qs (f := dm_ll 996 (fun x y => x &&& y)) rfl (rfl) ?_
  refine qs (f := dm_ll 997 (fun x y => x ||| y)) rfl (rfl) ?_
  refine qs (f := dm_ald 998 0) rfl (rfl) ?_
  refine qs (f := dm_ild 1000 4) rfl (rfl) ?_
  refine qs (f := dm_push 1001 (.int 5)) rfl (rfl) ?_
  refine qs (f := dm_ii 1002 (fun x y => x + y)) rfl (rfl) ?_
  refine qs (f := dm_sld 1003 9 xs) rfl (dm_sld_ok (j := 5) (by decide) (by decide)) ?_
  refine qs (f := dm_ald 1004 0) rfl (rfl) ?_
  refine qs (f := dm_ild 1006 4) rfl (rfl) ?_
  refine qs (f := dm_push 1008 (.int 6)) rfl (rfl) ?_
  refine qs (f := dm_ii 1009 (fun x y => x + y)) rfl (rfl) ?_
  refine qs (f := dm_sld 1010 9 xs) rfl (dm_sld_ok (j := 6) (by decide) (by decide)) ?_
  refine qs (f := dm_i1 1011 (fun x => .long x.toInt64)) rfl (rfl) ?_
  refine qs (f := dm_push 1013 (.int 32)) rfl (rfl) ?_
  refine qs (f := dm_li 1014 (fun x y => x <<< (y.toInt64 &&& 63))) rfl (rfl) ?_
  refine qs (f := dm_ald 1015 0) rfl (rfl) ?_
  refine qs (f := dm_ild 1017 4) rfl (rfl) ?_
  refine qs (f := dm_push 1019 (.int 7)) rfl (rfl) ?_
  refine qs (f := dm_ii 1020 (fun x y => x + y)) rfl (rfl) ?_
  refine qs (f := dm_sld 1021 9 xs) rfl (dm_sld_ok (j := 7) (by decide) (by decide)) ?_
  refine qs (f := dm_i1 1022 (fun x => .long x.toInt64)) rfl (rfl) ?_
  refine qs (f := dm_push 1025 (.long 4294967295)) rfl (rfl) ?_
  refine qs (f := dm_ll 1026 (fun x y => x &&& y)) rfl (rfl) ?_
  refine qs (f := dm_ll 1027 (fun x y => x ||| y)) rfl (rfl) ?_
  refine qs (f := dm_ald 1028 0) rfl (rfl) ?_
  refine qs (f := dm_ild 1030 4) rfl (rfl) ?_
  refine qs (f := dm_push 1032 (.int 8)) rfl (rfl) ?_
  refine qs (f := dm_ii 1033 (fun x y => x + y)) rfl (rfl) ?_
  refine qs (f := dm_sld 1034 9 xs) rfl (dm_sld_ok (j := 8) (by decide) (by decide)) ?_
  refine qc (f := dm_inv 1037 188 6 8) rfl (dm_inv_ok io_33 rfl (Nat.le_of_ble_eq_true rfl)) ((by rw [zs, zt]; exact sy_92 (((xs 3).toInt64 <<< ((32 : Int32).toInt64 &&& 63)) ||| ((xs 4).toInt64 &&& (4294967295 : Int64))) (xs 5) (((xs 6).toInt64 <<< ((32 : Int32).toInt64 &&& 63)) ||| ((xs 7).toInt64 &&& (4294967295 : Int64))) (xs 8) hP hQ : ev_E 188 [.ref 68, .int (xs 1), .int (xs 2), .long (((xs 3).toInt64 <<< ((32 : Int32).toInt64 &&& 63)) ||| ((xs 4).toInt64 &&& (4294967295 : Int64))), .int (xs 5), .long (((xs 6).toInt64 <<< ((32 : Int32).toInt64 &&& 63)) ||| ((xs 7).toInt64 &&& (4294967295 : Int64))), .int (xs 8)] mm_15 = some (some (.int (-1)), mm_17))) ?_
  refine qs (f := dm_ic_eq 1040 1263) rfl (dm_ic_eq_t (by first | rfl | decide)) ?_
  refine qs (f := dm_iinc 1266 4 9) rfl (rfl) ?_
  refine qs (f := dm_goto 23) rfl (rfl) ?_
  refine qs (f := dm_ild 25 4) rfl (rfl) ?_
  refine qs (f := dm_ald 26 0) rfl (rfl) ?_
  refine qs (f := dm_sln 27 9) rfl (rfl) ?_
  refine qs (f := dm_push 29 (.int 9)) rfl (rfl) ?_
  refine qs (f := dm_ii 30 (fun x y => x - y)) rfl (rfl) ?_
  refine qs (f := dm_ic_gt 33 1269) rfl (dm_ic_gt_t (by decide)) ?_
  refine qs (f := dm_push 1270 (.int 1)) rfl (rfl) ?_
  exact qr (f := dm_ret .boolean) rfl rfl
set_option maxRecDepth 100000 in
theorem lo_52 (xs : Nat → Int32) (f1 f2 : dm_Sem) (h : xs 0 &&& 31 = 19) (hP : okP (((xs 3).toInt64 <<< ((32 : Int32).toInt64 &&& 63)) ||| ((xs 4).toInt64 &&& (4294967295 : Int64))) (xs 5)) (hQ : okP (((xs 6).toInt64 <<< ((32 : Int32).toInt64 &&& 63)) ||| ((xs 7).toInt64 &&& (4294967295 : Int64))) (xs 8)) (zs : xs 1 = 0) (zt : xs 2 = 0) : ∃ M, dm_run ev_E (cdL 9 xs f1 f2) 1999976 (40, lvA, [.int (xs 0 &&& 31)]) ev_3 = some (some (.int 1), M) ∧ dm_bd M = true := by
  refine ⟨mm_25, ?_, bd_34⟩
  refine qs (f := dm_tsw 0 28 1263 [172, 183, 208, 233, 270, 295, 320, 357, 382, 419, 432, 469, 506, 543, 655, 774, 811, 860, 874, 887, 1042, 1067, 1092, 1161, 1186, 1199, 1212, 1225, 1238]) rfl (dm_tsw_at h rfl) ?_
  refine qs (f := dm_ald 888 1) rfl (rfl) ?_
  refine qs (f := dm_ald 889 0) rfl (rfl) ?_
  refine qs (f := dm_ild 891 4) rfl (rfl) ?_
  refine qs (f := dm_push 892 (.int 1)) rfl (rfl) ?_
  refine qs (f := dm_ii 893 (fun x y => x + y)) rfl (rfl) ?_
  refine qs (f := dm_sld 894 9 xs) rfl (dm_sld_ok (j := 1) (by decide) (by decide)) ?_
  refine qs (f := dm_ald 895 0) rfl (rfl) ?_
  refine qs (f := dm_ild 897 4) rfl (rfl) ?_
  refine qs (f := dm_push 898 (.int 2)) rfl (rfl) ?_
  refine qs (f := dm_ii 899 (fun x y => x + y)) rfl (rfl) ?_
  refine qs (f := dm_sld 900 9 xs) rfl (dm_sld_ok (j := 2) (by decide) (by decide)) ?_
  refine qs (f := dm_ald 901 0) rfl (rfl) ?_
  refine qs (f := dm_ild 903 4) rfl (rfl) ?_
  refine qs (f := dm_push 904 (.int 3)) rfl (rfl) ?_
  refine qs (f := dm_ii 905 (fun x y => x + y)) rfl (rfl) ?_
  refine qs (f := dm_sld 906 9 xs) rfl (dm_sld_ok (j := 3) (by decide) (by decide)) ?_
  refine qs (f := dm_i1 907 (fun x => .long x.toInt64)) rfl (rfl) ?_
  refine qs (f := dm_push 909 (.int 32)) rfl (rfl) ?_
  refine qs (f := dm_li 910 (fun x y => x <<< (y.toInt64 &&& 63))) rfl (rfl) ?_
  refine qs (f := dm_ald 911 0) rfl (rfl) ?_
  refine qs (f := dm_ild 913 4) rfl (rfl) ?_
  refine qs (f := dm_push 914 (.int 4)) rfl (rfl) ?_
  refine qs (f := dm_ii 915 (fun x y => x + y)) rfl (rfl) ?_
  refine qs (f := dm_sld 916 9 xs) rfl (dm_sld_ok (j := 4) (by decide) (by decide)) ?_
  refine qs (f := dm_i1 917 (fun x => .long x.toInt64)) rfl (rfl) ?_
  refine qs (f := dm_push 920 (.long 4294967295)) rfl (rfl) ?_
  refine qs (f := dm_ll 921 (fun x y => x &&& y)) rfl (rfl) ?_
  refine qs (f := dm_ll 922 (fun x y => x ||| y)) rfl (rfl) ?_
  refine qs (f := dm_ald 923 0) rfl (rfl) ?_
  refine qs (f := dm_ild 925 4) rfl (rfl) ?_
  refine qs (f := dm_push 926 (.int 5)) rfl (rfl) ?_
  refine qs (f := dm_ii 927 (fun x y => x + y)) rfl (rfl) ?_
  refine qs (f := dm_sld 928 9 xs) rfl (dm_sld_ok (j := 5) (by decide) (by decide)) ?_
  refine qs (f := dm_ald 929 0) rfl (rfl) ?_
  refine qs (f := dm_ild 931 4) rfl (rfl) ?_
  refine qs (f := dm_push 933 (.int 6)) rfl (rfl) ?_
  refine qs (f := dm_ii 934 (fun x y => x + y)) rfl (rfl) ?_
  refine qs (f := dm_sld 935 9 xs) rfl (dm_sld_ok (j := 6) (by decide) (by decide)) ?_
  refine qs (f := dm_i1 936 (fun x => .long x.toInt64)) rfl (rfl) ?_
  refine qs (f := dm_push 938 (.int 32)) rfl (rfl) ?_
  refine qs (f := dm_li 939 (fun x y => x <<< (y.toInt64 &&& 63))) rfl (rfl) ?_
  refine qs (f := dm_ald 940 0) rfl (rfl) ?_
  refine qs (f := dm_ild 942 4) rfl (rfl) ?_
  refine qs (f := dm_push 944 (.int 7)) rfl (rfl) ?_
  refine qs (f := dm_ii 945 (fun x y => x + y)) rfl (rfl) ?_
  refine qs (f := dm_sld 946 9 xs) rfl (dm_sld_ok (j := 7) (by decide) (by decide)) ?_
  refine qs (f := dm_i1 947 (fun x => .long x.toInt64)) rfl (rfl) ?_
  refine qs (f := dm_push 950 (.long 4294967295)) rfl (rfl) ?_
  refine qs (f := dm_ll 951 (fun x y => x &&& y)) rfl (rfl) ?_
  refine qs (f := dm_ll 952 (fun x y => x ||| y)) rfl (rfl) ?_
  refine qs (f := dm_ald 953 0) rfl (rfl) ?_
  refine qs (f := dm_ild 955 4) rfl (rfl) ?_
  refine qs (f := dm_push 957 (.int 8)) rfl (rfl) ?_
  refine qs (f := dm_ii 958 (fun x y => x + y)) rfl (rfl) ?_
  refine qs (f := dm_sld 959 9 xs) rfl (dm_sld_ok (j := 8) (by decide) (by decide)) ?_
  refine qc (f := dm_inv 962 114 6 7) rfl (dm_inv_ok io_0 rfl (Nat.le_of_ble_eq_true rfl)) ((by rw [zs, zt]; exact sy_98 (((xs 3).toInt64 <<< ((32 : Int32).toInt64 &&& 63)) ||| ((xs 4).toInt64 &&& (4294967295 : Int64))) (xs 5) (((xs 6).toInt64 <<< ((32 : Int32).toInt64 &&& 63)) ||| ((xs 7).toInt64 &&& (4294967295 : Int64))) (xs 8) hP hQ : ev_E 114 [.ref 0, .int (xs 1), .int (xs 2), .long (((xs 3).toInt64 <<< ((32 : Int32).toInt64 &&& 63)) ||| ((xs 4).toInt64 &&& (4294967295 : Int64))), .int (xs 5), .long (((xs 6).toInt64 <<< ((32 : Int32).toInt64 &&& 63)) ||| ((xs 7).toInt64 &&& (4294967295 : Int64))), .int (xs 8)] ev_3 = some (some (.int 1), mm_23))) ?_
  refine qs (f := dm_ald 963 2) rfl (rfl) ?_
  refine qs (f := dm_ald 964 0) rfl (rfl) ?_
  refine qs (f := dm_ild 966 4) rfl (rfl) ?_
  refine qs (f := dm_push 967 (.int 1)) rfl (rfl) ?_
  refine qs (f := dm_ii 968 (fun x y => x + y)) rfl (rfl) ?_
  refine qs (f := dm_sld 969 9 xs) rfl (dm_sld_ok (j := 1) (by decide) (by decide)) ?_
  refine qs (f := dm_ald 970 0) rfl (rfl) ?_
  refine qs (f := dm_ild 972 4) rfl (rfl) ?_
  refine qs (f := dm_push 973 (.int 2)) rfl (rfl) ?_
  refine qs (f := dm_ii 974 (fun x y => x + y)) rfl (rfl) ?_
  refine qs (f := dm_sld 975 9 xs) rfl (dm_sld_ok (j := 2) (by decide) (by decide)) ?_
  refine qs (f := dm_ald 976 0) rfl (rfl) ?_
  refine qs (f := dm_ild 978 4) rfl (rfl) ?_
  refine qs (f := dm_push 979 (.int 3)) rfl (rfl) ?_
  refine qs (f := dm_ii 980 (fun x y => x + y)) rfl (rfl) ?_
  refine qs (f := dm_sld 981 9 xs) rfl (dm_sld_ok (j := 3) (by decide) (by decide)) ?_
  refine qs (f := dm_i1 982 (fun x => .long x.toInt64)) rfl (rfl) ?_
  refine qs (f := dm_push 984 (.int 32)) rfl (rfl) ?_
  refine qs (f := dm_li 985 (fun x y => x <<< (y.toInt64 &&& 63))) rfl (rfl) ?_
  refine qs (f := dm_ald 986 0) rfl (rfl) ?_
  refine qs (f := dm_ild 988 4) rfl (rfl) ?_
  refine qs (f := dm_push 989 (.int 4)) rfl (rfl) ?_
  refine qs (f := dm_ii 990 (fun x y => x + y)) rfl (rfl) ?_
  refine qs (f := dm_sld 991 9 xs) rfl (dm_sld_ok (j := 4) (by decide) (by decide)) ?_
  refine qs (f := dm_i1 992 (fun x => .long x.toInt64)) rfl (rfl) ?_
  refine qs (f := dm_push 995 (.long 4294967295)) rfl (rfl) ?_
  refine qs (f := dm_ll 996 (fun x y => x &&& y)) rfl (rfl) ?_
  refine qs (f := dm_ll 997 (fun x y => x ||| y)) rfl (rfl) ?_
  refine qs (f := dm_ald 998 0) rfl (rfl) ?_
  refine qs (f := dm_ild 1000 4) rfl (rfl) ?_
  refine qs (f := dm_push 1001 (.int 5)) rfl (rfl) ?_
  refine qs (f := dm_ii 1002 (fun x y => x + y)) rfl (rfl) ?_
  refine qs (f := dm_sld 1003 9 xs) rfl (dm_sld_ok (j := 5) (by decide) (by decide)) ?_
  refine qs (f := dm_ald 1004 0) rfl (rfl) ?_
  refine qs (f := dm_ild 1006 4) rfl (rfl) ?_
  refine qs (f := dm_push 1008 (.int 6)) rfl (rfl) ?_
  refine qs (f := dm_ii 1009 (fun x y => x + y)) rfl (rfl) ?_
  refine qs (f := dm_sld 1010 9 xs) rfl (dm_sld_ok (j := 6) (by decide) (by decide)) ?_
  refine qs (f := dm_i1 1011 (fun x => .long x.toInt64)) rfl (rfl) ?_
  refine qs (f := dm_push 1013 (.int 32)) rfl (rfl) ?_
  refine qs (f := dm_li 1014 (fun x y => x <<< (y.toInt64 &&& 63))) rfl (rfl) ?_
  refine qs (f := dm_ald 1015 0) rfl (rfl) ?_
  refine qs (f := dm_ild 1017 4) rfl (rfl) ?_
  refine qs (f := dm_push 1019 (.int 7)) rfl (rfl) ?_
  refine qs (f := dm_ii 1020 (fun x y => x + y)) rfl (rfl) ?_
  refine qs (f := dm_sld 1021 9 xs) rfl (dm_sld_ok (j := 7) (by decide) (by decide)) ?_
  refine qs (f := dm_i1 1022 (fun x => .long x.toInt64)) rfl (rfl) ?_
  refine qs (f := dm_push 1025 (.long 4294967295)) rfl (rfl) ?_
  refine qs (f := dm_ll 1026 (fun x y => x &&& y)) rfl (rfl) ?_
  refine qs (f := dm_ll 1027 (fun x y => x ||| y)) rfl (rfl) ?_
  refine qs (f := dm_ald 1028 0) rfl (rfl) ?_
  refine qs (f := dm_ild 1030 4) rfl (rfl) ?_
  refine qs (f := dm_push 1032 (.int 8)) rfl (rfl) ?_
  refine qs (f := dm_ii 1033 (fun x y => x + y)) rfl (rfl) ?_
  refine qs (f := dm_sld 1034 9 xs) rfl (dm_sld_ok (j := 8) (by decide) (by decide)) ?_
  refine qc (f := dm_inv 1037 188 6 8) rfl (dm_inv_ok io_34 rfl (Nat.le_of_ble_eq_true rfl)) ((by rw [zs, zt]; exact sy_102 (((xs 3).toInt64 <<< ((32 : Int32).toInt64 &&& 63)) ||| ((xs 4).toInt64 &&& (4294967295 : Int64))) (xs 5) (((xs 6).toInt64 <<< ((32 : Int32).toInt64 &&& 63)) ||| ((xs 7).toInt64 &&& (4294967295 : Int64))) (xs 8) hP hQ : ev_E 188 [.ref 68, .int (xs 1), .int (xs 2), .long (((xs 3).toInt64 <<< ((32 : Int32).toInt64 &&& 63)) ||| ((xs 4).toInt64 &&& (4294967295 : Int64))), .int (xs 5), .long (((xs 6).toInt64 <<< ((32 : Int32).toInt64 &&& 63)) ||| ((xs 7).toInt64 &&& (4294967295 : Int64))), .int (xs 8)] mm_23 = some (some (.int 1), mm_25))) ?_
  refine qs (f := dm_ic_eq 1040 1263) rfl (dm_ic_eq_t (by first | rfl | decide)) ?_
  refine qs (f := dm_iinc 1266 4 9) rfl (rfl) ?_
  refine qs (f := dm_goto 23) rfl (rfl) ?_
  refine qs (f := dm_ild 25 4) rfl (rfl) ?_
  refine qs (f := dm_ald 26 0) rfl (rfl) ?_
  refine qs (f := dm_sln 27 9) rfl (rfl) ?_
  refine qs (f := dm_push 29 (.int 9)) rfl (rfl) ?_
  refine qs (f := dm_ii 30 (fun x y => x - y)) rfl (rfl) ?_
  refine qs (f := dm_ic_gt 33 1269) rfl (dm_ic_gt_t (by decide)) ?_
  refine qs (f := dm_push 1270 (.int 1)) rfl (rfl) ?_
  exact qr (f := dm_ret .boolean) rfl rfl
set_option maxRecDepth 100000 in
theorem lo_53 (xs : Nat → Int32) (f1 f2 : dm_Sem) (h : xs 0 &&& 31 = 20) (hs : (xs 1) = 0) : ∃ M, dm_run ev_E (cdL 9 xs f1 f2) 1999976 (40, lvA, [.int (xs 0 &&& 31)]) ev_3 = some (some (.int 1), M) ∧ dm_bd M = true := by
  refine ⟨(ev_M (ev_E 194 [.ref 68, .int 0] (ev_M (ev_E 115 [.ref 0, .int 0] ev_3)))), ?_, bd_35⟩
  refine qs (f := dm_tsw 0 28 1263 [172, 183, 208, 233, 270, 295, 320, 357, 382, 419, 432, 469, 506, 543, 655, 774, 811, 860, 874, 887, 1042, 1067, 1092, 1161, 1186, 1199, 1212, 1225, 1238]) rfl (dm_tsw_at h rfl) ?_
  refine qs (f := dm_ald 1043 1) rfl (rfl) ?_
  refine qs (f := dm_ald 1044 0) rfl (rfl) ?_
  refine qs (f := dm_ild 1046 4) rfl (rfl) ?_
  refine qs (f := dm_push 1047 (.int 1)) rfl (rfl) ?_
  refine qs (f := dm_ii 1048 (fun x y => x + y)) rfl (rfl) ?_
  refine qs (f := dm_sld 1049 9 xs) rfl (dm_sld_ok (j := 1) (by decide) (by decide)) ?_
  refine qc (f := dm_inv 1052 115 1 7) rfl (dm_inv_ok io_0 rfl (Nat.le_of_ble_eq_true rfl)) (ez_11 (xs 1) hs) ?_
  refine qs (f := dm_ald 1053 2) rfl (rfl) ?_
  refine qs (f := dm_ald 1054 0) rfl (rfl) ?_
  refine qs (f := dm_ild 1056 4) rfl (rfl) ?_
  refine qs (f := dm_push 1057 (.int 1)) rfl (rfl) ?_
  refine qs (f := dm_ii 1058 (fun x y => x + y)) rfl (rfl) ?_
  refine qs (f := dm_sld 1059 9 xs) rfl (dm_sld_ok (j := 1) (by decide) (by decide)) ?_
  refine qc (f := dm_inv 1062 194 1 8) rfl (dm_inv_ok io_35 rfl (Nat.le_of_ble_eq_true rfl)) (en_11 (xs 1) hs) ?_
  refine qs (f := dm_ic_eq 1065 1263) rfl (dm_ic_eq_t (by first | rfl | decide)) ?_
  refine qs (f := dm_iinc 1266 4 9) rfl (rfl) ?_
  refine qs (f := dm_goto 23) rfl (rfl) ?_
  refine qs (f := dm_ild 25 4) rfl (rfl) ?_
  refine qs (f := dm_ald 26 0) rfl (rfl) ?_
  refine qs (f := dm_sln 27 9) rfl (rfl) ?_
  refine qs (f := dm_push 29 (.int 9)) rfl (rfl) ?_
  refine qs (f := dm_ii 30 (fun x y => x - y)) rfl (rfl) ?_
  refine qs (f := dm_ic_gt 33 1269) rfl (dm_ic_gt_t (by decide)) ?_
  refine qs (f := dm_push 1270 (.int 1)) rfl (rfl) ?_
  exact qr (f := dm_ret .boolean) rfl rfl
set_option maxRecDepth 100000 in
theorem lo_54 (xs : Nat → Int32) (f1 f2 : dm_Sem) (h : xs 0 &&& 31 = 20) (hs : ¬ (xs 1) = 0) : ∃ M, dm_run ev_E (cdL 9 xs f1 f2) 1999976 (40, lvA, [.int (xs 0 &&& 31)]) ev_3 = some (some (.int 1), M) ∧ dm_bd M = true := by
  refine ⟨ev_3, ?_, bd_2⟩
  refine qs (f := dm_tsw 0 28 1263 [172, 183, 208, 233, 270, 295, 320, 357, 382, 419, 432, 469, 506, 543, 655, 774, 811, 860, 874, 887, 1042, 1067, 1092, 1161, 1186, 1199, 1212, 1225, 1238]) rfl (dm_tsw_at h rfl) ?_
  refine qs (f := dm_ald 1043 1) rfl (rfl) ?_
  refine qs (f := dm_ald 1044 0) rfl (rfl) ?_
  refine qs (f := dm_ild 1046 4) rfl (rfl) ?_
  refine qs (f := dm_push 1047 (.int 1)) rfl (rfl) ?_
  refine qs (f := dm_ii 1048 (fun x y => x + y)) rfl (rfl) ?_
  refine qs (f := dm_sld 1049 9 xs) rfl (dm_sld_ok (j := 1) (by decide) (by decide)) ?_
  refine qc (f := dm_inv 1052 115 1 7) rfl (dm_inv_ok io_0 rfl (Nat.le_of_ble_eq_true rfl)) (sy_19 (xs 1) hs) ?_
  refine qs (f := dm_ald 1053 2) rfl (rfl) ?_
  refine qs (f := dm_ald 1054 0) rfl (rfl) ?_
  refine qs (f := dm_ild 1056 4) rfl (rfl) ?_
  refine qs (f := dm_push 1057 (.int 1)) rfl (rfl) ?_
  refine qs (f := dm_ii 1058 (fun x y => x + y)) rfl (rfl) ?_
  refine qs (f := dm_sld 1059 9 xs) rfl (dm_sld_ok (j := 1) (by decide) (by decide)) ?_
  refine qc (f := dm_inv 1062 194 1 8) rfl (dm_inv_ok io_3 rfl (Nat.le_of_ble_eq_true rfl)) (sy_21 (xs 1) hs) ?_
  refine qs (f := dm_ic_eq 1065 1263) rfl (dm_ic_eq_t (by first | rfl | decide)) ?_
  refine qs (f := dm_iinc 1266 4 9) rfl (rfl) ?_
  refine qs (f := dm_goto 23) rfl (rfl) ?_
  refine qs (f := dm_ild 25 4) rfl (rfl) ?_
  refine qs (f := dm_ald 26 0) rfl (rfl) ?_
  refine qs (f := dm_sln 27 9) rfl (rfl) ?_
  refine qs (f := dm_push 29 (.int 9)) rfl (rfl) ?_
  refine qs (f := dm_ii 30 (fun x y => x - y)) rfl (rfl) ?_
  refine qs (f := dm_ic_gt 33 1269) rfl (dm_ic_gt_t (by decide)) ?_
  refine qs (f := dm_push 1270 (.int 1)) rfl (rfl) ?_
  exact qr (f := dm_ret .boolean) rfl rfl
set_option maxRecDepth 100000 in
theorem lo_55 (xs : Nat → Int32) (f1 f2 : dm_Sem) (h : xs 0 &&& 31 = 21)  : ∃ M, dm_run ev_E (cdL 9 xs f1 f2) 1999976 (40, lvA, [.int (xs 0 &&& 31)]) ev_3 = some (some (.int 1), M) ∧ dm_bd M = true := by
  refine ⟨ev_3, ?_, bd_2⟩
  refine qs (f := dm_tsw 0 28 1263 [172, 183, 208, 233, 270, 295, 320, 357, 382, 419, 432, 469, 506, 543, 655, 774, 811, 860, 874, 887, 1042, 1067, 1092, 1161, 1186, 1199, 1212, 1225, 1238]) rfl (dm_tsw_at h rfl) ?_
  refine qs (f := dm_ald 1068 1) rfl (rfl) ?_
  refine qs (f := dm_ald 1069 0) rfl (rfl) ?_
  refine qs (f := dm_ild 1071 4) rfl (rfl) ?_
  refine qs (f := dm_push 1072 (.int 1)) rfl (rfl) ?_
  refine qs (f := dm_ii 1073 (fun x y => x + y)) rfl (rfl) ?_
  refine qs (f := dm_sld 1074 9 xs) rfl (dm_sld_ok (j := 1) (by decide) (by decide)) ?_
  refine qc (f := dm_inv 1077 116 1 7) rfl (dm_inv_ok io_0 rfl (Nat.le_of_ble_eq_true rfl)) (sy_74 (xs 1)) ?_
  refine qs (f := dm_ald 1078 2) rfl (rfl) ?_
  refine qs (f := dm_ald 1079 0) rfl (rfl) ?_
  refine qs (f := dm_ild 1081 4) rfl (rfl) ?_
  refine qs (f := dm_push 1082 (.int 1)) rfl (rfl) ?_
  refine qs (f := dm_ii 1083 (fun x y => x + y)) rfl (rfl) ?_
  refine qs (f := dm_sld 1084 9 xs) rfl (dm_sld_ok (j := 1) (by decide) (by decide)) ?_
  refine qc (f := dm_inv 1087 195 1 8) rfl (dm_inv_ok io_3 rfl (Nat.le_of_ble_eq_true rfl)) (sy_75 (xs 1)) ?_
  refine qs (f := dm_ic_eq 1090 1263) rfl (dm_ic_eq_t (by first | rfl | decide)) ?_
  refine qs (f := dm_iinc 1266 4 9) rfl (rfl) ?_
  refine qs (f := dm_goto 23) rfl (rfl) ?_
  refine qs (f := dm_ild 25 4) rfl (rfl) ?_
  refine qs (f := dm_ald 26 0) rfl (rfl) ?_
  refine qs (f := dm_sln 27 9) rfl (rfl) ?_
  refine qs (f := dm_push 29 (.int 9)) rfl (rfl) ?_
  refine qs (f := dm_ii 30 (fun x y => x - y)) rfl (rfl) ?_
  refine qs (f := dm_ic_gt 33 1269) rfl (dm_ic_gt_t (by decide)) ?_
  refine qs (f := dm_push 1270 (.int 1)) rfl (rfl) ?_
  exact qr (f := dm_ret .boolean) rfl rfl
set_option maxRecDepth 100000 in
theorem lo_56 (xs : Nat → Int32) (f1 f2 : dm_Sem) (h : xs 0 &&& 31 = 22) (hn : (xs 3) < 0 ∨ 64 < (xs 3)) : ∃ M, dm_run ev_E (cdL 9 xs f1 f2) 1999976 (40, lvA, [.int (xs 0 &&& 31)]) ev_3 = some (some (.int 1), M) ∧ dm_bd M = true := by
  refine ⟨ev_3, ?_, bd_2⟩
  refine qs (f := dm_tsw 0 28 1263 [172, 183, 208, 233, 270, 295, 320, 357, 382, 419, 432, 469, 506, 543, 655, 774, 811, 860, 874, 887, 1042, 1067, 1092, 1161, 1186, 1199, 1212, 1225, 1238]) rfl (dm_tsw_at h rfl) ?_
  refine qs (f := dm_ald 1093 1) rfl (rfl) ?_
  refine qs (f := dm_ald 1094 0) rfl (rfl) ?_
  refine qs (f := dm_ild 1096 4) rfl (rfl) ?_
  refine qs (f := dm_push 1097 (.int 1)) rfl (rfl) ?_
  refine qs (f := dm_ii 1098 (fun x y => x + y)) rfl (rfl) ?_
  refine qs (f := dm_sld 1099 9 xs) rfl (dm_sld_ok (j := 1) (by decide) (by decide)) ?_
  refine qs (f := dm_i1 1100 (fun x => .long x.toInt64)) rfl (rfl) ?_
  refine qs (f := dm_push 1102 (.int 32)) rfl (rfl) ?_
  refine qs (f := dm_li 1103 (fun x y => x <<< (y.toInt64 &&& 63))) rfl (rfl) ?_
  refine qs (f := dm_ald 1104 0) rfl (rfl) ?_
  refine qs (f := dm_ild 1106 4) rfl (rfl) ?_
  refine qs (f := dm_push 1107 (.int 2)) rfl (rfl) ?_
  refine qs (f := dm_ii 1108 (fun x y => x + y)) rfl (rfl) ?_
  refine qs (f := dm_sld 1109 9 xs) rfl (dm_sld_ok (j := 2) (by decide) (by decide)) ?_
  refine qs (f := dm_i1 1110 (fun x => .long x.toInt64)) rfl (rfl) ?_
  refine qs (f := dm_push 1113 (.long 4294967295)) rfl (rfl) ?_
  refine qs (f := dm_ll 1114 (fun x y => x &&& y)) rfl (rfl) ?_
  refine qs (f := dm_ll 1115 (fun x y => x ||| y)) rfl (rfl) ?_
  refine qs (f := dm_ald 1116 0) rfl (rfl) ?_
  refine qs (f := dm_ild 1118 4) rfl (rfl) ?_
  refine qs (f := dm_push 1119 (.int 3)) rfl (rfl) ?_
  refine qs (f := dm_ii 1120 (fun x y => x + y)) rfl (rfl) ?_
  refine qs (f := dm_sld 1121 9 xs) rfl (dm_sld_ok (j := 3) (by decide) (by decide)) ?_
  refine qc (f := dm_inv 1124 117 2 7) rfl (dm_inv_ok io_0 rfl (Nat.le_of_ble_eq_true rfl)) (sy_103 (((xs 1).toInt64 <<< ((32 : Int32).toInt64 &&& 63)) ||| ((xs 2).toInt64 &&& (4294967295 : Int64))) (xs 3) hn) ?_
  refine qs (f := dm_ald 1125 2) rfl (rfl) ?_
  refine qs (f := dm_ald 1126 0) rfl (rfl) ?_
  refine qs (f := dm_ild 1128 4) rfl (rfl) ?_
  refine qs (f := dm_push 1129 (.int 1)) rfl (rfl) ?_
  refine qs (f := dm_ii 1130 (fun x y => x + y)) rfl (rfl) ?_
  refine qs (f := dm_sld 1131 9 xs) rfl (dm_sld_ok (j := 1) (by decide) (by decide)) ?_
  refine qs (f := dm_i1 1132 (fun x => .long x.toInt64)) rfl (rfl) ?_
  refine qs (f := dm_push 1134 (.int 32)) rfl (rfl) ?_
  refine qs (f := dm_li 1135 (fun x y => x <<< (y.toInt64 &&& 63))) rfl (rfl) ?_
  refine qs (f := dm_ald 1136 0) rfl (rfl) ?_
  refine qs (f := dm_ild 1138 4) rfl (rfl) ?_
  refine qs (f := dm_push 1139 (.int 2)) rfl (rfl) ?_
  refine qs (f := dm_ii 1140 (fun x y => x + y)) rfl (rfl) ?_
  refine qs (f := dm_sld 1141 9 xs) rfl (dm_sld_ok (j := 2) (by decide) (by decide)) ?_
  refine qs (f := dm_i1 1142 (fun x => .long x.toInt64)) rfl (rfl) ?_
  refine qs (f := dm_push 1145 (.long 4294967295)) rfl (rfl) ?_
  refine qs (f := dm_ll 1146 (fun x y => x &&& y)) rfl (rfl) ?_
  refine qs (f := dm_ll 1147 (fun x y => x ||| y)) rfl (rfl) ?_
  refine qs (f := dm_ald 1148 0) rfl (rfl) ?_
  refine qs (f := dm_ild 1150 4) rfl (rfl) ?_
  refine qs (f := dm_push 1151 (.int 3)) rfl (rfl) ?_
  refine qs (f := dm_ii 1152 (fun x y => x + y)) rfl (rfl) ?_
  refine qs (f := dm_sld 1153 9 xs) rfl (dm_sld_ok (j := 3) (by decide) (by decide)) ?_
  refine qc (f := dm_inv 1156 196 2 8) rfl (dm_inv_ok io_3 rfl (Nat.le_of_ble_eq_true rfl)) (sy_104 (((xs 1).toInt64 <<< ((32 : Int32).toInt64 &&& 63)) ||| ((xs 2).toInt64 &&& (4294967295 : Int64))) (xs 3) hn) ?_
  refine qs (f := dm_ic_eq 1159 1263) rfl (dm_ic_eq_t (by first | rfl | decide)) ?_
  refine qs (f := dm_iinc 1266 4 9) rfl (rfl) ?_
  refine qs (f := dm_goto 23) rfl (rfl) ?_
  refine qs (f := dm_ild 25 4) rfl (rfl) ?_
  refine qs (f := dm_ald 26 0) rfl (rfl) ?_
  refine qs (f := dm_sln 27 9) rfl (rfl) ?_
  refine qs (f := dm_push 29 (.int 9)) rfl (rfl) ?_
  refine qs (f := dm_ii 30 (fun x y => x - y)) rfl (rfl) ?_
  refine qs (f := dm_ic_gt 33 1269) rfl (dm_ic_gt_t (by decide)) ?_
  refine qs (f := dm_push 1270 (.int 1)) rfl (rfl) ?_
  exact qr (f := dm_ret .boolean) rfl rfl
set_option maxRecDepth 100000 in
theorem lo_57 (xs : Nat → Int32) (f1 f2 : dm_Sem) (h : xs 0 &&& 31 = 23) (hs : (xs 1) = 0) : ∃ M, dm_run ev_E (cdL 9 xs f1 f2) 1999976 (40, lvA, [.int (xs 0 &&& 31)]) ev_3 = some (some (.int 1), M) ∧ dm_bd M = true := by
  refine ⟨(ev_M (ev_E 197 [.ref 68, .int 0] (ev_M (ev_E 118 [.ref 0, .int 0] ev_3)))), ?_, bd_36⟩
  refine qs (f := dm_tsw 0 28 1263 [172, 183, 208, 233, 270, 295, 320, 357, 382, 419, 432, 469, 506, 543, 655, 774, 811, 860, 874, 887, 1042, 1067, 1092, 1161, 1186, 1199, 1212, 1225, 1238]) rfl (dm_tsw_at h rfl) ?_
  refine qs (f := dm_ald 1162 1) rfl (rfl) ?_
  refine qs (f := dm_ald 1163 0) rfl (rfl) ?_
  refine qs (f := dm_ild 1165 4) rfl (rfl) ?_
  refine qs (f := dm_push 1166 (.int 1)) rfl (rfl) ?_
  refine qs (f := dm_ii 1167 (fun x y => x + y)) rfl (rfl) ?_
  refine qs (f := dm_sld 1168 9 xs) rfl (dm_sld_ok (j := 1) (by decide) (by decide)) ?_
  refine qc (f := dm_inv 1171 118 1 7) rfl (dm_inv_ok io_0 rfl (Nat.le_of_ble_eq_true rfl)) (ez_12 (xs 1) hs) ?_
  refine qs (f := dm_ald 1172 2) rfl (rfl) ?_
  refine qs (f := dm_ald 1173 0) rfl (rfl) ?_
  refine qs (f := dm_ild 1175 4) rfl (rfl) ?_
  refine qs (f := dm_push 1176 (.int 1)) rfl (rfl) ?_
  refine qs (f := dm_ii 1177 (fun x y => x + y)) rfl (rfl) ?_
  refine qs (f := dm_sld 1178 9 xs) rfl (dm_sld_ok (j := 1) (by decide) (by decide)) ?_
  refine qc (f := dm_inv 1181 197 1 8) rfl (dm_inv_ok io_36 rfl (Nat.le_of_ble_eq_true rfl)) (en_12 (xs 1) hs) ?_
  refine qs (f := dm_ic_eq 1184 1263) rfl (dm_ic_eq_t (by first | rfl | decide)) ?_
  refine qs (f := dm_iinc 1266 4 9) rfl (rfl) ?_
  refine qs (f := dm_goto 23) rfl (rfl) ?_
  refine qs (f := dm_ild 25 4) rfl (rfl) ?_
  refine qs (f := dm_ald 26 0) rfl (rfl) ?_
  refine qs (f := dm_sln 27 9) rfl (rfl) ?_
  refine qs (f := dm_push 29 (.int 9)) rfl (rfl) ?_
  refine qs (f := dm_ii 30 (fun x y => x - y)) rfl (rfl) ?_
  refine qs (f := dm_ic_gt 33 1269) rfl (dm_ic_gt_t (by decide)) ?_
  refine qs (f := dm_push 1270 (.int 1)) rfl (rfl) ?_
  exact qr (f := dm_ret .boolean) rfl rfl
set_option maxRecDepth 100000 in
theorem lo_58 (xs : Nat → Int32) (f1 f2 : dm_Sem) (h : xs 0 &&& 31 = 23) (hs : ¬ (xs 1) = 0) : ∃ M, dm_run ev_E (cdL 9 xs f1 f2) 1999976 (40, lvA, [.int (xs 0 &&& 31)]) ev_3 = some (some (.int 1), M) ∧ dm_bd M = true := by
  refine ⟨ev_3, ?_, bd_2⟩
  refine qs (f := dm_tsw 0 28 1263 [172, 183, 208, 233, 270, 295, 320, 357, 382, 419, 432, 469, 506, 543, 655, 774, 811, 860, 874, 887, 1042, 1067, 1092, 1161, 1186, 1199, 1212, 1225, 1238]) rfl (dm_tsw_at h rfl) ?_
  refine qs (f := dm_ald 1162 1) rfl (rfl) ?_
  refine qs (f := dm_ald 1163 0) rfl (rfl) ?_
  refine qs (f := dm_ild 1165 4) rfl (rfl) ?_
  refine qs (f := dm_push 1166 (.int 1)) rfl (rfl) ?_
  refine qs (f := dm_ii 1167 (fun x y => x + y)) rfl (rfl) ?_
  refine qs (f := dm_sld 1168 9 xs) rfl (dm_sld_ok (j := 1) (by decide) (by decide)) ?_
  refine qc (f := dm_inv 1171 118 1 7) rfl (dm_inv_ok io_0 rfl (Nat.le_of_ble_eq_true rfl)) (sy_77 (xs 1) hs) ?_
  refine qs (f := dm_ald 1172 2) rfl (rfl) ?_
  refine qs (f := dm_ald 1173 0) rfl (rfl) ?_
  refine qs (f := dm_ild 1175 4) rfl (rfl) ?_
  refine qs (f := dm_push 1176 (.int 1)) rfl (rfl) ?_
  refine qs (f := dm_ii 1177 (fun x y => x + y)) rfl (rfl) ?_
  refine qs (f := dm_sld 1178 9 xs) rfl (dm_sld_ok (j := 1) (by decide) (by decide)) ?_
  refine qc (f := dm_inv 1181 197 1 8) rfl (dm_inv_ok io_3 rfl (Nat.le_of_ble_eq_true rfl)) (sy_78 (xs 1) hs) ?_
  refine qs (f := dm_ic_eq 1184 1263) rfl (dm_ic_eq_t (by first | rfl | decide)) ?_
  refine qs (f := dm_iinc 1266 4 9) rfl (rfl) ?_
  refine qs (f := dm_goto 23) rfl (rfl) ?_
  refine qs (f := dm_ild 25 4) rfl (rfl) ?_
  refine qs (f := dm_ald 26 0) rfl (rfl) ?_
  refine qs (f := dm_sln 27 9) rfl (rfl) ?_
  refine qs (f := dm_push 29 (.int 9)) rfl (rfl) ?_
  refine qs (f := dm_ii 30 (fun x y => x - y)) rfl (rfl) ?_
  refine qs (f := dm_ic_gt 33 1269) rfl (dm_ic_gt_t (by decide)) ?_
  refine qs (f := dm_push 1270 (.int 1)) rfl (rfl) ?_
  exact qr (f := dm_ret .boolean) rfl rfl
set_option maxRecDepth 100000 in
theorem lo_59 (xs : Nat → Int32) (f1 f2 : dm_Sem) (h : xs 0 &&& 31 = 24)  : ∃ M, dm_run ev_E (cdL 9 xs f1 f2) 1999976 (40, lvA, [.int (xs 0 &&& 31)]) ev_3 = some (some (.int 1), M) ∧ dm_bd M = true := by
  refine ⟨(ev_M (ev_E 204 [.ref 68] (ev_M (ev_E 119 [.ref 0] ev_3)))), ?_, bd_37⟩
  refine qs (f := dm_tsw 0 28 1263 [172, 183, 208, 233, 270, 295, 320, 357, 382, 419, 432, 469, 506, 543, 655, 774, 811, 860, 874, 887, 1042, 1067, 1092, 1161, 1186, 1199, 1212, 1225, 1238]) rfl (dm_tsw_at h rfl) ?_
  refine qs (f := dm_ald 1187 1) rfl (rfl) ?_
  refine qc (f := dm_inv 1190 119 0 7) rfl (dm_inv_ok io_0 rfl (Nat.le_of_ble_eq_true rfl)) (ec_13  ) ?_
  refine qs (f := dm_ald 1191 2) rfl (rfl) ?_
  refine qc (f := dm_inv 1194 204 0 8) rfl (dm_inv_ok io_37 rfl (Nat.le_of_ble_eq_true rfl)) (em_13  ) ?_
  refine qs (f := dm_ic_eq 1197 1263) rfl (dm_ic_eq_t (by first | rfl | decide)) ?_
  refine qs (f := dm_iinc 1266 4 9) rfl (rfl) ?_
  refine qs (f := dm_goto 23) rfl (rfl) ?_
  refine qs (f := dm_ild 25 4) rfl (rfl) ?_
  refine qs (f := dm_ald 26 0) rfl (rfl) ?_
  refine qs (f := dm_sln 27 9) rfl (rfl) ?_
  refine qs (f := dm_push 29 (.int 9)) rfl (rfl) ?_
  refine qs (f := dm_ii 30 (fun x y => x - y)) rfl (rfl) ?_
  refine qs (f := dm_ic_gt 33 1269) rfl (dm_ic_gt_t (by decide)) ?_
  refine qs (f := dm_push 1270 (.int 1)) rfl (rfl) ?_
  exact qr (f := dm_ret .boolean) rfl rfl
set_option maxRecDepth 100000 in
theorem lo_60 (xs : Nat → Int32) (f1 f2 : dm_Sem) (h : xs 0 &&& 31 = 25)  : ∃ M, dm_run ev_E (cdL 9 xs f1 f2) 1999976 (40, lvA, [.int (xs 0 &&& 31)]) ev_3 = some (some (.int 1), M) ∧ dm_bd M = true := by
  refine ⟨(ev_M (ev_E 205 [.ref 68] (ev_M (ev_E 120 [.ref 0] ev_3)))), ?_, bd_38⟩
  refine qs (f := dm_tsw 0 28 1263 [172, 183, 208, 233, 270, 295, 320, 357, 382, 419, 432, 469, 506, 543, 655, 774, 811, 860, 874, 887, 1042, 1067, 1092, 1161, 1186, 1199, 1212, 1225, 1238]) rfl (dm_tsw_at h rfl) ?_
  refine qs (f := dm_ald 1200 1) rfl (rfl) ?_
  refine qc (f := dm_inv 1203 120 0 7) rfl (dm_inv_ok io_0 rfl (Nat.le_of_ble_eq_true rfl)) (ec_14  ) ?_
  refine qs (f := dm_ald 1204 2) rfl (rfl) ?_
  refine qc (f := dm_inv 1207 205 0 8) rfl (dm_inv_ok io_38 rfl (Nat.le_of_ble_eq_true rfl)) (em_14  ) ?_
  refine qs (f := dm_ic_eq 1210 1263) rfl (dm_ic_eq_t (by first | rfl | decide)) ?_
  refine qs (f := dm_iinc 1266 4 9) rfl (rfl) ?_
  refine qs (f := dm_goto 23) rfl (rfl) ?_
  refine qs (f := dm_ild 25 4) rfl (rfl) ?_
  refine qs (f := dm_ald 26 0) rfl (rfl) ?_
  refine qs (f := dm_sln 27 9) rfl (rfl) ?_
  refine qs (f := dm_push 29 (.int 9)) rfl (rfl) ?_
  refine qs (f := dm_ii 30 (fun x y => x - y)) rfl (rfl) ?_
  refine qs (f := dm_ic_gt 33 1269) rfl (dm_ic_gt_t (by decide)) ?_
  refine qs (f := dm_push 1270 (.int 1)) rfl (rfl) ?_
  exact qr (f := dm_ret .boolean) rfl rfl
set_option maxRecDepth 100000 in
theorem lo_61 (xs : Nat → Int32) (f1 f2 : dm_Sem) (h : xs 0 &&& 31 = 27)  : ∃ M, dm_run ev_E (cdL 9 xs f1 f2) 1999976 (40, lvA, [.int (xs 0 &&& 31)]) ev_3 = some (some (.int 1), M) ∧ dm_bd M = true := by
  refine ⟨(ev_M (ev_E 207 [.ref 68] (ev_M (ev_E 122 [.ref 0] ev_3)))), ?_, bd_39⟩
  refine qs (f := dm_tsw 0 28 1263 [172, 183, 208, 233, 270, 295, 320, 357, 382, 419, 432, 469, 506, 543, 655, 774, 811, 860, 874, 887, 1042, 1067, 1092, 1161, 1186, 1199, 1212, 1225, 1238]) rfl (dm_tsw_at h rfl) ?_
  refine qs (f := dm_ald 1226 1) rfl (rfl) ?_
  refine qc (f := dm_inv 1229 122 0 7) rfl (dm_inv_ok io_0 rfl (Nat.le_of_ble_eq_true rfl)) (ec_15  ) ?_
  refine qs (f := dm_ald 1230 2) rfl (rfl) ?_
  refine qc (f := dm_inv 1233 207 0 8) rfl (dm_inv_ok io_39 rfl (Nat.le_of_ble_eq_true rfl)) (em_15  ) ?_
  refine qs (f := dm_ic_eq 1236 1263) rfl (dm_ic_eq_t (by first | rfl | decide)) ?_
  refine qs (f := dm_iinc 1266 4 9) rfl (rfl) ?_
  refine qs (f := dm_goto 23) rfl (rfl) ?_
  refine qs (f := dm_ild 25 4) rfl (rfl) ?_
  refine qs (f := dm_ald 26 0) rfl (rfl) ?_
  refine qs (f := dm_sln 27 9) rfl (rfl) ?_
  refine qs (f := dm_push 29 (.int 9)) rfl (rfl) ?_
  refine qs (f := dm_ii 30 (fun x y => x - y)) rfl (rfl) ?_
  refine qs (f := dm_ic_gt 33 1269) rfl (dm_ic_gt_t (by decide)) ?_
  refine qs (f := dm_push 1270 (.int 1)) rfl (rfl) ?_
  exact qr (f := dm_ret .boolean) rfl rfl
set_option maxRecDepth 100000 in
theorem lo_62 (xs : Nat → Int32) (f1 f2 : dm_Sem) (h : xs 0 &&& 31 = 28) (hw : (xs 1) = 0) : ∃ M, dm_run ev_E (cdL 9 xs f1 f2) 1999976 (40, lvA, [.int (xs 0 &&& 31)]) ev_3 = some (some (.int 1), M) ∧ dm_bd M = true := by
  refine ⟨(ev_M (ev_E 208 [.ref 68, .int 0] (ev_M (ev_E 123 [.ref 0, .int 0] ev_3)))), ?_, bd_40⟩
  refine qs (f := dm_tsw 0 28 1263 [172, 183, 208, 233, 270, 295, 320, 357, 382, 419, 432, 469, 506, 543, 655, 774, 811, 860, 874, 887, 1042, 1067, 1092, 1161, 1186, 1199, 1212, 1225, 1238]) rfl (dm_tsw_at h rfl) ?_
  refine qs (f := dm_ald 1239 1) rfl (rfl) ?_
  refine qs (f := dm_ald 1240 0) rfl (rfl) ?_
  refine qs (f := dm_ild 1242 4) rfl (rfl) ?_
  refine qs (f := dm_push 1243 (.int 1)) rfl (rfl) ?_
  refine qs (f := dm_ii 1244 (fun x y => x + y)) rfl (rfl) ?_
  refine qs (f := dm_sld 1245 9 xs) rfl (dm_sld_ok (j := 1) (by decide) (by decide)) ?_
  refine qc (f := dm_inv 1248 123 1 7) rfl (dm_inv_ok io_0 rfl (Nat.le_of_ble_eq_true rfl)) (ez_31 (xs 1) hw) ?_
  refine qs (f := dm_ald 1249 2) rfl (rfl) ?_
  refine qs (f := dm_ald 1250 0) rfl (rfl) ?_
  refine qs (f := dm_ild 1252 4) rfl (rfl) ?_
  refine qs (f := dm_push 1253 (.int 1)) rfl (rfl) ?_
  refine qs (f := dm_ii 1254 (fun x y => x + y)) rfl (rfl) ?_
  refine qs (f := dm_sld 1255 9 xs) rfl (dm_sld_ok (j := 1) (by decide) (by decide)) ?_
  refine qc (f := dm_inv 1258 208 1 8) rfl (dm_inv_ok io_40 rfl (Nat.le_of_ble_eq_true rfl)) (en_31 (xs 1) hw) ?_
  refine qs (f := dm_ic_eq 1261 1263) rfl (dm_ic_eq_t (by first | rfl | decide)) ?_
  refine qs (f := dm_iinc 1266 4 9) rfl (rfl) ?_
  refine qs (f := dm_goto 23) rfl (rfl) ?_
  refine qs (f := dm_ild 25 4) rfl (rfl) ?_
  refine qs (f := dm_ald 26 0) rfl (rfl) ?_
  refine qs (f := dm_sln 27 9) rfl (rfl) ?_
  refine qs (f := dm_push 29 (.int 9)) rfl (rfl) ?_
  refine qs (f := dm_ii 30 (fun x y => x - y)) rfl (rfl) ?_
  refine qs (f := dm_ic_gt 33 1269) rfl (dm_ic_gt_t (by decide)) ?_
  refine qs (f := dm_push 1270 (.int 1)) rfl (rfl) ?_
  exact qr (f := dm_ret .boolean) rfl rfl
set_option maxRecDepth 100000 in
theorem lo_63 (xs : Nat → Int32) (f1 f2 : dm_Sem) (h : xs 0 &&& 31 = 28) (hw : (xs 1) = 1) : ∃ M, dm_run ev_E (cdL 9 xs f1 f2) 1999976 (40, lvA, [.int (xs 0 &&& 31)]) ev_3 = some (some (.int 1), M) ∧ dm_bd M = true := by
  refine ⟨(ev_M (ev_E 208 [.ref 68, .int 1] (ev_M (ev_E 123 [.ref 0, .int 1] ev_3)))), ?_, bd_41⟩
  refine qs (f := dm_tsw 0 28 1263 [172, 183, 208, 233, 270, 295, 320, 357, 382, 419, 432, 469, 506, 543, 655, 774, 811, 860, 874, 887, 1042, 1067, 1092, 1161, 1186, 1199, 1212, 1225, 1238]) rfl (dm_tsw_at h rfl) ?_
  refine qs (f := dm_ald 1239 1) rfl (rfl) ?_
  refine qs (f := dm_ald 1240 0) rfl (rfl) ?_
  refine qs (f := dm_ild 1242 4) rfl (rfl) ?_
  refine qs (f := dm_push 1243 (.int 1)) rfl (rfl) ?_
  refine qs (f := dm_ii 1244 (fun x y => x + y)) rfl (rfl) ?_
  refine qs (f := dm_sld 1245 9 xs) rfl (dm_sld_ok (j := 1) (by decide) (by decide)) ?_
  refine qc (f := dm_inv 1248 123 1 7) rfl (dm_inv_ok io_0 rfl (Nat.le_of_ble_eq_true rfl)) (ez_32 (xs 1) hw) ?_
  refine qs (f := dm_ald 1249 2) rfl (rfl) ?_
  refine qs (f := dm_ald 1250 0) rfl (rfl) ?_
  refine qs (f := dm_ild 1252 4) rfl (rfl) ?_
  refine qs (f := dm_push 1253 (.int 1)) rfl (rfl) ?_
  refine qs (f := dm_ii 1254 (fun x y => x + y)) rfl (rfl) ?_
  refine qs (f := dm_sld 1255 9 xs) rfl (dm_sld_ok (j := 1) (by decide) (by decide)) ?_
  refine qc (f := dm_inv 1258 208 1 8) rfl (dm_inv_ok io_41 rfl (Nat.le_of_ble_eq_true rfl)) (en_32 (xs 1) hw) ?_
  refine qs (f := dm_ic_eq 1261 1263) rfl (dm_ic_eq_t (by first | rfl | decide)) ?_
  refine qs (f := dm_iinc 1266 4 9) rfl (rfl) ?_
  refine qs (f := dm_goto 23) rfl (rfl) ?_
  refine qs (f := dm_ild 25 4) rfl (rfl) ?_
  refine qs (f := dm_ald 26 0) rfl (rfl) ?_
  refine qs (f := dm_sln 27 9) rfl (rfl) ?_
  refine qs (f := dm_push 29 (.int 9)) rfl (rfl) ?_
  refine qs (f := dm_ii 30 (fun x y => x - y)) rfl (rfl) ?_
  refine qs (f := dm_ic_gt 33 1269) rfl (dm_ic_gt_t (by decide)) ?_
  refine qs (f := dm_push 1270 (.int 1)) rfl (rfl) ?_
  exact qr (f := dm_ret .boolean) rfl rfl
set_option maxRecDepth 100000 in
theorem lo_64 (xs : Nat → Int32) (f1 f2 : dm_Sem) (h : xs 0 &&& 31 = 28) (hw : (xs 1) = 2) : ∃ M, dm_run ev_E (cdL 9 xs f1 f2) 1999976 (40, lvA, [.int (xs 0 &&& 31)]) ev_3 = some (some (.int 1), M) ∧ dm_bd M = true := by
  refine ⟨(ev_M (ev_E 208 [.ref 68, .int 2] (ev_M (ev_E 123 [.ref 0, .int 2] ev_3)))), ?_, bd_42⟩
  refine qs (f := dm_tsw 0 28 1263 [172, 183, 208, 233, 270, 295, 320, 357, 382, 419, 432, 469, 506, 543, 655, 774, 811, 860, 874, 887, 1042, 1067, 1092, 1161, 1186, 1199, 1212, 1225, 1238]) rfl (dm_tsw_at h rfl) ?_
  refine qs (f := dm_ald 1239 1) rfl (rfl) ?_
  refine qs (f := dm_ald 1240 0) rfl (rfl) ?_
  refine qs (f := dm_ild 1242 4) rfl (rfl) ?_
  refine qs (f := dm_push 1243 (.int 1)) rfl (rfl) ?_
  refine qs (f := dm_ii 1244 (fun x y => x + y)) rfl (rfl) ?_
  refine qs (f := dm_sld 1245 9 xs) rfl (dm_sld_ok (j := 1) (by decide) (by decide)) ?_
  refine qc (f := dm_inv 1248 123 1 7) rfl (dm_inv_ok io_0 rfl (Nat.le_of_ble_eq_true rfl)) (ez_33 (xs 1) hw) ?_
  refine qs (f := dm_ald 1249 2) rfl (rfl) ?_
  refine qs (f := dm_ald 1250 0) rfl (rfl) ?_
  refine qs (f := dm_ild 1252 4) rfl (rfl) ?_
  refine qs (f := dm_push 1253 (.int 1)) rfl (rfl) ?_
  refine qs (f := dm_ii 1254 (fun x y => x + y)) rfl (rfl) ?_
  refine qs (f := dm_sld 1255 9 xs) rfl (dm_sld_ok (j := 1) (by decide) (by decide)) ?_
  refine qc (f := dm_inv 1258 208 1 8) rfl (dm_inv_ok io_42 rfl (Nat.le_of_ble_eq_true rfl)) (en_33 (xs 1) hw) ?_
  refine qs (f := dm_ic_eq 1261 1263) rfl (dm_ic_eq_t (by first | rfl | decide)) ?_
  refine qs (f := dm_iinc 1266 4 9) rfl (rfl) ?_
  refine qs (f := dm_goto 23) rfl (rfl) ?_
  refine qs (f := dm_ild 25 4) rfl (rfl) ?_
  refine qs (f := dm_ald 26 0) rfl (rfl) ?_
  refine qs (f := dm_sln 27 9) rfl (rfl) ?_
  refine qs (f := dm_push 29 (.int 9)) rfl (rfl) ?_
  refine qs (f := dm_ii 30 (fun x y => x - y)) rfl (rfl) ?_
  refine qs (f := dm_ic_gt 33 1269) rfl (dm_ic_gt_t (by decide)) ?_
  refine qs (f := dm_push 1270 (.int 1)) rfl (rfl) ?_
  exact qr (f := dm_ret .boolean) rfl rfl
set_option maxRecDepth 100000 in
theorem lo_65 (xs : Nat → Int32) (f1 f2 : dm_Sem) (h : xs 0 &&& 31 = 28) (hw : (xs 1) = 3) : ∃ M, dm_run ev_E (cdL 9 xs f1 f2) 1999976 (40, lvA, [.int (xs 0 &&& 31)]) ev_3 = some (some (.int 1), M) ∧ dm_bd M = true := by
  refine ⟨(ev_M (ev_E 208 [.ref 68, .int 3] (ev_M (ev_E 123 [.ref 0, .int 3] ev_3)))), ?_, bd_43⟩
  refine qs (f := dm_tsw 0 28 1263 [172, 183, 208, 233, 270, 295, 320, 357, 382, 419, 432, 469, 506, 543, 655, 774, 811, 860, 874, 887, 1042, 1067, 1092, 1161, 1186, 1199, 1212, 1225, 1238]) rfl (dm_tsw_at h rfl) ?_
  refine qs (f := dm_ald 1239 1) rfl (rfl) ?_
  refine qs (f := dm_ald 1240 0) rfl (rfl) ?_
  refine qs (f := dm_ild 1242 4) rfl (rfl) ?_
  refine qs (f := dm_push 1243 (.int 1)) rfl (rfl) ?_
  refine qs (f := dm_ii 1244 (fun x y => x + y)) rfl (rfl) ?_
  refine qs (f := dm_sld 1245 9 xs) rfl (dm_sld_ok (j := 1) (by decide) (by decide)) ?_
  refine qc (f := dm_inv 1248 123 1 7) rfl (dm_inv_ok io_0 rfl (Nat.le_of_ble_eq_true rfl)) (ez_34 (xs 1) hw) ?_
  refine qs (f := dm_ald 1249 2) rfl (rfl) ?_
  refine qs (f := dm_ald 1250 0) rfl (rfl) ?_
  refine qs (f := dm_ild 1252 4) rfl (rfl) ?_
  refine qs (f := dm_push 1253 (.int 1)) rfl (rfl) ?_
  refine qs (f := dm_ii 1254 (fun x y => x + y)) rfl (rfl) ?_
  refine qs (f := dm_sld 1255 9 xs) rfl (dm_sld_ok (j := 1) (by decide) (by decide)) ?_
  refine qc (f := dm_inv 1258 208 1 8) rfl (dm_inv_ok io_43 rfl (Nat.le_of_ble_eq_true rfl)) (en_34 (xs 1) hw) ?_
  refine qs (f := dm_ic_eq 1261 1263) rfl (dm_ic_eq_t (by first | rfl | decide)) ?_
  refine qs (f := dm_iinc 1266 4 9) rfl (rfl) ?_
  refine qs (f := dm_goto 23) rfl (rfl) ?_
  refine qs (f := dm_ild 25 4) rfl (rfl) ?_
  refine qs (f := dm_ald 26 0) rfl (rfl) ?_
  refine qs (f := dm_sln 27 9) rfl (rfl) ?_
  refine qs (f := dm_push 29 (.int 9)) rfl (rfl) ?_
  refine qs (f := dm_ii 30 (fun x y => x - y)) rfl (rfl) ?_
  refine qs (f := dm_ic_gt 33 1269) rfl (dm_ic_gt_t (by decide)) ?_
  refine qs (f := dm_push 1270 (.int 1)) rfl (rfl) ?_
  exact qr (f := dm_ret .boolean) rfl rfl
set_option maxRecDepth 100000 in
theorem lo_66 (xs : Nat → Int32) (f1 f2 : dm_Sem) (h : xs 0 &&& 31 = 28) (hw : (xs 1) = 4) : ∃ M, dm_run ev_E (cdL 9 xs f1 f2) 1999976 (40, lvA, [.int (xs 0 &&& 31)]) ev_3 = some (some (.int 1), M) ∧ dm_bd M = true := by
  refine ⟨(ev_M (ev_E 208 [.ref 68, .int 4] (ev_M (ev_E 123 [.ref 0, .int 4] ev_3)))), ?_, bd_44⟩
  refine qs (f := dm_tsw 0 28 1263 [172, 183, 208, 233, 270, 295, 320, 357, 382, 419, 432, 469, 506, 543, 655, 774, 811, 860, 874, 887, 1042, 1067, 1092, 1161, 1186, 1199, 1212, 1225, 1238]) rfl (dm_tsw_at h rfl) ?_
  refine qs (f := dm_ald 1239 1) rfl (rfl) ?_
  refine qs (f := dm_ald 1240 0) rfl (rfl) ?_
  refine qs (f := dm_ild 1242 4) rfl (rfl) ?_
  refine qs (f := dm_push 1243 (.int 1)) rfl (rfl) ?_
  refine qs (f := dm_ii 1244 (fun x y => x + y)) rfl (rfl) ?_
  refine qs (f := dm_sld 1245 9 xs) rfl (dm_sld_ok (j := 1) (by decide) (by decide)) ?_
  refine qc (f := dm_inv 1248 123 1 7) rfl (dm_inv_ok io_0 rfl (Nat.le_of_ble_eq_true rfl)) (ez_35 (xs 1) hw) ?_
  refine qs (f := dm_ald 1249 2) rfl (rfl) ?_
  refine qs (f := dm_ald 1250 0) rfl (rfl) ?_
  refine qs (f := dm_ild 1252 4) rfl (rfl) ?_
  refine qs (f := dm_push 1253 (.int 1)) rfl (rfl) ?_
  refine qs (f := dm_ii 1254 (fun x y => x + y)) rfl (rfl) ?_
  refine qs (f := dm_sld 1255 9 xs) rfl (dm_sld_ok (j := 1) (by decide) (by decide)) ?_
  refine qc (f := dm_inv 1258 208 1 8) rfl (dm_inv_ok io_44 rfl (Nat.le_of_ble_eq_true rfl)) (en_35 (xs 1) hw) ?_
  refine qs (f := dm_ic_eq 1261 1263) rfl (dm_ic_eq_t (by first | rfl | decide)) ?_
  refine qs (f := dm_iinc 1266 4 9) rfl (rfl) ?_
  refine qs (f := dm_goto 23) rfl (rfl) ?_
  refine qs (f := dm_ild 25 4) rfl (rfl) ?_
  refine qs (f := dm_ald 26 0) rfl (rfl) ?_
  refine qs (f := dm_sln 27 9) rfl (rfl) ?_
  refine qs (f := dm_push 29 (.int 9)) rfl (rfl) ?_
  refine qs (f := dm_ii 30 (fun x y => x - y)) rfl (rfl) ?_
  refine qs (f := dm_ic_gt 33 1269) rfl (dm_ic_gt_t (by decide)) ?_
  refine qs (f := dm_push 1270 (.int 1)) rfl (rfl) ?_
  exact qr (f := dm_ret .boolean) rfl rfl
set_option maxRecDepth 100000 in
theorem lo_67 (xs : Nat → Int32) (f1 f2 : dm_Sem) (h : xs 0 &&& 31 = 28) (hw : (xs 1) = 5) : ∃ M, dm_run ev_E (cdL 9 xs f1 f2) 1999976 (40, lvA, [.int (xs 0 &&& 31)]) ev_3 = some (some (.int 1), M) ∧ dm_bd M = true := by
  refine ⟨(ev_M (ev_E 208 [.ref 68, .int 5] (ev_M (ev_E 123 [.ref 0, .int 5] ev_3)))), ?_, bd_45⟩
  refine qs (f := dm_tsw 0 28 1263 [172, 183, 208, 233, 270, 295, 320, 357, 382, 419, 432, 469, 506, 543, 655, 774, 811, 860, 874, 887, 1042, 1067, 1092, 1161, 1186, 1199, 1212, 1225, 1238]) rfl (dm_tsw_at h rfl) ?_
  refine qs (f := dm_ald 1239 1) rfl (rfl) ?_
  refine qs (f := dm_ald 1240 0) rfl (rfl) ?_
  refine qs (f := dm_ild 1242 4) rfl (rfl) ?_
  refine qs (f := dm_push 1243 (.int 1)) rfl (rfl) ?_
  refine qs (f := dm_ii 1244 (fun x y => x + y)) rfl (rfl) ?_
  refine qs (f := dm_sld 1245 9 xs) rfl (dm_sld_ok (j := 1) (by decide) (by decide)) ?_
  refine qc (f := dm_inv 1248 123 1 7) rfl (dm_inv_ok io_0 rfl (Nat.le_of_ble_eq_true rfl)) (ez_36 (xs 1) hw) ?_
  refine qs (f := dm_ald 1249 2) rfl (rfl) ?_
  refine qs (f := dm_ald 1250 0) rfl (rfl) ?_
  refine qs (f := dm_ild 1252 4) rfl (rfl) ?_
  refine qs (f := dm_push 1253 (.int 1)) rfl (rfl) ?_
  refine qs (f := dm_ii 1254 (fun x y => x + y)) rfl (rfl) ?_
  refine qs (f := dm_sld 1255 9 xs) rfl (dm_sld_ok (j := 1) (by decide) (by decide)) ?_
  refine qc (f := dm_inv 1258 208 1 8) rfl (dm_inv_ok io_45 rfl (Nat.le_of_ble_eq_true rfl)) (en_36 (xs 1) hw) ?_
  refine qs (f := dm_ic_eq 1261 1263) rfl (dm_ic_eq_t (by first | rfl | decide)) ?_
  refine qs (f := dm_iinc 1266 4 9) rfl (rfl) ?_
  refine qs (f := dm_goto 23) rfl (rfl) ?_
  refine qs (f := dm_ild 25 4) rfl (rfl) ?_
  refine qs (f := dm_ald 26 0) rfl (rfl) ?_
  refine qs (f := dm_sln 27 9) rfl (rfl) ?_
  refine qs (f := dm_push 29 (.int 9)) rfl (rfl) ?_
  refine qs (f := dm_ii 30 (fun x y => x - y)) rfl (rfl) ?_
  refine qs (f := dm_ic_gt 33 1269) rfl (dm_ic_gt_t (by decide)) ?_
  refine qs (f := dm_push 1270 (.int 1)) rfl (rfl) ?_
  exact qr (f := dm_ret .boolean) rfl rfl
set_option maxRecDepth 100000 in
theorem lo_68 (xs : Nat → Int32) (f1 f2 : dm_Sem) (h : xs 0 &&& 31 = 28) (hw : (xs 1) = 6) : ∃ M, dm_run ev_E (cdL 9 xs f1 f2) 1999976 (40, lvA, [.int (xs 0 &&& 31)]) ev_3 = some (some (.int 1), M) ∧ dm_bd M = true := by
  refine ⟨(ev_M (ev_E 208 [.ref 68, .int 6] (ev_M (ev_E 123 [.ref 0, .int 6] ev_3)))), ?_, bd_46⟩
  refine qs (f := dm_tsw 0 28 1263 [172, 183, 208, 233, 270, 295, 320, 357, 382, 419, 432, 469, 506, 543, 655, 774, 811, 860, 874, 887, 1042, 1067, 1092, 1161, 1186, 1199, 1212, 1225, 1238]) rfl (dm_tsw_at h rfl) ?_
  refine qs (f := dm_ald 1239 1) rfl (rfl) ?_
  refine qs (f := dm_ald 1240 0) rfl (rfl) ?_
  refine qs (f := dm_ild 1242 4) rfl (rfl) ?_
  refine qs (f := dm_push 1243 (.int 1)) rfl (rfl) ?_
  refine qs (f := dm_ii 1244 (fun x y => x + y)) rfl (rfl) ?_
  refine qs (f := dm_sld 1245 9 xs) rfl (dm_sld_ok (j := 1) (by decide) (by decide)) ?_
  refine qc (f := dm_inv 1248 123 1 7) rfl (dm_inv_ok io_0 rfl (Nat.le_of_ble_eq_true rfl)) (ez_37 (xs 1) hw) ?_
  refine qs (f := dm_ald 1249 2) rfl (rfl) ?_
  refine qs (f := dm_ald 1250 0) rfl (rfl) ?_
  refine qs (f := dm_ild 1252 4) rfl (rfl) ?_
  refine qs (f := dm_push 1253 (.int 1)) rfl (rfl) ?_
  refine qs (f := dm_ii 1254 (fun x y => x + y)) rfl (rfl) ?_
  refine qs (f := dm_sld 1255 9 xs) rfl (dm_sld_ok (j := 1) (by decide) (by decide)) ?_
  refine qc (f := dm_inv 1258 208 1 8) rfl (dm_inv_ok io_46 rfl (Nat.le_of_ble_eq_true rfl)) (en_37 (xs 1) hw) ?_
  refine qs (f := dm_ic_eq 1261 1263) rfl (dm_ic_eq_t (by first | rfl | decide)) ?_
  refine qs (f := dm_iinc 1266 4 9) rfl (rfl) ?_
  refine qs (f := dm_goto 23) rfl (rfl) ?_
  refine qs (f := dm_ild 25 4) rfl (rfl) ?_
  refine qs (f := dm_ald 26 0) rfl (rfl) ?_
  refine qs (f := dm_sln 27 9) rfl (rfl) ?_
  refine qs (f := dm_push 29 (.int 9)) rfl (rfl) ?_
  refine qs (f := dm_ii 30 (fun x y => x - y)) rfl (rfl) ?_
  refine qs (f := dm_ic_gt 33 1269) rfl (dm_ic_gt_t (by decide)) ?_
  refine qs (f := dm_push 1270 (.int 1)) rfl (rfl) ?_
  exact qr (f := dm_ret .boolean) rfl rfl
set_option maxRecDepth 100000 in
theorem lo_69 (xs : Nat → Int32) (f1 f2 : dm_Sem) (h : xs 0 &&& 31 = 28) (hw : (xs 1).toInt < 0 ∨ 6 < (xs 1).toInt) : ∃ M, dm_run ev_E (cdL 9 xs f1 f2) 1999976 (40, lvA, [.int (xs 0 &&& 31)]) ev_3 = some (some (.int 1), M) ∧ dm_bd M = true := by
  refine ⟨ev_3, ?_, bd_2⟩
  refine qs (f := dm_tsw 0 28 1263 [172, 183, 208, 233, 270, 295, 320, 357, 382, 419, 432, 469, 506, 543, 655, 774, 811, 860, 874, 887, 1042, 1067, 1092, 1161, 1186, 1199, 1212, 1225, 1238]) rfl (dm_tsw_at h rfl) ?_
  refine qs (f := dm_ald 1239 1) rfl (rfl) ?_
  refine qs (f := dm_ald 1240 0) rfl (rfl) ?_
  refine qs (f := dm_ild 1242 4) rfl (rfl) ?_
  refine qs (f := dm_push 1243 (.int 1)) rfl (rfl) ?_
  refine qs (f := dm_ii 1244 (fun x y => x + y)) rfl (rfl) ?_
  refine qs (f := dm_sld 1245 9 xs) rfl (dm_sld_ok (j := 1) (by decide) (by decide)) ?_
  refine qc (f := dm_inv 1248 123 1 7) rfl (dm_inv_ok io_0 rfl (Nat.le_of_ble_eq_true rfl)) (sy_71 (xs 1) hw) ?_
  refine qs (f := dm_ald 1249 2) rfl (rfl) ?_
  refine qs (f := dm_ald 1250 0) rfl (rfl) ?_
  refine qs (f := dm_ild 1252 4) rfl (rfl) ?_
  refine qs (f := dm_push 1253 (.int 1)) rfl (rfl) ?_
  refine qs (f := dm_ii 1254 (fun x y => x + y)) rfl (rfl) ?_
  refine qs (f := dm_sld 1255 9 xs) rfl (dm_sld_ok (j := 1) (by decide) (by decide)) ?_
  refine qc (f := dm_inv 1258 208 1 8) rfl (dm_inv_ok io_3 rfl (Nat.le_of_ble_eq_true rfl)) (sy_72 (xs 1) hw) ?_
  refine qs (f := dm_ic_eq 1261 1263) rfl (dm_ic_eq_t (by first | rfl | decide)) ?_
  refine qs (f := dm_iinc 1266 4 9) rfl (rfl) ?_
  refine qs (f := dm_goto 23) rfl (rfl) ?_
  refine qs (f := dm_ild 25 4) rfl (rfl) ?_
  refine qs (f := dm_ald 26 0) rfl (rfl) ?_
  refine qs (f := dm_sln 27 9) rfl (rfl) ?_
  refine qs (f := dm_push 29 (.int 9)) rfl (rfl) ?_
  refine qs (f := dm_ii 30 (fun x y => x - y)) rfl (rfl) ?_
  refine qs (f := dm_ic_gt 33 1269) rfl (dm_ic_gt_t (by decide)) ?_
  refine qs (f := dm_push 1270 (.int 1)) rfl (rfl) ?_
  exact qr (f := dm_ret .boolean) rfl rfl
set_option maxRecDepth 100000 in
theorem lo_70 (xs : Nat → Int32) (f1 f2 : dm_Sem) (h : xs 0 &&& 31 = 22) (h1 : ¬ xs 3 < 0) (h2 : ¬ 64 < xs 3) : ∃ M, dm_run ev_E (cdL 9 xs f1 f2) 1999976 (40, lvA, [.int (xs 0 &&& 31)]) ev_3 = some (some (.int 1), M) ∧ dm_bd M = true := by
  obtain ⟨M1, M2, hc, ho, hm, hb⟩ := ad_both (((xs 1).toInt64 <<< ((32 : Int32).toInt64 &&& 63)) ||| ((xs 2).toInt64 &&& (4294967295 : Int64))) (xs 3) h1 h2
  refine ⟨M2, ?_, hb⟩
  refine qs (f := dm_tsw 0 28 1263 [172, 183, 208, 233, 270, 295, 320, 357, 382, 419, 432, 469, 506, 543, 655, 774, 811, 860, 874, 887, 1042, 1067, 1092, 1161, 1186, 1199, 1212, 1225, 1238]) rfl (dm_tsw_at h rfl) ?_
  refine qs (f := dm_ald 1093 1) rfl (rfl) ?_
  refine qs (f := dm_ald 1094 0) rfl (rfl) ?_
  refine qs (f := dm_ild 1096 4) rfl (rfl) ?_
  refine qs (f := dm_push 1097 (.int 1)) rfl (rfl) ?_
  refine qs (f := dm_ii 1098 (fun x y => x + y)) rfl (rfl) ?_
  refine qs (f := dm_sld 1099 9 xs) rfl (dm_sld_ok (j := 1) (by decide) (by decide)) ?_
  refine qs (f := dm_i1 1100 (fun x => .long x.toInt64)) rfl (rfl) ?_
  refine qs (f := dm_push 1102 (.int 32)) rfl (rfl) ?_
  refine qs (f := dm_li 1103 (fun x y => x <<< (y.toInt64 &&& 63))) rfl (rfl) ?_
  refine qs (f := dm_ald 1104 0) rfl (rfl) ?_
  refine qs (f := dm_ild 1106 4) rfl (rfl) ?_
  refine qs (f := dm_push 1107 (.int 2)) rfl (rfl) ?_
  refine qs (f := dm_ii 1108 (fun x y => x + y)) rfl (rfl) ?_
  refine qs (f := dm_sld 1109 9 xs) rfl (dm_sld_ok (j := 2) (by decide) (by decide)) ?_
  refine qs (f := dm_i1 1110 (fun x => .long x.toInt64)) rfl (rfl) ?_
  refine qs (f := dm_push 1113 (.long 4294967295)) rfl (rfl) ?_
  refine qs (f := dm_ll 1114 (fun x y => x &&& y)) rfl (rfl) ?_
  refine qs (f := dm_ll 1115 (fun x y => x ||| y)) rfl (rfl) ?_
  refine qs (f := dm_ald 1116 0) rfl (rfl) ?_
  refine qs (f := dm_ild 1118 4) rfl (rfl) ?_
  refine qs (f := dm_push 1119 (.int 3)) rfl (rfl) ?_
  refine qs (f := dm_ii 1120 (fun x y => x + y)) rfl (rfl) ?_
  refine qs (f := dm_sld 1121 9 xs) rfl (dm_sld_ok (j := 3) (by decide) (by decide)) ?_
  refine qc (f := dm_inv 1124 117 2 7) rfl (dm_inv_ok io_0 rfl (Nat.le_of_ble_eq_true rfl)) (hc) ?_
  refine qs (f := dm_ald 1125 2) rfl (rfl) ?_
  refine qs (f := dm_ald 1126 0) rfl (rfl) ?_
  refine qs (f := dm_ild 1128 4) rfl (rfl) ?_
  refine qs (f := dm_push 1129 (.int 1)) rfl (rfl) ?_
  refine qs (f := dm_ii 1130 (fun x y => x + y)) rfl (rfl) ?_
  refine qs (f := dm_sld 1131 9 xs) rfl (dm_sld_ok (j := 1) (by decide) (by decide)) ?_
  refine qs (f := dm_i1 1132 (fun x => .long x.toInt64)) rfl (rfl) ?_
  refine qs (f := dm_push 1134 (.int 32)) rfl (rfl) ?_
  refine qs (f := dm_li 1135 (fun x y => x <<< (y.toInt64 &&& 63))) rfl (rfl) ?_
  refine qs (f := dm_ald 1136 0) rfl (rfl) ?_
  refine qs (f := dm_ild 1138 4) rfl (rfl) ?_
  refine qs (f := dm_push 1139 (.int 2)) rfl (rfl) ?_
  refine qs (f := dm_ii 1140 (fun x y => x + y)) rfl (rfl) ?_
  refine qs (f := dm_sld 1141 9 xs) rfl (dm_sld_ok (j := 2) (by decide) (by decide)) ?_
  refine qs (f := dm_i1 1142 (fun x => .long x.toInt64)) rfl (rfl) ?_
  refine qs (f := dm_push 1145 (.long 4294967295)) rfl (rfl) ?_
  refine qs (f := dm_ll 1146 (fun x y => x &&& y)) rfl (rfl) ?_
  refine qs (f := dm_ll 1147 (fun x y => x ||| y)) rfl (rfl) ?_
  refine qs (f := dm_ald 1148 0) rfl (rfl) ?_
  refine qs (f := dm_ild 1150 4) rfl (rfl) ?_
  refine qs (f := dm_push 1151 (.int 3)) rfl (rfl) ?_
  refine qs (f := dm_ii 1152 (fun x y => x + y)) rfl (rfl) ?_
  refine qs (f := dm_sld 1153 9 xs) rfl (dm_sld_ok (j := 3) (by decide) (by decide)) ?_
  refine qc (f := dm_inv 1156 196 2 8) rfl (dm_inv_ok ho rfl (Nat.le_of_ble_eq_true rfl)) (hm) ?_
  refine qs (f := dm_ic_eq 1159 1263) rfl (dm_ic_eq_t (by first | rfl | decide)) ?_
  refine qs (f := dm_iinc 1266 4 9) rfl (rfl) ?_
  refine qs (f := dm_goto 23) rfl (rfl) ?_
  refine qs (f := dm_ild 25 4) rfl (rfl) ?_
  refine qs (f := dm_ald 26 0) rfl (rfl) ?_
  refine qs (f := dm_sln 27 9) rfl (rfl) ?_
  refine qs (f := dm_push 29 (.int 9)) rfl (rfl) ?_
  refine qs (f := dm_ii 30 (fun x y => x - y)) rfl (rfl) ?_
  refine qs (f := dm_ic_gt 33 1269) rfl (dm_ic_gt_t (by decide)) ?_
  refine qs (f := dm_push 1270 (.int 1)) rfl (rfl) ?_
  exact qr (f := dm_ret .boolean) rfl rfl
set_option maxRecDepth 100000 in
theorem lo_71 (xs : Nat → Int32) (f1 f2 : dm_Sem) (h : xs 0 &&& 31 = 26) : ∃ M, dm_run ev_E (cdL 9 xs f1 f2) 1999976 (40, lvA, [.int (xs 0 &&& 31)]) ev_3 = some (some (.int 1), M) ∧ dm_bd M = true := by
  obtain ⟨M2, hm, hb⟩ := im_ev
  refine ⟨M2, ?_, hb⟩
  refine qs (f := dm_tsw 0 28 1263 [172, 183, 208, 233, 270, 295, 320, 357, 382, 419, 432, 469, 506, 543, 655, 774, 811, 860, 874, 887, 1042, 1067, 1092, 1161, 1186, 1199, 1212, 1225, 1238]) rfl (dm_tsw_at h rfl) ?_
  refine qs (f := dm_ald 1213 1) rfl (rfl) ?_
  refine qc (f := dm_inv 1216 121 0 7) rfl (dm_inv_ok io_0 rfl (Nat.le_of_ble_eq_true rfl)) ((ev_ok im_c.1 : _ = some (_, im_M))) ?_
  refine qs (f := dm_ald 1217 2) rfl (rfl) ?_
  refine qc (f := dm_inv 1220 206 0 8) rfl (dm_inv_ok im_c.2.2.2.2 rfl (Nat.le_of_ble_eq_true rfl)) (hm) ?_
  refine qs (f := dm_ic_eq 1223 1263) rfl (dm_ic_eq_t (by first | rfl | decide)) ?_
  refine qs (f := dm_iinc 1266 4 9) rfl (rfl) ?_
  refine qs (f := dm_goto 23) rfl (rfl) ?_
  refine qs (f := dm_ild 25 4) rfl (rfl) ?_
  refine qs (f := dm_ald 26 0) rfl (rfl) ?_
  refine qs (f := dm_sln 27 9) rfl (rfl) ?_
  refine qs (f := dm_push 29 (.int 9)) rfl (rfl) ?_
  refine qs (f := dm_ii 30 (fun x y => x - y)) rfl (rfl) ?_
  refine qs (f := dm_ic_gt 33 1269) rfl (dm_ic_gt_t (by decide)) ?_
  refine qs (f := dm_push 1270 (.int 1)) rfl (rfl) ?_
  exact qr (f := dm_ret .boolean) rfl rfl
set_option maxRecDepth 100000 in
theorem lo_72 (xs : Nat → Int32) (f1 f2 : dm_Sem) (h : xs 0 &&& 31 = 29) : ∃ M, dm_run ev_E (cdL 9 xs f1 f2) 1999976 (40, lvA, [.int (xs 0 &&& 31)]) ev_3 = some (some (.int 1), M) ∧ dm_bd M = true := by
  refine ⟨ev_3, ?_, bd_2⟩
  refine qs (f := dm_tsw 0 28 1263 [172, 183, 208, 233, 270, 295, 320, 357, 382, 419, 432, 469, 506, 543, 655, 774, 811, 860, 874, 887, 1042, 1067, 1092, 1161, 1186, 1199, 1212, 1225, 1238]) rfl (dm_tsw_at h rfl) ?_
  refine qs (f := dm_iinc 1266 4 9) rfl rfl ?_
  refine qs (f := dm_goto 23) rfl rfl ?_
  refine qs (f := dm_ild 25 4) rfl rfl ?_
  refine qs (f := dm_ald 26 0) rfl rfl ?_
  refine qs (f := dm_sln 27 9) rfl rfl ?_
  refine qs (f := dm_push 29 (.int 9)) rfl rfl ?_
  refine qs (f := dm_ii 30 (fun x y => x - y)) rfl rfl ?_
  refine qs (f := dm_ic_gt 33 1269) rfl (dm_ic_gt_t (by decide)) ?_
  refine qs (f := dm_push 1270 (.int 1)) rfl rfl ?_
  exact qr (f := dm_ret .boolean) rfl rfl
set_option maxRecDepth 100000 in
theorem lo_73 (xs : Nat → Int32) (f1 f2 : dm_Sem) (h : xs 0 &&& 31 = 30) : ∃ M, dm_run ev_E (cdL 9 xs f1 f2) 1999976 (40, lvA, [.int (xs 0 &&& 31)]) ev_3 = some (some (.int 1), M) ∧ dm_bd M = true := by
  refine ⟨ev_3, ?_, bd_2⟩
  refine qs (f := dm_tsw 0 28 1263 [172, 183, 208, 233, 270, 295, 320, 357, 382, 419, 432, 469, 506, 543, 655, 774, 811, 860, 874, 887, 1042, 1067, 1092, 1161, 1186, 1199, 1212, 1225, 1238]) rfl (dm_tsw_at h rfl) ?_
  refine qs (f := dm_iinc 1266 4 9) rfl rfl ?_
  refine qs (f := dm_goto 23) rfl rfl ?_
  refine qs (f := dm_ild 25 4) rfl rfl ?_
  refine qs (f := dm_ald 26 0) rfl rfl ?_
  refine qs (f := dm_sln 27 9) rfl rfl ?_
  refine qs (f := dm_push 29 (.int 9)) rfl rfl ?_
  refine qs (f := dm_ii 30 (fun x y => x - y)) rfl rfl ?_
  refine qs (f := dm_ic_gt 33 1269) rfl (dm_ic_gt_t (by decide)) ?_
  refine qs (f := dm_push 1270 (.int 1)) rfl rfl ?_
  exact qr (f := dm_ret .boolean) rfl rfl
set_option maxRecDepth 100000 in
theorem lo_74 (xs : Nat → Int32) (f1 f2 : dm_Sem) (h : xs 0 &&& 31 = 31) : ∃ M, dm_run ev_E (cdL 9 xs f1 f2) 1999976 (40, lvA, [.int (xs 0 &&& 31)]) ev_3 = some (some (.int 1), M) ∧ dm_bd M = true := by
  refine ⟨ev_3, ?_, bd_2⟩
  refine qs (f := dm_tsw 0 28 1263 [172, 183, 208, 233, 270, 295, 320, 357, 382, 419, 432, 469, 506, 543, 655, 774, 811, 860, 874, 887, 1042, 1067, 1092, 1161, 1186, 1199, 1212, 1225, 1238]) rfl (dm_tsw_at h rfl) ?_
  refine qs (f := dm_iinc 1266 4 9) rfl rfl ?_
  refine qs (f := dm_goto 23) rfl rfl ?_
  refine qs (f := dm_ild 25 4) rfl rfl ?_
  refine qs (f := dm_ald 26 0) rfl rfl ?_
  refine qs (f := dm_sln 27 9) rfl rfl ?_
  refine qs (f := dm_push 29 (.int 9)) rfl rfl ?_
  refine qs (f := dm_ii 30 (fun x y => x - y)) rfl rfl ?_
  refine qs (f := dm_ic_gt 33 1269) rfl (dm_ic_gt_t (by decide)) ?_
  refine qs (f := dm_push 1270 (.int 1)) rfl rfl ?_
  exact qr (f := dm_ret .boolean) rfl rfl
