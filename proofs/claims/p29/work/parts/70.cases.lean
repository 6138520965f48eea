/-! the law's cases -/
noncomputable abbrev lwC (L : Nat) (xs : Nat → Int32) : dm_Code := cdL L xs (tl_sX 140 lw_G false 582) (tl_sX 140 lw_G true 666)
def LI (T : Int) (M : dm_Mem) : Prop := ∃ (S C : Nat) (fl : Int32) (q : rS), LK T S C fl q M ∧ q.1 41 = fl ∧ (S : Int) ≤ 7289900 + 6 * T ∧ (C : Int) ≤ 600500 + T
theorem lo_0 {L : Nat} {xs : Nat → Int32} {i : Int32} {lv : dm_Lv} {M : dm_Mem} {T : Int} {Q : Option Value → dm_Mem → Prop} (hL : L ≤ 4608) (i0 : 0 ≤ i.toInt) (i1 : i.toInt + 8 < L) (hV : lw_V i lv) (hI : LI T M) (hT6 : 0 ≤ T ∧ T ≤ 600) (K : ∀ lv' M', lw_V i lv' → LI (T + 1) M' → hG 140 (lwC L xs) 1199 lv' [] M' Q) : hG 140 (lwC L xs) 172 lv [] M Q := by
  obtain ⟨S, C, fl, q, hK, e0, hS, hC⟩ := hI
  refine hs (f := dm_ald 173 1) rfl (lw_ld hV.2.1) ?_
  refine lw_c (fl' := fl) (V := fun r => r = none) (n := 176) (mj := 95) (na := 0) rfl rfl rfl (Nat.le_of_ble_eq_true rfl) hK hK.2.2.2.1 (hT_mono (by decide) (sp_95 rfl hK.1 lw_7 ) (fun r M' w => ⟨w.1, w.2⟩)) (fun r1 M2 w hK1 => ?_)
  subst w
  refine hs (f := dm_ald 177 2) rfl (lw_ld hV.2.2.1) ?_
  refine lw_m (T' := T + 1) (V := fun r q' => r = none ∧ q'.1 41 = q.1 41) (n := 180) (mj := 135) (na := 0) rfl rfl rfl (Nat.le_of_ble_eq_true rfl) hK1 (hT_mono (by decide) (op_135 hK1.2.1 hK1.2.2.1 hT6 ) (fun r M' w => by obtain ⟨h1, q', h2, h3, h4⟩ := w; exact ⟨q', ⟨h1, h4⟩, h2, h3⟩)) (fun r1 M4 q5 w hK3 => ?_)
  obtain ⟨rfl, e6⟩ := w
  refine hs (f := dm_goto 1199) rfl rfl ?_
  exact K _ _ hV ⟨S, C, fl, q5, hK3, (e6.trans e0), by omega, by omega⟩
theorem lo_1 {L : Nat} {xs : Nat → Int32} {i : Int32} {lv : dm_Lv} {M : dm_Mem} {T : Int} {Q : Option Value → dm_Mem → Prop} (hL : L ≤ 4608) (i0 : 0 ≤ i.toInt) (i1 : i.toInt + 8 < L) (hV : lw_V i lv) (hI : LI T M) (hT6 : 0 ≤ T ∧ T ≤ 600) (K : ∀ lv' M', lw_V i lv' → LI (T + 1) M' → hG 140 (lwC L xs) 1199 lv' [] M' Q) : hG 140 (lwC L xs) 183 lv [] M Q := by
  obtain ⟨S, C, fl, q, hK, e0, hS, hC⟩ := hI
  refine hs (f := dm_ald 184 1) rfl (lw_ld hV.2.1) ?_
  refine hs (f := dm_ald 185 0) rfl (lw_lf hV.1) ?_
  refine hs (f := dm_ild 187 4) rfl (lw_li hV.2.2.2.2) ?_
  refine hs (f := dm_push 188 (.int 1)) rfl rfl ?_
  refine hs (f := dm_ii 189 (fun x y => x + y)) rfl rfl ?_
  refine hs (f := dm_sld 190 L xs) rfl (lw_sx (lw_ad (c := 1) (k := 1) rfl i0 i1 hL (by decide) (by decide)).1 (lw_ad (c := 1) (k := 1) rfl i0 i1 hL (by decide) (by decide)).2) ?_
  refine lw_c (fl' := fl) (V := fun r => ∃ x : Int32, r = some (.int x)) (n := 193) (mj := 96) (na := 1) rfl rfl rfl (Nat.le_of_ble_eq_true rfl) hK hK.2.2.2.1 (hT_mono (by decide) (sp_96 hK.1 lw_7 ((xs (i + (1 : Int32)).toNatClampNeg))) (fun r M' w => by obtain ⟨x, h1, h2⟩ := w; exact ⟨⟨x, h1⟩, h2⟩)) (fun r1 M2 w hK1 => ?_)
  obtain ⟨x3, rfl⟩ := w
  refine hs (f := dm_pop 194) rfl rfl ?_
  refine hs (f := dm_ald 195 2) rfl (lw_ld hV.2.2.1) ?_
  refine hs (f := dm_ald 196 0) rfl (lw_lf hV.1) ?_
  refine hs (f := dm_ild 198 4) rfl (lw_li hV.2.2.2.2) ?_
  refine hs (f := dm_push 199 (.int 1)) rfl rfl ?_
  refine hs (f := dm_ii 200 (fun x y => x + y)) rfl rfl ?_
  refine hs (f := dm_sld 201 L xs) rfl (lw_sx (lw_ad (c := 1) (k := 1) rfl i0 i1 hL (by decide) (by decide)).1 (lw_ad (c := 1) (k := 1) rfl i0 i1 hL (by decide) (by decide)).2) ?_
  refine lw_m (T' := T + 1) (V := fun r q' => (∃ x : Int32, r = some (.int x)) ∧ q'.1 41 = q.1 41) (n := 204) (mj := 157) (na := 1) rfl rfl rfl (Nat.le_of_ble_eq_true rfl) hK1 (hT_mono (by decide) (op_157 hK1.2.1 hK1.2.2.1 hT6 ((xs (i + (1 : Int32)).toNatClampNeg))) (fun r M' w => by obtain ⟨x, q', h1, h2, h3, h4⟩ := w; exact ⟨q', ⟨⟨x, h1⟩, h4⟩, h2, h3⟩)) (fun r1 M5 q6 w hK4 => ?_)
  obtain ⟨⟨x8, rfl⟩, e7⟩ := w
  refine hs (f := dm_pop 205) rfl rfl ?_
  refine hs (f := dm_goto 1199) rfl rfl ?_
  exact K _ _ hV ⟨S, C, fl, q6, hK4, (e7.trans e0), by omega, by omega⟩
theorem lo_2 {L : Nat} {xs : Nat → Int32} {i : Int32} {lv : dm_Lv} {M : dm_Mem} {T : Int} {Q : Option Value → dm_Mem → Prop} (hL : L ≤ 4608) (i0 : 0 ≤ i.toInt) (i1 : i.toInt + 8 < L) (hV : lw_V i lv) (hI : LI T M) (hT6 : 0 ≤ T ∧ T ≤ 600) (K : ∀ lv' M', lw_V i lv' → LI (T + 1) M' → hG 140 (lwC L xs) 1199 lv' [] M' Q) : hG 140 (lwC L xs) 208 lv [] M Q := by
  obtain ⟨S, C, fl, q, hK, e0, hS, hC⟩ := hI
  refine hs (f := dm_ald 209 1) rfl (lw_ld hV.2.1) ?_
  refine hs (f := dm_ald 210 0) rfl (lw_lf hV.1) ?_
  refine hs (f := dm_ild 212 4) rfl (lw_li hV.2.2.2.2) ?_
  refine hs (f := dm_push 213 (.int 1)) rfl rfl ?_
  refine hs (f := dm_ii 214 (fun x y => x + y)) rfl rfl ?_
  refine hs (f := dm_sld 215 L xs) rfl (lw_sx (lw_ad (c := 1) (k := 1) rfl i0 i1 hL (by decide) (by decide)).1 (lw_ad (c := 1) (k := 1) rfl i0 i1 hL (by decide) (by decide)).2) ?_
  refine lw_c (fl' := fl) (V := fun r => ∃ x : Int32, r = some (.int x)) (n := 218) (mj := 97) (na := 1) rfl rfl rfl (Nat.le_of_ble_eq_true rfl) hK hK.2.2.2.1 (hT_mono (by decide) (sp_97 hK.1 lw_7 ((xs (i + (1 : Int32)).toNatClampNeg))) (fun r M' w => by obtain ⟨x, h1, h2⟩ := w; exact ⟨⟨x, h1⟩, h2⟩)) (fun r1 M2 w hK1 => ?_)
  obtain ⟨x3, rfl⟩ := w
  refine hs (f := dm_pop 219) rfl rfl ?_
  refine hs (f := dm_ald 220 2) rfl (lw_ld hV.2.2.1) ?_
  refine hs (f := dm_ald 221 0) rfl (lw_lf hV.1) ?_
  refine hs (f := dm_ild 223 4) rfl (lw_li hV.2.2.2.2) ?_
  refine hs (f := dm_push 224 (.int 1)) rfl rfl ?_
  refine hs (f := dm_ii 225 (fun x y => x + y)) rfl rfl ?_
  refine hs (f := dm_sld 226 L xs) rfl (lw_sx (lw_ad (c := 1) (k := 1) rfl i0 i1 hL (by decide) (by decide)).1 (lw_ad (c := 1) (k := 1) rfl i0 i1 hL (by decide) (by decide)).2) ?_
  refine lw_m (T' := T + 1) (V := fun r q' => (∃ x : Int32, r = some (.int x)) ∧ q'.1 41 = q.1 41) (n := 229) (mj := 162) (na := 1) rfl rfl rfl (Nat.le_of_ble_eq_true rfl) hK1 (hT_mono (by decide) (op_162 hK1.2.1 hK1.2.2.1 hT6 ((xs (i + (1 : Int32)).toNatClampNeg))) (fun r M' w => by obtain ⟨x, q', h1, h2, h3, h4⟩ := w; exact ⟨q', ⟨⟨x, h1⟩, h4⟩, h2, h3⟩)) (fun r1 M5 q6 w hK4 => ?_)
  obtain ⟨⟨x8, rfl⟩, e7⟩ := w
  refine hs (f := dm_pop 230) rfl rfl ?_
  refine hs (f := dm_goto 1199) rfl rfl ?_
  exact K _ _ hV ⟨S, C, fl, q6, hK4, (e7.trans e0), by omega, by omega⟩
theorem lo_3 {L : Nat} {xs : Nat → Int32} {i : Int32} {lv : dm_Lv} {M : dm_Mem} {T : Int} {Q : Option Value → dm_Mem → Prop} (hL : L ≤ 4608) (i0 : 0 ≤ i.toInt) (i1 : i.toInt + 8 < L) (hV : lw_V i lv) (hI : LI T M) (hT6 : 0 ≤ T ∧ T ≤ 600) (K : ∀ lv' M', lw_V i lv' → LI (T + 1) M' → hG 140 (lwC L xs) 1199 lv' [] M' Q) : hG 140 (lwC L xs) 233 lv [] M Q := by
  obtain ⟨S, C, fl, q, hK, e0, hS, hC⟩ := hI
  refine hs (f := dm_ald 234 1) rfl (lw_ld hV.2.1) ?_
  refine hs (f := dm_ald 235 0) rfl (lw_lf hV.1) ?_
  refine hs (f := dm_ild 237 4) rfl (lw_li hV.2.2.2.2) ?_
  refine hs (f := dm_push 238 (.int 1)) rfl rfl ?_
  refine hs (f := dm_ii 239 (fun x y => x + y)) rfl rfl ?_
  refine hs (f := dm_sld 240 L xs) rfl (lw_sx (lw_ad (c := 1) (k := 1) rfl i0 i1 hL (by decide) (by decide)).1 (lw_ad (c := 1) (k := 1) rfl i0 i1 hL (by decide) (by decide)).2) ?_
  refine hs (f := dm_ald 241 0) rfl (lw_lf hV.1) ?_
  refine hs (f := dm_ild 243 4) rfl (lw_li hV.2.2.2.2) ?_
  refine hs (f := dm_push 244 (.int 2)) rfl rfl ?_
  refine hs (f := dm_ii 245 (fun x y => x + y)) rfl rfl ?_
  refine hs (f := dm_sld 246 L xs) rfl (lw_sx (lw_ad (c := 2) (k := 2) rfl i0 i1 hL (by decide) (by decide)).1 (lw_ad (c := 2) (k := 2) rfl i0 i1 hL (by decide) (by decide)).2) ?_
  refine lw_c (fl' := fl) (V := fun r => ∃ x : Int32, r = some (.int x)) (n := 249) (mj := 98) (na := 2) rfl rfl rfl (Nat.le_of_ble_eq_true rfl) hK hK.2.2.2.1 (hT_mono (by decide) (sp_98 hK.1 lw_7 ((xs (i + (1 : Int32)).toNatClampNeg)) ((xs (i + (2 : Int32)).toNatClampNeg))) (fun r M' w => by obtain ⟨x, h1, h2⟩ := w; exact ⟨⟨x, h1⟩, h2⟩)) (fun r1 M2 w hK1 => ?_)
  obtain ⟨x3, rfl⟩ := w
  refine hs (f := dm_pop 250) rfl rfl ?_
  refine hs (f := dm_ald 251 2) rfl (lw_ld hV.2.2.1) ?_
  refine hs (f := dm_ald 252 0) rfl (lw_lf hV.1) ?_
  refine hs (f := dm_ild 254 4) rfl (lw_li hV.2.2.2.2) ?_
  refine hs (f := dm_push 255 (.int 1)) rfl rfl ?_
  refine hs (f := dm_ii 256 (fun x y => x + y)) rfl rfl ?_
  refine hs (f := dm_sld 257 L xs) rfl (lw_sx (lw_ad (c := 1) (k := 1) rfl i0 i1 hL (by decide) (by decide)).1 (lw_ad (c := 1) (k := 1) rfl i0 i1 hL (by decide) (by decide)).2) ?_
  refine hs (f := dm_ald 258 0) rfl (lw_lf hV.1) ?_
  refine hs (f := dm_ild 260 4) rfl (lw_li hV.2.2.2.2) ?_
  refine hs (f := dm_push 261 (.int 2)) rfl rfl ?_
  refine hs (f := dm_ii 262 (fun x y => x + y)) rfl rfl ?_
  refine hs (f := dm_sld 263 L xs) rfl (lw_sx (lw_ad (c := 2) (k := 2) rfl i0 i1 hL (by decide) (by decide)).1 (lw_ad (c := 2) (k := 2) rfl i0 i1 hL (by decide) (by decide)).2) ?_
  refine lw_m (T' := T + 1) (V := fun r q' => (∃ x : Int32, r = some (.int x)) ∧ q'.1 41 = q.1 41) (n := 266) (mj := 166) (na := 2) rfl rfl rfl (Nat.le_of_ble_eq_true rfl) hK1 (hT_mono (by decide) (op_166 hK1.2.1 hK1.2.2.1 hT6 ((xs (i + (1 : Int32)).toNatClampNeg)) ((xs (i + (2 : Int32)).toNatClampNeg))) (fun r M' w => by obtain ⟨x, q', h1, h2, h3, h4⟩ := w; exact ⟨q', ⟨⟨x, h1⟩, h4⟩, h2, h3⟩)) (fun r1 M5 q6 w hK4 => ?_)
  obtain ⟨⟨x8, rfl⟩, e7⟩ := w
  refine hs (f := dm_pop 267) rfl rfl ?_
  refine hs (f := dm_goto 1199) rfl rfl ?_
  exact K _ _ hV ⟨S, C, fl, q6, hK4, (e7.trans e0), by omega, by omega⟩
theorem lo_4 {L : Nat} {xs : Nat → Int32} {i : Int32} {lv : dm_Lv} {M : dm_Mem} {T : Int} {Q : Option Value → dm_Mem → Prop} (hL : L ≤ 4608) (i0 : 0 ≤ i.toInt) (i1 : i.toInt + 8 < L) (hV : lw_V i lv) (hI : LI T M) (hT6 : 0 ≤ T ∧ T ≤ 600) (K : ∀ lv' M', lw_V i lv' → LI (T + 1) M' → hG 140 (lwC L xs) 1199 lv' [] M' Q) : hG 140 (lwC L xs) 270 lv [] M Q := by
  obtain ⟨S, C, fl, q, hK, e0, hS, hC⟩ := hI
  refine hs (f := dm_ald 271 1) rfl (lw_ld hV.2.1) ?_
  refine hs (f := dm_ald 272 0) rfl (lw_lf hV.1) ?_
  refine hs (f := dm_ild 274 4) rfl (lw_li hV.2.2.2.2) ?_
  refine hs (f := dm_push 275 (.int 1)) rfl rfl ?_
  refine hs (f := dm_ii 276 (fun x y => x + y)) rfl rfl ?_
  refine hs (f := dm_sld 277 L xs) rfl (lw_sx (lw_ad (c := 1) (k := 1) rfl i0 i1 hL (by decide) (by decide)).1 (lw_ad (c := 1) (k := 1) rfl i0 i1 hL (by decide) (by decide)).2) ?_
  refine lw_c (fl' := fl) (V := fun r => ∃ x : Int32, r = some (.int x)) (n := 280) (mj := 99) (na := 1) rfl rfl rfl (Nat.le_of_ble_eq_true rfl) hK hK.2.2.2.1 (hT_mono (by decide) (sp_99 hK.1 lw_7 ((xs (i + (1 : Int32)).toNatClampNeg))) (fun r M' w => by obtain ⟨x, h1, h2⟩ := w; exact ⟨⟨x, h1⟩, h2⟩)) (fun r1 M2 w hK1 => ?_)
  obtain ⟨x3, rfl⟩ := w
  refine hs (f := dm_pop 281) rfl rfl ?_
  refine hs (f := dm_ald 282 2) rfl (lw_ld hV.2.2.1) ?_
  refine hs (f := dm_ald 283 0) rfl (lw_lf hV.1) ?_
  refine hs (f := dm_ild 285 4) rfl (lw_li hV.2.2.2.2) ?_
  refine hs (f := dm_push 286 (.int 1)) rfl rfl ?_
  refine hs (f := dm_ii 287 (fun x y => x + y)) rfl rfl ?_
  refine hs (f := dm_sld 288 L xs) rfl (lw_sx (lw_ad (c := 1) (k := 1) rfl i0 i1 hL (by decide) (by decide)).1 (lw_ad (c := 1) (k := 1) rfl i0 i1 hL (by decide) (by decide)).2) ?_
  refine lw_m (T' := T + 1) (V := fun r q' => (∃ x : Int32, r = some (.int x)) ∧ q'.1 41 = q.1 41) (n := 291) (mj := 167) (na := 1) rfl rfl rfl (Nat.le_of_ble_eq_true rfl) hK1 (hT_mono (by decide) (op_167 hK1.2.1 hK1.2.2.1 hT6 ((xs (i + (1 : Int32)).toNatClampNeg))) (fun r M' w => by obtain ⟨x, q', h1, h2, h3, h4⟩ := w; exact ⟨q', ⟨⟨x, h1⟩, h4⟩, h2, h3⟩)) (fun r1 M5 q6 w hK4 => ?_)
  obtain ⟨⟨x8, rfl⟩, e7⟩ := w
  refine hs (f := dm_pop 292) rfl rfl ?_
  refine hs (f := dm_goto 1199) rfl rfl ?_
  exact K _ _ hV ⟨S, C, fl, q6, hK4, (e7.trans e0), by omega, by omega⟩
theorem lo_5 {L : Nat} {xs : Nat → Int32} {i : Int32} {lv : dm_Lv} {M : dm_Mem} {T : Int} {Q : Option Value → dm_Mem → Prop} (hL : L ≤ 4608) (i0 : 0 ≤ i.toInt) (i1 : i.toInt + 8 < L) (hV : lw_V i lv) (hI : LI T M) (hT6 : 0 ≤ T ∧ T ≤ 600) (K : ∀ lv' M', lw_V i lv' → LI (T + 1) M' → hG 140 (lwC L xs) 1199 lv' [] M' Q) : hG 140 (lwC L xs) 295 lv [] M Q := by
  obtain ⟨S, C, fl, q, hK, e0, hS, hC⟩ := hI
  refine hs (f := dm_ald 296 1) rfl (lw_ld hV.2.1) ?_
  refine hs (f := dm_ald 297 0) rfl (lw_lf hV.1) ?_
  refine hs (f := dm_ild 299 4) rfl (lw_li hV.2.2.2.2) ?_
  refine hs (f := dm_push 300 (.int 1)) rfl rfl ?_
  refine hs (f := dm_ii 301 (fun x y => x + y)) rfl rfl ?_
  refine hs (f := dm_sld 302 L xs) rfl (lw_sx (lw_ad (c := 1) (k := 1) rfl i0 i1 hL (by decide) (by decide)).1 (lw_ad (c := 1) (k := 1) rfl i0 i1 hL (by decide) (by decide)).2) ?_
  refine lw_c (fl' := fl) (V := fun r => ∃ x : Int32, r = some (.int x)) (n := 305) (mj := 100) (na := 1) rfl rfl rfl (Nat.le_of_ble_eq_true rfl) hK hK.2.2.2.1 (hT_mono (by decide) (sp_100 hK.1 lw_7 ((xs (i + (1 : Int32)).toNatClampNeg))) (fun r M' w => by obtain ⟨x, h1, h2⟩ := w; exact ⟨⟨x, h1⟩, h2⟩)) (fun r1 M2 w hK1 => ?_)
  obtain ⟨x3, rfl⟩ := w
  refine hs (f := dm_pop 306) rfl rfl ?_
  refine hs (f := dm_ald 307 2) rfl (lw_ld hV.2.2.1) ?_
  refine hs (f := dm_ald 308 0) rfl (lw_lf hV.1) ?_
  refine hs (f := dm_ild 310 4) rfl (lw_li hV.2.2.2.2) ?_
  refine hs (f := dm_push 311 (.int 1)) rfl rfl ?_
  refine hs (f := dm_ii 312 (fun x y => x + y)) rfl rfl ?_
  refine hs (f := dm_sld 313 L xs) rfl (lw_sx (lw_ad (c := 1) (k := 1) rfl i0 i1 hL (by decide) (by decide)).1 (lw_ad (c := 1) (k := 1) rfl i0 i1 hL (by decide) (by decide)).2) ?_
  refine lw_m (T' := T + 1) (V := fun r q' => (∃ x : Int32, r = some (.int x)) ∧ q'.1 41 = q.1 41) (n := 316) (mj := 168) (na := 1) rfl rfl rfl (Nat.le_of_ble_eq_true rfl) hK1 (hT_mono (by decide) (op_168 hK1.2.1 hK1.2.2.1 hT6 ((xs (i + (1 : Int32)).toNatClampNeg))) (fun r M' w => by obtain ⟨x, q', h1, h2, h3, h4⟩ := w; exact ⟨q', ⟨⟨x, h1⟩, h4⟩, h2, h3⟩)) (fun r1 M5 q6 w hK4 => ?_)
  obtain ⟨⟨x8, rfl⟩, e7⟩ := w
  refine hs (f := dm_pop 317) rfl rfl ?_
  refine hs (f := dm_goto 1199) rfl rfl ?_
  exact K _ _ hV ⟨S, C, fl, q6, hK4, (e7.trans e0), by omega, by omega⟩
theorem lo_6 {L : Nat} {xs : Nat → Int32} {i : Int32} {lv : dm_Lv} {M : dm_Mem} {T : Int} {Q : Option Value → dm_Mem → Prop} (hL : L ≤ 4608) (i0 : 0 ≤ i.toInt) (i1 : i.toInt + 8 < L) (hV : lw_V i lv) (hI : LI T M) (hT6 : 0 ≤ T ∧ T ≤ 600) (K : ∀ lv' M', lw_V i lv' → LI (T + 1) M' → hG 140 (lwC L xs) 1199 lv' [] M' Q) : hG 140 (lwC L xs) 320 lv [] M Q := by
  obtain ⟨S, C, fl, q, hK, e0, hS, hC⟩ := hI
  refine hs (f := dm_ald 321 1) rfl (lw_ld hV.2.1) ?_
  refine hs (f := dm_ald 322 0) rfl (lw_lf hV.1) ?_
  refine hs (f := dm_ild 324 4) rfl (lw_li hV.2.2.2.2) ?_
  refine hs (f := dm_push 325 (.int 1)) rfl rfl ?_
  refine hs (f := dm_ii 326 (fun x y => x + y)) rfl rfl ?_
  refine hs (f := dm_sld 327 L xs) rfl (lw_sx (lw_ad (c := 1) (k := 1) rfl i0 i1 hL (by decide) (by decide)).1 (lw_ad (c := 1) (k := 1) rfl i0 i1 hL (by decide) (by decide)).2) ?_
  refine hs (f := dm_ald 328 0) rfl (lw_lf hV.1) ?_
  refine hs (f := dm_ild 330 4) rfl (lw_li hV.2.2.2.2) ?_
  refine hs (f := dm_push 331 (.int 2)) rfl rfl ?_
  refine hs (f := dm_ii 332 (fun x y => x + y)) rfl rfl ?_
  refine hs (f := dm_sld 333 L xs) rfl (lw_sx (lw_ad (c := 2) (k := 2) rfl i0 i1 hL (by decide) (by decide)).1 (lw_ad (c := 2) (k := 2) rfl i0 i1 hL (by decide) (by decide)).2) ?_
  refine lw_c (fl' := fl) (V := fun r => ∃ x : Int32, r = some (.int x)) (n := 336) (mj := 101) (na := 2) rfl rfl rfl (Nat.le_of_ble_eq_true rfl) hK hK.2.2.2.1 (hT_mono (by decide) (sp_101 hK.1 lw_7 ((xs (i + (1 : Int32)).toNatClampNeg)) ((xs (i + (2 : Int32)).toNatClampNeg))) (fun r M' w => by obtain ⟨x, h1, h2⟩ := w; exact ⟨⟨x, h1⟩, h2⟩)) (fun r1 M2 w hK1 => ?_)
  obtain ⟨x3, rfl⟩ := w
  refine hs (f := dm_pop 337) rfl rfl ?_
  refine hs (f := dm_ald 338 2) rfl (lw_ld hV.2.2.1) ?_
  refine hs (f := dm_ald 339 0) rfl (lw_lf hV.1) ?_
  refine hs (f := dm_ild 341 4) rfl (lw_li hV.2.2.2.2) ?_
  refine hs (f := dm_push 342 (.int 1)) rfl rfl ?_
  refine hs (f := dm_ii 343 (fun x y => x + y)) rfl rfl ?_
  refine hs (f := dm_sld 344 L xs) rfl (lw_sx (lw_ad (c := 1) (k := 1) rfl i0 i1 hL (by decide) (by decide)).1 (lw_ad (c := 1) (k := 1) rfl i0 i1 hL (by decide) (by decide)).2) ?_
  refine hs (f := dm_ald 345 0) rfl (lw_lf hV.1) ?_
  refine hs (f := dm_ild 347 4) rfl (lw_li hV.2.2.2.2) ?_
  refine hs (f := dm_push 348 (.int 2)) rfl rfl ?_
  refine hs (f := dm_ii 349 (fun x y => x + y)) rfl rfl ?_
  refine hs (f := dm_sld 350 L xs) rfl (lw_sx (lw_ad (c := 2) (k := 2) rfl i0 i1 hL (by decide) (by decide)).1 (lw_ad (c := 2) (k := 2) rfl i0 i1 hL (by decide) (by decide)).2) ?_
  refine lw_m (T' := T + 1) (V := fun r q' => (∃ x : Int32, r = some (.int x)) ∧ q'.1 41 = q.1 41) (n := 353) (mj := 169) (na := 2) rfl rfl rfl (Nat.le_of_ble_eq_true rfl) hK1 (hT_mono (by decide) (op_169 hK1.2.1 hK1.2.2.1 hT6 ((xs (i + (1 : Int32)).toNatClampNeg)) ((xs (i + (2 : Int32)).toNatClampNeg))) (fun r M' w => by obtain ⟨x, q', h1, h2, h3, h4⟩ := w; exact ⟨q', ⟨⟨x, h1⟩, h4⟩, h2, h3⟩)) (fun r1 M5 q6 w hK4 => ?_)
  obtain ⟨⟨x8, rfl⟩, e7⟩ := w
  refine hs (f := dm_pop 354) rfl rfl ?_
  refine hs (f := dm_goto 1199) rfl rfl ?_
  exact K _ _ hV ⟨S, C, fl, q6, hK4, (e7.trans e0), by omega, by omega⟩
theorem lo_7 {L : Nat} {xs : Nat → Int32} {i : Int32} {lv : dm_Lv} {M : dm_Mem} {T : Int} {Q : Option Value → dm_Mem → Prop} (hL : L ≤ 4608) (i0 : 0 ≤ i.toInt) (i1 : i.toInt + 8 < L) (hV : lw_V i lv) (hI : LI T M) (hT6 : 0 ≤ T ∧ T ≤ 600) (K : ∀ lv' M', lw_V i lv' → LI (T + 1) M' → hG 140 (lwC L xs) 1199 lv' [] M' Q) : hG 140 (lwC L xs) 357 lv [] M Q := by
  obtain ⟨S, C, fl, q, hK, e0, hS, hC⟩ := hI
  refine hs (f := dm_ald 358 1) rfl (lw_ld hV.2.1) ?_
  refine hs (f := dm_ald 359 0) rfl (lw_lf hV.1) ?_
  refine hs (f := dm_ild 361 4) rfl (lw_li hV.2.2.2.2) ?_
  refine hs (f := dm_push 362 (.int 1)) rfl rfl ?_
  refine hs (f := dm_ii 363 (fun x y => x + y)) rfl rfl ?_
  refine hs (f := dm_sld 364 L xs) rfl (lw_sx (lw_ad (c := 1) (k := 1) rfl i0 i1 hL (by decide) (by decide)).1 (lw_ad (c := 1) (k := 1) rfl i0 i1 hL (by decide) (by decide)).2) ?_
  refine lw_c (fl' := fl) (V := fun r => ∃ x : Int32, r = some (.int x)) (n := 367) (mj := 102) (na := 1) rfl rfl rfl (Nat.le_of_ble_eq_true rfl) hK hK.2.2.2.1 (hT_mono (by decide) (sp_102 hK.1 lw_7 ((xs (i + (1 : Int32)).toNatClampNeg))) (fun r M' w => by obtain ⟨x, _, h1, h2⟩ := w; exact ⟨⟨x, h1⟩, h2⟩)) (fun r1 M2 w hK1 => ?_)
  obtain ⟨x3, rfl⟩ := w
  refine hs (f := dm_pop 368) rfl rfl ?_
  refine hs (f := dm_ald 369 2) rfl (lw_ld hV.2.2.1) ?_
  refine hs (f := dm_ald 370 0) rfl (lw_lf hV.1) ?_
  refine hs (f := dm_ild 372 4) rfl (lw_li hV.2.2.2.2) ?_
  refine hs (f := dm_push 373 (.int 1)) rfl rfl ?_
  refine hs (f := dm_ii 374 (fun x y => x + y)) rfl rfl ?_
  refine hs (f := dm_sld 375 L xs) rfl (lw_sx (lw_ad (c := 1) (k := 1) rfl i0 i1 hL (by decide) (by decide)).1 (lw_ad (c := 1) (k := 1) rfl i0 i1 hL (by decide) (by decide)).2) ?_
  refine lw_m (T' := T + 1) (V := fun r q' => (∃ x : Int32, r = some (.int x)) ∧ q'.1 41 = q.1 41) (n := 378) (mj := 170) (na := 1) rfl rfl rfl (Nat.le_of_ble_eq_true rfl) hK1 (hT_mono (by decide) (op_170 hK1.2.1 hK1.2.2.1 hT6 ((xs (i + (1 : Int32)).toNatClampNeg))) (fun r M' w => by obtain ⟨x, q', _, h1, h2, h3, h4⟩ := w; exact ⟨q', ⟨⟨x, h1⟩, h4⟩, h2, h3⟩)) (fun r1 M5 q6 w hK4 => ?_)
  obtain ⟨⟨x8, rfl⟩, e7⟩ := w
  refine hs (f := dm_pop 379) rfl rfl ?_
  refine hs (f := dm_goto 1199) rfl rfl ?_
  exact K _ _ hV ⟨S, C, fl, q6, hK4, (e7.trans e0), by omega, by omega⟩
theorem lo_8 {L : Nat} {xs : Nat → Int32} {i : Int32} {lv : dm_Lv} {M : dm_Mem} {T : Int} {Q : Option Value → dm_Mem → Prop} (hL : L ≤ 4608) (i0 : 0 ≤ i.toInt) (i1 : i.toInt + 8 < L) (hV : lw_V i lv) (hI : LI T M) (hT6 : 0 ≤ T ∧ T ≤ 600) (K : ∀ lv' M', lw_V i lv' → LI (T + 1) M' → hG 140 (lwC L xs) 1199 lv' [] M' Q) : hG 140 (lwC L xs) 382 lv [] M Q := by
  obtain ⟨S, C, fl, q, hK, e0, hS, hC⟩ := hI
  refine hs (f := dm_ald 383 1) rfl (lw_ld hV.2.1) ?_
  refine hs (f := dm_ald 384 0) rfl (lw_lf hV.1) ?_
  refine hs (f := dm_ild 386 4) rfl (lw_li hV.2.2.2.2) ?_
  refine hs (f := dm_push 387 (.int 1)) rfl rfl ?_
  refine hs (f := dm_ii 388 (fun x y => x + y)) rfl rfl ?_
  refine hs (f := dm_sld 389 L xs) rfl (lw_sx (lw_ad (c := 1) (k := 1) rfl i0 i1 hL (by decide) (by decide)).1 (lw_ad (c := 1) (k := 1) rfl i0 i1 hL (by decide) (by decide)).2) ?_
  refine hs (f := dm_ald 390 0) rfl (lw_lf hV.1) ?_
  refine hs (f := dm_ild 392 4) rfl (lw_li hV.2.2.2.2) ?_
  refine hs (f := dm_push 393 (.int 2)) rfl rfl ?_
  refine hs (f := dm_ii 394 (fun x y => x + y)) rfl rfl ?_
  refine hs (f := dm_sld 395 L xs) rfl (lw_sx (lw_ad (c := 2) (k := 2) rfl i0 i1 hL (by decide) (by decide)).1 (lw_ad (c := 2) (k := 2) rfl i0 i1 hL (by decide) (by decide)).2) ?_
  refine lw_c (fl' := fl) (V := fun r => ∃ x : Int32, r = some (.int x)) (n := 398) (mj := 103) (na := 2) rfl rfl rfl (Nat.le_of_ble_eq_true rfl) hK hK.2.2.2.1 (hT_mono (by decide) (sp_103 hK.1 lw_7 ((xs (i + (1 : Int32)).toNatClampNeg)) ((xs (i + (2 : Int32)).toNatClampNeg))) (fun r M' w => by obtain ⟨x, h1, h2⟩ := w; exact ⟨⟨x, h1⟩, h2⟩)) (fun r1 M2 w hK1 => ?_)
  obtain ⟨x3, rfl⟩ := w
  refine hs (f := dm_pop 399) rfl rfl ?_
  refine hs (f := dm_ald 400 2) rfl (lw_ld hV.2.2.1) ?_
  refine hs (f := dm_ald 401 0) rfl (lw_lf hV.1) ?_
  refine hs (f := dm_ild 403 4) rfl (lw_li hV.2.2.2.2) ?_
  refine hs (f := dm_push 404 (.int 1)) rfl rfl ?_
  refine hs (f := dm_ii 405 (fun x y => x + y)) rfl rfl ?_
  refine hs (f := dm_sld 406 L xs) rfl (lw_sx (lw_ad (c := 1) (k := 1) rfl i0 i1 hL (by decide) (by decide)).1 (lw_ad (c := 1) (k := 1) rfl i0 i1 hL (by decide) (by decide)).2) ?_
  refine hs (f := dm_ald 407 0) rfl (lw_lf hV.1) ?_
  refine hs (f := dm_ild 409 4) rfl (lw_li hV.2.2.2.2) ?_
  refine hs (f := dm_push 410 (.int 2)) rfl rfl ?_
  refine hs (f := dm_ii 411 (fun x y => x + y)) rfl rfl ?_
  refine hs (f := dm_sld 412 L xs) rfl (lw_sx (lw_ad (c := 2) (k := 2) rfl i0 i1 hL (by decide) (by decide)).1 (lw_ad (c := 2) (k := 2) rfl i0 i1 hL (by decide) (by decide)).2) ?_
  refine lw_m (T' := T + 1) (V := fun r q' => (∃ x : Int32, r = some (.int x)) ∧ q'.1 41 = q.1 41) (n := 415) (mj := 171) (na := 2) rfl rfl rfl (Nat.le_of_ble_eq_true rfl) hK1 (hT_mono (by decide) (op_171 hK1.2.1 hK1.2.2.1 hT6 ((xs (i + (1 : Int32)).toNatClampNeg)) ((xs (i + (2 : Int32)).toNatClampNeg))) (fun r M' w => by obtain ⟨x, q', h1, h2, h3, h4⟩ := w; exact ⟨q', ⟨⟨x, h1⟩, h4⟩, h2, h3⟩)) (fun r1 M5 q6 w hK4 => ?_)
  obtain ⟨⟨x8, rfl⟩, e7⟩ := w
  refine hs (f := dm_pop 416) rfl rfl ?_
  refine hs (f := dm_goto 1199) rfl rfl ?_
  exact K _ _ hV ⟨S, C, fl, q6, hK4, (e7.trans e0), by omega, by omega⟩
theorem lo_9 {L : Nat} {xs : Nat → Int32} {i : Int32} {lv : dm_Lv} {M : dm_Mem} {T : Int} {Q : Option Value → dm_Mem → Prop} (hL : L ≤ 4608) (i0 : 0 ≤ i.toInt) (i1 : i.toInt + 8 < L) (hV : lw_V i lv) (hI : LI T M) (hT6 : 0 ≤ T ∧ T ≤ 600) (K : ∀ lv' M', lw_V i lv' → LI (T + 1) M' → hG 140 (lwC L xs) 1199 lv' [] M' Q) : hG 140 (lwC L xs) 419 lv [] M Q := by
  obtain ⟨S, C, fl, q, hK, e0, hS, hC⟩ := hI
  refine hs (f := dm_ald 420 1) rfl (lw_ld hV.2.1) ?_
  refine lw_c (fl' := fl) (V := fun r => ∃ x : Int32, r = some (.int x)) (n := 423) (mj := 104) (na := 0) rfl rfl rfl (Nat.le_of_ble_eq_true rfl) hK hK.2.2.2.1 (hT_mono (by decide) (sp_104 hK.1 lw_7 ) (fun r M' w => by obtain ⟨x, _, h1, h2⟩ := w; exact ⟨⟨x, h1⟩, h2⟩)) (fun r1 M2 w hK1 => ?_)
  obtain ⟨x3, rfl⟩ := w
  refine hs (f := dm_pop 424) rfl rfl ?_
  refine hs (f := dm_ald 425 2) rfl (lw_ld hV.2.2.1) ?_
  refine lw_m (T' := T + 1) (V := fun r q' => (∃ x : Int32, r = some (.int x)) ∧ q'.1 41 = q.1 41) (n := 428) (mj := 172) (na := 0) rfl rfl rfl (Nat.le_of_ble_eq_true rfl) hK1 (hT_mono (by decide) (op_172 hK1.2.1 hK1.2.2.1 hT6 ) (fun r M' w => by obtain ⟨x, q', _, h1, h2, h3, h4⟩ := w; exact ⟨q', ⟨⟨x, h1⟩, h4⟩, h2, h3⟩)) (fun r1 M5 q6 w hK4 => ?_)
  obtain ⟨⟨x8, rfl⟩, e7⟩ := w
  refine hs (f := dm_pop 429) rfl rfl ?_
  refine hs (f := dm_goto 1199) rfl rfl ?_
  exact K _ _ hV ⟨S, C, fl, q6, hK4, (e7.trans e0), by omega, by omega⟩
theorem lo_10 {L : Nat} {xs : Nat → Int32} {i : Int32} {lv : dm_Lv} {M : dm_Mem} {T : Int} {Q : Option Value → dm_Mem → Prop} (hL : L ≤ 4608) (i0 : 0 ≤ i.toInt) (i1 : i.toInt + 8 < L) (hV : lw_V i lv) (hI : LI T M) (hT6 : 0 ≤ T ∧ T ≤ 600) (K : ∀ lv' M', lw_V i lv' → LI (T + 1) M' → hG 140 (lwC L xs) 1199 lv' [] M' Q) : hG 140 (lwC L xs) 432 lv [] M Q := by
  obtain ⟨S, C, fl, q, hK, e0, hS, hC⟩ := hI
  refine hs (f := dm_ald 433 1) rfl (lw_ld hV.2.1) ?_
  refine hs (f := dm_ald 434 0) rfl (lw_lf hV.1) ?_
  refine hs (f := dm_ild 436 4) rfl (lw_li hV.2.2.2.2) ?_
  refine hs (f := dm_push 437 (.int 1)) rfl rfl ?_
  refine hs (f := dm_ii 438 (fun x y => x + y)) rfl rfl ?_
  refine hs (f := dm_sld 439 L xs) rfl (lw_sx (lw_ad (c := 1) (k := 1) rfl i0 i1 hL (by decide) (by decide)).1 (lw_ad (c := 1) (k := 1) rfl i0 i1 hL (by decide) (by decide)).2) ?_
  refine hs (f := dm_ald 440 0) rfl (lw_lf hV.1) ?_
  refine hs (f := dm_ild 442 4) rfl (lw_li hV.2.2.2.2) ?_
  refine hs (f := dm_push 443 (.int 2)) rfl rfl ?_
  refine hs (f := dm_ii 444 (fun x y => x + y)) rfl rfl ?_
  refine hs (f := dm_sld 445 L xs) rfl (lw_sx (lw_ad (c := 2) (k := 2) rfl i0 i1 hL (by decide) (by decide)).1 (lw_ad (c := 2) (k := 2) rfl i0 i1 hL (by decide) (by decide)).2) ?_
  refine lw_c (fl' := fl) (V := fun r => ∃ x : Int32, r = some (.int x)) (n := 448) (mj := 105) (na := 2) rfl rfl rfl (Nat.le_of_ble_eq_true rfl) hK hK.2.2.2.1 (hT_mono (by decide) (sp_105 hK.1 lw_7 ((xs (i + (1 : Int32)).toNatClampNeg)) ((xs (i + (2 : Int32)).toNatClampNeg))) (fun r M' w => by obtain ⟨x, h1, h2⟩ := w; exact ⟨⟨x, h1⟩, by rw [h2]; exact hK.1⟩)) (fun r1 M2 w hK1 => ?_)
  obtain ⟨x3, rfl⟩ := w
  refine hs (f := dm_pop 449) rfl rfl ?_
  refine hs (f := dm_ald 450 2) rfl (lw_ld hV.2.2.1) ?_
  refine hs (f := dm_ald 451 0) rfl (lw_lf hV.1) ?_
  refine hs (f := dm_ild 453 4) rfl (lw_li hV.2.2.2.2) ?_
  refine hs (f := dm_push 454 (.int 1)) rfl rfl ?_
  refine hs (f := dm_ii 455 (fun x y => x + y)) rfl rfl ?_
  refine hs (f := dm_sld 456 L xs) rfl (lw_sx (lw_ad (c := 1) (k := 1) rfl i0 i1 hL (by decide) (by decide)).1 (lw_ad (c := 1) (k := 1) rfl i0 i1 hL (by decide) (by decide)).2) ?_
  refine hs (f := dm_ald 457 0) rfl (lw_lf hV.1) ?_
  refine hs (f := dm_ild 459 4) rfl (lw_li hV.2.2.2.2) ?_
  refine hs (f := dm_push 460 (.int 2)) rfl rfl ?_
  refine hs (f := dm_ii 461 (fun x y => x + y)) rfl rfl ?_
  refine hs (f := dm_sld 462 L xs) rfl (lw_sx (lw_ad (c := 2) (k := 2) rfl i0 i1 hL (by decide) (by decide)).1 (lw_ad (c := 2) (k := 2) rfl i0 i1 hL (by decide) (by decide)).2) ?_
  refine lw_m (T' := T + 1) (V := fun r q' => (∃ x : Int32, r = some (.int x)) ∧ q'.1 41 = q.1 41) (n := 465) (mj := 174) (na := 2) rfl rfl rfl (Nat.le_of_ble_eq_true rfl) hK1 (hT_mono (by decide) (op_174 hK1.2.1 hK1.2.2.1 hT6 ((xs (i + (1 : Int32)).toNatClampNeg)) ((xs (i + (2 : Int32)).toNatClampNeg))) (fun r M' w => by obtain ⟨x, q', h1, h2, h3, h4⟩ := w; exact ⟨q', ⟨⟨x, h1⟩, h4⟩, h2, h3⟩)) (fun r1 M5 q6 w hK4 => ?_)
  obtain ⟨⟨x8, rfl⟩, e7⟩ := w
  refine hs (f := dm_pop 466) rfl rfl ?_
  refine hs (f := dm_goto 1199) rfl rfl ?_
  exact K _ _ hV ⟨S, C, fl, q6, hK4, (e7.trans e0), by omega, by omega⟩
theorem lo_11 {L : Nat} {xs : Nat → Int32} {i : Int32} {lv : dm_Lv} {M : dm_Mem} {T : Int} {Q : Option Value → dm_Mem → Prop} (hL : L ≤ 4608) (i0 : 0 ≤ i.toInt) (i1 : i.toInt + 8 < L) (hV : lw_V i lv) (hI : LI T M) (hT6 : 0 ≤ T ∧ T ≤ 600) (K : ∀ lv' M', lw_V i lv' → LI (T + 1) M' → hG 140 (lwC L xs) 1199 lv' [] M' Q) : hG 140 (lwC L xs) 469 lv [] M Q := by
  obtain ⟨S, C, fl, q, hK, e0, hS, hC⟩ := hI
  refine hs (f := dm_ald 470 1) rfl (lw_ld hV.2.1) ?_
  refine hs (f := dm_ald 471 0) rfl (lw_lf hV.1) ?_
  refine hs (f := dm_ild 473 4) rfl (lw_li hV.2.2.2.2) ?_
  refine hs (f := dm_push 474 (.int 1)) rfl rfl ?_
  refine hs (f := dm_ii 475 (fun x y => x + y)) rfl rfl ?_
  refine hs (f := dm_sld 476 L xs) rfl (lw_sx (lw_ad (c := 1) (k := 1) rfl i0 i1 hL (by decide) (by decide)).1 (lw_ad (c := 1) (k := 1) rfl i0 i1 hL (by decide) (by decide)).2) ?_
  refine hs (f := dm_ald 477 0) rfl (lw_lf hV.1) ?_
  refine hs (f := dm_ild 479 4) rfl (lw_li hV.2.2.2.2) ?_
  refine hs (f := dm_push 480 (.int 2)) rfl rfl ?_
  refine hs (f := dm_ii 481 (fun x y => x + y)) rfl rfl ?_
  refine hs (f := dm_sld 482 L xs) rfl (lw_sx (lw_ad (c := 2) (k := 2) rfl i0 i1 hL (by decide) (by decide)).1 (lw_ad (c := 2) (k := 2) rfl i0 i1 hL (by decide) (by decide)).2) ?_
  refine lw_c (fl' := fl) (V := fun r => ∃ x : Int32, r = some (.int x)) (n := 485) (mj := 106) (na := 2) rfl rfl rfl (Nat.le_of_ble_eq_true rfl) hK hK.2.2.2.1 (hT_mono (by decide) (sp_106 hK.1 lw_7 ((xs (i + (1 : Int32)).toNatClampNeg)) ((xs (i + (2 : Int32)).toNatClampNeg))) (fun r M' w => by obtain ⟨x, h1, h2⟩ := w; exact ⟨⟨x, h1⟩, h2⟩)) (fun r1 M2 w hK1 => ?_)
  obtain ⟨x3, rfl⟩ := w
  refine hs (f := dm_pop 486) rfl rfl ?_
  refine hs (f := dm_ald 487 2) rfl (lw_ld hV.2.2.1) ?_
  refine hs (f := dm_ald 488 0) rfl (lw_lf hV.1) ?_
  refine hs (f := dm_ild 490 4) rfl (lw_li hV.2.2.2.2) ?_
  refine hs (f := dm_push 491 (.int 1)) rfl rfl ?_
  refine hs (f := dm_ii 492 (fun x y => x + y)) rfl rfl ?_
  refine hs (f := dm_sld 493 L xs) rfl (lw_sx (lw_ad (c := 1) (k := 1) rfl i0 i1 hL (by decide) (by decide)).1 (lw_ad (c := 1) (k := 1) rfl i0 i1 hL (by decide) (by decide)).2) ?_
  refine hs (f := dm_ald 494 0) rfl (lw_lf hV.1) ?_
  refine hs (f := dm_ild 496 4) rfl (lw_li hV.2.2.2.2) ?_
  refine hs (f := dm_push 497 (.int 2)) rfl rfl ?_
  refine hs (f := dm_ii 498 (fun x y => x + y)) rfl rfl ?_
  refine hs (f := dm_sld 499 L xs) rfl (lw_sx (lw_ad (c := 2) (k := 2) rfl i0 i1 hL (by decide) (by decide)).1 (lw_ad (c := 2) (k := 2) rfl i0 i1 hL (by decide) (by decide)).2) ?_
  refine lw_m (T' := T + 1) (V := fun r q' => (∃ x : Int32, r = some (.int x)) ∧ q'.1 41 = q.1 41) (n := 502) (mj := 175) (na := 2) rfl rfl rfl (Nat.le_of_ble_eq_true rfl) hK1 (hT_mono (by decide) (op_175 hK1.2.1 hK1.2.2.1 hT6 ((xs (i + (1 : Int32)).toNatClampNeg)) ((xs (i + (2 : Int32)).toNatClampNeg))) (fun r M' w => by obtain ⟨x, q', h1, h2, h3, h4⟩ := w; exact ⟨q', ⟨⟨x, h1⟩, h4⟩, h2, h3⟩)) (fun r1 M5 q6 w hK4 => ?_)
  obtain ⟨⟨x8, rfl⟩, e7⟩ := w
  refine hs (f := dm_pop 503) rfl rfl ?_
  refine hs (f := dm_goto 1199) rfl rfl ?_
  exact K _ _ hV ⟨S, C, fl, q6, hK4, (e7.trans e0), by omega, by omega⟩
theorem lo_12 {L : Nat} {xs : Nat → Int32} {i : Int32} {lv : dm_Lv} {M : dm_Mem} {T : Int} {Q : Option Value → dm_Mem → Prop} (hL : L ≤ 4608) (i0 : 0 ≤ i.toInt) (i1 : i.toInt + 8 < L) (hV : lw_V i lv) (hI : LI T M) (hT6 : 0 ≤ T ∧ T ≤ 600) (K : ∀ lv' M', lw_V i lv' → LI (T + 1) M' → hG 140 (lwC L xs) 1199 lv' [] M' Q) : hG 140 (lwC L xs) 506 lv [] M Q := by
  obtain ⟨S, C, fl, q, hK, e0, hS, hC⟩ := hI
  refine hs (f := dm_ald 507 1) rfl (lw_ld hV.2.1) ?_
  refine hs (f := dm_ald 508 0) rfl (lw_lf hV.1) ?_
  refine hs (f := dm_ild 510 4) rfl (lw_li hV.2.2.2.2) ?_
  refine hs (f := dm_push 511 (.int 1)) rfl rfl ?_
  refine hs (f := dm_ii 512 (fun x y => x + y)) rfl rfl ?_
  refine hs (f := dm_sld 513 L xs) rfl (lw_sx (lw_ad (c := 1) (k := 1) rfl i0 i1 hL (by decide) (by decide)).1 (lw_ad (c := 1) (k := 1) rfl i0 i1 hL (by decide) (by decide)).2) ?_
  refine hs (f := dm_ald 514 0) rfl (lw_lf hV.1) ?_
  refine hs (f := dm_ild 516 4) rfl (lw_li hV.2.2.2.2) ?_
  refine hs (f := dm_push 517 (.int 2)) rfl rfl ?_
  refine hs (f := dm_ii 518 (fun x y => x + y)) rfl rfl ?_
  refine hs (f := dm_sld 519 L xs) rfl (lw_sx (lw_ad (c := 2) (k := 2) rfl i0 i1 hL (by decide) (by decide)).1 (lw_ad (c := 2) (k := 2) rfl i0 i1 hL (by decide) (by decide)).2) ?_
  refine lw_c (fl' := fl) (V := fun r => ∃ x : Int32, r = some (.int x)) (n := 522) (mj := 107) (na := 2) rfl rfl rfl (Nat.le_of_ble_eq_true rfl) hK hK.2.2.2.1 (hT_mono (by decide) (sp_107 hK.1 lw_7 ((xs (i + (1 : Int32)).toNatClampNeg)) ((xs (i + (2 : Int32)).toNatClampNeg))) (fun r M' w => by obtain ⟨x, _, h1, h2⟩ := w; exact ⟨⟨x, h1⟩, by rw [h2]; exact hK.1⟩)) (fun r1 M2 w hK1 => ?_)
  obtain ⟨x3, rfl⟩ := w
  refine hs (f := dm_pop 523) rfl rfl ?_
  refine hs (f := dm_ald 524 2) rfl (lw_ld hV.2.2.1) ?_
  refine hs (f := dm_ald 525 0) rfl (lw_lf hV.1) ?_
  refine hs (f := dm_ild 527 4) rfl (lw_li hV.2.2.2.2) ?_
  refine hs (f := dm_push 528 (.int 1)) rfl rfl ?_
  refine hs (f := dm_ii 529 (fun x y => x + y)) rfl rfl ?_
  refine hs (f := dm_sld 530 L xs) rfl (lw_sx (lw_ad (c := 1) (k := 1) rfl i0 i1 hL (by decide) (by decide)).1 (lw_ad (c := 1) (k := 1) rfl i0 i1 hL (by decide) (by decide)).2) ?_
  refine hs (f := dm_ald 531 0) rfl (lw_lf hV.1) ?_
  refine hs (f := dm_ild 533 4) rfl (lw_li hV.2.2.2.2) ?_
  refine hs (f := dm_push 534 (.int 2)) rfl rfl ?_
  refine hs (f := dm_ii 535 (fun x y => x + y)) rfl rfl ?_
  refine hs (f := dm_sld 536 L xs) rfl (lw_sx (lw_ad (c := 2) (k := 2) rfl i0 i1 hL (by decide) (by decide)).1 (lw_ad (c := 2) (k := 2) rfl i0 i1 hL (by decide) (by decide)).2) ?_
  refine lw_m (T' := T + 1) (V := fun r q' => (∃ x : Int32, r = some (.int x)) ∧ q'.1 41 = q.1 41) (n := 539) (mj := 176) (na := 2) rfl rfl rfl (Nat.le_of_ble_eq_true rfl) hK1 (hT_mono (by decide) (op_176 hK1.2.1 hK1.2.2.1 hT6 ((xs (i + (1 : Int32)).toNatClampNeg)) ((xs (i + (2 : Int32)).toNatClampNeg))) (fun r M' w => by obtain ⟨x, q', _, h1, h2, h3, h4⟩ := w; exact ⟨q', ⟨⟨x, h1⟩, h4⟩, h2, h3⟩)) (fun r1 M5 q6 w hK4 => ?_)
  obtain ⟨⟨x8, rfl⟩, e7⟩ := w
  refine hs (f := dm_pop 540) rfl rfl ?_
  refine hs (f := dm_goto 1199) rfl rfl ?_
  exact K _ _ hV ⟨S, C, fl, q6, hK4, (e7.trans e0), by omega, by omega⟩
theorem lo_13 {L : Nat} {xs : Nat → Int32} {i : Int32} {lv : dm_Lv} {M : dm_Mem} {T : Int} {Q : Option Value → dm_Mem → Prop} (hL : L ≤ 4608) (i0 : 0 ≤ i.toInt) (i1 : i.toInt + 8 < L) (hV : lw_V i lv) (hI : LI T M) (hT6 : 0 ≤ T ∧ T ≤ 600) (K : ∀ lv' M', lw_V i lv' → LI (T + 1) M' → hG 140 (lwC L xs) 1199 lv' [] M' Q) : hG 140 (lwC L xs) 543 lv [] M Q := by
  obtain ⟨S, C, fl, q, hK, e0, hS, hC⟩ := hI
  refine hs (f := dm_ald 544 1) rfl (lw_ld hV.2.1) ?_
  refine hs (f := dm_ald 545 0) rfl (lw_lf hV.1) ?_
  refine hs (f := dm_ild 547 4) rfl (lw_li hV.2.2.2.2) ?_
  refine hs (f := dm_push 548 (.int 1)) rfl rfl ?_
  refine hs (f := dm_ii 549 (fun x y => x + y)) rfl rfl ?_
  refine hs (f := dm_sld 550 L xs) rfl (lw_sx (lw_ad (c := 1) (k := 1) rfl i0 i1 hL (by decide) (by decide)).1 (lw_ad (c := 1) (k := 1) rfl i0 i1 hL (by decide) (by decide)).2) ?_
  refine hs (f := dm_ald 551 0) rfl (lw_lf hV.1) ?_
  refine hs (f := dm_ild 553 4) rfl (lw_li hV.2.2.2.2) ?_
  refine hs (f := dm_push 554 (.int 2)) rfl rfl ?_
  refine hs (f := dm_ii 555 (fun x y => x + y)) rfl rfl ?_
  refine hs (f := dm_sld 556 L xs) rfl (lw_sx (lw_ad (c := 2) (k := 2) rfl i0 i1 hL (by decide) (by decide)).1 (lw_ad (c := 2) (k := 2) rfl i0 i1 hL (by decide) (by decide)).2) ?_
  refine hs (f := dm_i1 557 (fun x => .long x.toInt64)) rfl rfl ?_
  refine hs (f := dm_push 559 (.int 32)) rfl rfl ?_
  refine hs (f := dm_li 560 (fun x y => x <<< (y.toInt64 &&& 63))) rfl rfl ?_
  refine hs (f := dm_ald 561 0) rfl (lw_lf hV.1) ?_
  refine hs (f := dm_ild 563 4) rfl (lw_li hV.2.2.2.2) ?_
  refine hs (f := dm_push 564 (.int 3)) rfl rfl ?_
  refine hs (f := dm_ii 565 (fun x y => x + y)) rfl rfl ?_
  refine hs (f := dm_sld 566 L xs) rfl (lw_sx (lw_ad (c := 3) (k := 3) rfl i0 i1 hL (by decide) (by decide)).1 (lw_ad (c := 3) (k := 3) rfl i0 i1 hL (by decide) (by decide)).2) ?_
  refine hs (f := dm_i1 567 (fun x => .long x.toInt64)) rfl rfl ?_
  refine hs (f := dm_push 570 (.long 4294967295)) rfl rfl ?_
  refine hs (f := dm_ll 571 (fun x y => x &&& y)) rfl rfl ?_
  refine hs (f := dm_ll 572 (fun x y => x ||| y)) rfl rfl ?_
  refine hs (f := dm_ald 573 0) rfl (lw_lf hV.1) ?_
  refine hs (f := dm_ild 575 4) rfl (lw_li hV.2.2.2.2) ?_
  refine hs (f := dm_push 576 (.int 4)) rfl rfl ?_
  refine hs (f := dm_ii 577 (fun x y => x + y)) rfl rfl ?_
  refine hs (f := dm_sld 578 L xs) rfl (lw_sx (lw_ad (c := 4) (k := 4) rfl i0 i1 hL (by decide) (by decide)).1 (lw_ad (c := 4) (k := 4) rfl i0 i1 hL (by decide) (by decide)).2) ?_
  refine hs (f := dm_ald 579 3) rfl (lw_ld hV.2.2.2.1) ?_
  obtain ⟨k1, M2, e3, g4⟩ := lw_h (d := 140) (by decide) hK ((xs (i + (1 : Int32)).toNatClampNeg)) (((((((xs (i + (2 : Int32)).toNatClampNeg)).toInt64) <<< ((32 : Int32).toInt64 &&& 63))) ||| (((((xs (i + (3 : Int32)).toNatClampNeg)).toInt64) &&& (4294967295 : Int64))))) ((xs (i + (4 : Int32)).toNatClampNeg)) false 582 lv
  have hK5 := g4 _ _ _ _ _ hK
  refine hs (f := tl_sX 140 lw_G false 582) rfl e3 ?_
  refine hs (f := dm_ist 584 5) rfl rfl ?_
  refine hs (f := dm_ald 585 2) rfl (lw_ld (lw_V5 (by decide) hV).2.2.1) ?_
  refine hs (f := dm_ald 586 0) rfl (lw_lf (lw_V5 (by decide) hV).1) ?_
  refine hs (f := dm_ild 588 4) rfl (lw_li (lw_V5 (by decide) hV).2.2.2.2) ?_
  refine hs (f := dm_push 589 (.int 1)) rfl rfl ?_
  refine hs (f := dm_ii 590 (fun x y => x + y)) rfl rfl ?_
  refine hs (f := dm_sld 591 L xs) rfl (lw_sx (lw_ad (c := 1) (k := 1) rfl i0 i1 hL (by decide) (by decide)).1 (lw_ad (c := 1) (k := 1) rfl i0 i1 hL (by decide) (by decide)).2) ?_
  refine hs (f := dm_ald 592 0) rfl (lw_lf (lw_V5 (by decide) hV).1) ?_
  refine hs (f := dm_ild 594 4) rfl (lw_li (lw_V5 (by decide) hV).2.2.2.2) ?_
  refine hs (f := dm_push 595 (.int 2)) rfl rfl ?_
  refine hs (f := dm_ii 596 (fun x y => x + y)) rfl rfl ?_
  refine hs (f := dm_sld 597 L xs) rfl (lw_sx (lw_ad (c := 2) (k := 2) rfl i0 i1 hL (by decide) (by decide)).1 (lw_ad (c := 2) (k := 2) rfl i0 i1 hL (by decide) (by decide)).2) ?_
  refine hs (f := dm_i1 598 (fun x => .long x.toInt64)) rfl rfl ?_
  refine hs (f := dm_push 600 (.int 32)) rfl rfl ?_
  refine hs (f := dm_li 601 (fun x y => x <<< (y.toInt64 &&& 63))) rfl rfl ?_
  refine hs (f := dm_ald 602 0) rfl (lw_lf (lw_V5 (by decide) hV).1) ?_
  refine hs (f := dm_ild 604 4) rfl (lw_li (lw_V5 (by decide) hV).2.2.2.2) ?_
  refine hs (f := dm_push 605 (.int 3)) rfl rfl ?_
  refine hs (f := dm_ii 606 (fun x y => x + y)) rfl rfl ?_
  refine hs (f := dm_sld 607 L xs) rfl (lw_sx (lw_ad (c := 3) (k := 3) rfl i0 i1 hL (by decide) (by decide)).1 (lw_ad (c := 3) (k := 3) rfl i0 i1 hL (by decide) (by decide)).2) ?_
  refine hs (f := dm_i1 608 (fun x => .long x.toInt64)) rfl rfl ?_
  refine hs (f := dm_push 611 (.long 4294967295)) rfl rfl ?_
  refine hs (f := dm_ll 612 (fun x y => x &&& y)) rfl rfl ?_
  refine hs (f := dm_ll 613 (fun x y => x ||| y)) rfl rfl ?_
  refine hs (f := dm_ald 614 0) rfl (lw_lf (lw_V5 (by decide) hV).1) ?_
  refine hs (f := dm_ild 616 4) rfl (lw_li (lw_V5 (by decide) hV).2.2.2.2) ?_
  refine hs (f := dm_push 617 (.int 4)) rfl rfl ?_
  refine hs (f := dm_ii 618 (fun x y => x + y)) rfl rfl ?_
  refine hs (f := dm_sld 619 L xs) rfl (lw_sx (lw_ad (c := 4) (k := 4) rfl i0 i1 hL (by decide) (by decide)).1 (lw_ad (c := 4) (k := 4) rfl i0 i1 hL (by decide) (by decide)).2) ?_
  refine lw_m (T' := T + 1) (V := fun r q' => (∃ x : Int32, r = some (.int x)) ∧ q'.1 41 = q.1 41) (n := 622) (mj := 179) (na := 3) rfl rfl rfl (Nat.le_of_ble_eq_true rfl) hK5 (hT_mono (by decide) (op_179 hK5.2.1 hK5.2.2.1 hT6 ((xs (i + (1 : Int32)).toNatClampNeg)) (((((((xs (i + (2 : Int32)).toNatClampNeg)).toInt64) <<< ((32 : Int32).toInt64 &&& 63))) ||| (((((xs (i + (3 : Int32)).toNatClampNeg)).toInt64) &&& (4294967295 : Int64))))) ((xs (i + (4 : Int32)).toNatClampNeg))) (fun r M' w => by obtain ⟨x, q', h1, h2, h3, h4⟩ := w; exact ⟨q', ⟨⟨x, h1⟩, h4⟩, h2, h3⟩)) (fun r1 M8 q9 w hK7 => ?_)
  obtain ⟨⟨x11, rfl⟩, e10⟩ := w
  refine hs (f := dm_ist 624 6) rfl rfl ?_
  refine hs (f := dm_goto 1199) rfl rfl ?_
  exact K _ _ (lw_V5 (by decide) (lw_V5 (by decide) hV)) ⟨(S + 6), (C + 1), fl, q9, hK7, (e10.trans e0), by omega, by omega⟩
theorem lo_14 {L : Nat} {xs : Nat → Int32} {i : Int32} {lv : dm_Lv} {M : dm_Mem} {T : Int} {Q : Option Value → dm_Mem → Prop} (hL : L ≤ 4608) (i0 : 0 ≤ i.toInt) (i1 : i.toInt + 8 < L) (hV : lw_V i lv) (hI : LI T M) (hT6 : 0 ≤ T ∧ T ≤ 600) (K : ∀ lv' M', lw_V i lv' → LI (T + 1) M' → hG 140 (lwC L xs) 1199 lv' [] M' Q) : hG 140 (lwC L xs) 627 lv [] M Q := by
  obtain ⟨S, C, fl, q, hK, e0, hS, hC⟩ := hI
  refine hs (f := dm_ald 628 1) rfl (lw_ld hV.2.1) ?_
  refine hs (f := dm_ald 629 0) rfl (lw_lf hV.1) ?_
  refine hs (f := dm_ild 631 4) rfl (lw_li hV.2.2.2.2) ?_
  refine hs (f := dm_push 632 (.int 1)) rfl rfl ?_
  refine hs (f := dm_ii 633 (fun x y => x + y)) rfl rfl ?_
  refine hs (f := dm_sld 634 L xs) rfl (lw_sx (lw_ad (c := 1) (k := 1) rfl i0 i1 hL (by decide) (by decide)).1 (lw_ad (c := 1) (k := 1) rfl i0 i1 hL (by decide) (by decide)).2) ?_
  refine hs (f := dm_ald 635 0) rfl (lw_lf hV.1) ?_
  refine hs (f := dm_ild 637 4) rfl (lw_li hV.2.2.2.2) ?_
  refine hs (f := dm_push 638 (.int 2)) rfl rfl ?_
  refine hs (f := dm_ii 639 (fun x y => x + y)) rfl rfl ?_
  refine hs (f := dm_sld 640 L xs) rfl (lw_sx (lw_ad (c := 2) (k := 2) rfl i0 i1 hL (by decide) (by decide)).1 (lw_ad (c := 2) (k := 2) rfl i0 i1 hL (by decide) (by decide)).2) ?_
  refine hs (f := dm_i1 641 (fun x => .long x.toInt64)) rfl rfl ?_
  refine hs (f := dm_push 643 (.int 32)) rfl rfl ?_
  refine hs (f := dm_li 644 (fun x y => x <<< (y.toInt64 &&& 63))) rfl rfl ?_
  refine hs (f := dm_ald 645 0) rfl (lw_lf hV.1) ?_
  refine hs (f := dm_ild 647 4) rfl (lw_li hV.2.2.2.2) ?_
  refine hs (f := dm_push 648 (.int 3)) rfl rfl ?_
  refine hs (f := dm_ii 649 (fun x y => x + y)) rfl rfl ?_
  refine hs (f := dm_sld 650 L xs) rfl (lw_sx (lw_ad (c := 3) (k := 3) rfl i0 i1 hL (by decide) (by decide)).1 (lw_ad (c := 3) (k := 3) rfl i0 i1 hL (by decide) (by decide)).2) ?_
  refine hs (f := dm_i1 651 (fun x => .long x.toInt64)) rfl rfl ?_
  refine hs (f := dm_push 654 (.long 4294967295)) rfl rfl ?_
  refine hs (f := dm_ll 655 (fun x y => x &&& y)) rfl rfl ?_
  refine hs (f := dm_ll 656 (fun x y => x ||| y)) rfl rfl ?_
  refine hs (f := dm_ald 657 0) rfl (lw_lf hV.1) ?_
  refine hs (f := dm_ild 659 4) rfl (lw_li hV.2.2.2.2) ?_
  refine hs (f := dm_push 660 (.int 4)) rfl rfl ?_
  refine hs (f := dm_ii 661 (fun x y => x + y)) rfl rfl ?_
  refine hs (f := dm_sld 662 L xs) rfl (lw_sx (lw_ad (c := 4) (k := 4) rfl i0 i1 hL (by decide) (by decide)).1 (lw_ad (c := 4) (k := 4) rfl i0 i1 hL (by decide) (by decide)).2) ?_
  refine hs (f := dm_ald 663 3) rfl (lw_ld hV.2.2.2.1) ?_
  obtain ⟨k1, M2, e3, g4⟩ := lw_h (d := 140) (by decide) hK ((xs (i + (1 : Int32)).toNatClampNeg)) (((((((xs (i + (2 : Int32)).toNatClampNeg)).toInt64) <<< ((32 : Int32).toInt64 &&& 63))) ||| (((((xs (i + (3 : Int32)).toNatClampNeg)).toInt64) &&& (4294967295 : Int64))))) ((xs (i + (4 : Int32)).toNatClampNeg)) true 666 lv
  have hK5 := g4 _ _ _ _ _ hK
  refine hs (f := tl_sX 140 lw_G true 666) rfl e3 ?_
  refine hs (f := dm_ist 668 5) rfl rfl ?_
  refine hs (f := dm_ald 669 2) rfl (lw_ld (lw_V5 (by decide) hV).2.2.1) ?_
  refine hs (f := dm_ald 670 0) rfl (lw_lf (lw_V5 (by decide) hV).1) ?_
  refine hs (f := dm_ild 672 4) rfl (lw_li (lw_V5 (by decide) hV).2.2.2.2) ?_
  refine hs (f := dm_push 673 (.int 1)) rfl rfl ?_
  refine hs (f := dm_ii 674 (fun x y => x + y)) rfl rfl ?_
  refine hs (f := dm_sld 675 L xs) rfl (lw_sx (lw_ad (c := 1) (k := 1) rfl i0 i1 hL (by decide) (by decide)).1 (lw_ad (c := 1) (k := 1) rfl i0 i1 hL (by decide) (by decide)).2) ?_
  refine hs (f := dm_ald 676 0) rfl (lw_lf (lw_V5 (by decide) hV).1) ?_
  refine hs (f := dm_ild 678 4) rfl (lw_li (lw_V5 (by decide) hV).2.2.2.2) ?_
  refine hs (f := dm_push 679 (.int 2)) rfl rfl ?_
  refine hs (f := dm_ii 680 (fun x y => x + y)) rfl rfl ?_
  refine hs (f := dm_sld 681 L xs) rfl (lw_sx (lw_ad (c := 2) (k := 2) rfl i0 i1 hL (by decide) (by decide)).1 (lw_ad (c := 2) (k := 2) rfl i0 i1 hL (by decide) (by decide)).2) ?_
  refine hs (f := dm_i1 682 (fun x => .long x.toInt64)) rfl rfl ?_
  refine hs (f := dm_push 684 (.int 32)) rfl rfl ?_
  refine hs (f := dm_li 685 (fun x y => x <<< (y.toInt64 &&& 63))) rfl rfl ?_
  refine hs (f := dm_ald 686 0) rfl (lw_lf (lw_V5 (by decide) hV).1) ?_
  refine hs (f := dm_ild 688 4) rfl (lw_li (lw_V5 (by decide) hV).2.2.2.2) ?_
  refine hs (f := dm_push 689 (.int 3)) rfl rfl ?_
  refine hs (f := dm_ii 690 (fun x y => x + y)) rfl rfl ?_
  refine hs (f := dm_sld 691 L xs) rfl (lw_sx (lw_ad (c := 3) (k := 3) rfl i0 i1 hL (by decide) (by decide)).1 (lw_ad (c := 3) (k := 3) rfl i0 i1 hL (by decide) (by decide)).2) ?_
  refine hs (f := dm_i1 692 (fun x => .long x.toInt64)) rfl rfl ?_
  refine hs (f := dm_push 695 (.long 4294967295)) rfl rfl ?_
  refine hs (f := dm_ll 696 (fun x y => x &&& y)) rfl rfl ?_
  refine hs (f := dm_ll 697 (fun x y => x ||| y)) rfl rfl ?_
  refine hs (f := dm_ald 698 0) rfl (lw_lf (lw_V5 (by decide) hV).1) ?_
  refine hs (f := dm_ild 700 4) rfl (lw_li (lw_V5 (by decide) hV).2.2.2.2) ?_
  refine hs (f := dm_push 701 (.int 4)) rfl rfl ?_
  refine hs (f := dm_ii 702 (fun x y => x + y)) rfl rfl ?_
  refine hs (f := dm_sld 703 L xs) rfl (lw_sx (lw_ad (c := 4) (k := 4) rfl i0 i1 hL (by decide) (by decide)).1 (lw_ad (c := 4) (k := 4) rfl i0 i1 hL (by decide) (by decide)).2) ?_
  refine lw_m (T' := T + 1) (V := fun r q' => (∃ x : Int32, r = some (.int x)) ∧ q'.1 41 = q.1 41) (n := 706) (mj := 180) (na := 3) rfl rfl rfl (Nat.le_of_ble_eq_true rfl) hK5 (hT_mono (by decide) (op_180 hK5.2.1 hK5.2.2.1 hT6 ((xs (i + (1 : Int32)).toNatClampNeg)) (((((((xs (i + (2 : Int32)).toNatClampNeg)).toInt64) <<< ((32 : Int32).toInt64 &&& 63))) ||| (((((xs (i + (3 : Int32)).toNatClampNeg)).toInt64) &&& (4294967295 : Int64))))) ((xs (i + (4 : Int32)).toNatClampNeg))) (fun r M' w => by obtain ⟨x, q', _, h1, h2, h3, h4⟩ := w; exact ⟨q', ⟨⟨x, h1⟩, h4⟩, h2, h3⟩)) (fun r1 M8 q9 w hK7 => ?_)
  obtain ⟨⟨x11, rfl⟩, e10⟩ := w
  refine hs (f := dm_ist 708 6) rfl rfl ?_
  refine hs (f := dm_goto 1199) rfl rfl ?_
  exact K _ _ (lw_V5 (by decide) (lw_V5 (by decide) hV)) ⟨(S + 6), (C + 1), fl, q9, hK7, (e10.trans e0), by omega, by omega⟩
theorem lo_15 {L : Nat} {xs : Nat → Int32} {i : Int32} {lv : dm_Lv} {M : dm_Mem} {T : Int} {Q : Option Value → dm_Mem → Prop} (hL : L ≤ 4608) (i0 : 0 ≤ i.toInt) (i1 : i.toInt + 8 < L) (hV : lw_V i lv) (hI : LI T M) (hT6 : 0 ≤ T ∧ T ≤ 600) (K : ∀ lv' M', lw_V i lv' → LI (T + 1) M' → hG 140 (lwC L xs) 1199 lv' [] M' Q) : hG 140 (lwC L xs) 711 lv [] M Q := by
  obtain ⟨S, C, fl, q, hK, e0, hS, hC⟩ := hI
  refine hs (f := dm_ald 712 1) rfl (lw_ld hV.2.1) ?_
  refine hs (f := dm_ald 713 0) rfl (lw_lf hV.1) ?_
  refine hs (f := dm_ild 715 4) rfl (lw_li hV.2.2.2.2) ?_
  refine hs (f := dm_push 716 (.int 1)) rfl rfl ?_
  refine hs (f := dm_ii 717 (fun x y => x + y)) rfl rfl ?_
  refine hs (f := dm_sld 718 L xs) rfl (lw_sx (lw_ad (c := 1) (k := 1) rfl i0 i1 hL (by decide) (by decide)).1 (lw_ad (c := 1) (k := 1) rfl i0 i1 hL (by decide) (by decide)).2) ?_
  refine hs (f := dm_ald 719 0) rfl (lw_lf hV.1) ?_
  refine hs (f := dm_ild 721 4) rfl (lw_li hV.2.2.2.2) ?_
  refine hs (f := dm_push 722 (.int 2)) rfl rfl ?_
  refine hs (f := dm_ii 723 (fun x y => x + y)) rfl rfl ?_
  refine hs (f := dm_sld 724 L xs) rfl (lw_sx (lw_ad (c := 2) (k := 2) rfl i0 i1 hL (by decide) (by decide)).1 (lw_ad (c := 2) (k := 2) rfl i0 i1 hL (by decide) (by decide)).2) ?_
  refine lw_c (fl' := fl) (V := fun r => ∃ x : Int32, r = some (.int x)) (n := 727) (mj := 110) (na := 2) rfl rfl rfl (Nat.le_of_ble_eq_true rfl) hK hK.2.2.2.1 (hT_mono (by decide) (sp_110 rfl hK.1 lw_7 ((xs (i + (1 : Int32)).toNatClampNeg)) ((xs (i + (2 : Int32)).toNatClampNeg))) (fun r M' w => by obtain ⟨x, h1, h2⟩ := w; exact ⟨⟨x, h1⟩, h2⟩)) (fun r1 M2 w hK1 => ?_)
  obtain ⟨x3, rfl⟩ := w
  refine hs (f := dm_pop 728) rfl rfl ?_
  refine hs (f := dm_ald 729 2) rfl (lw_ld hV.2.2.1) ?_
  refine hs (f := dm_ald 730 0) rfl (lw_lf hV.1) ?_
  refine hs (f := dm_ild 732 4) rfl (lw_li hV.2.2.2.2) ?_
  refine hs (f := dm_push 733 (.int 1)) rfl rfl ?_
  refine hs (f := dm_ii 734 (fun x y => x + y)) rfl rfl ?_
  refine hs (f := dm_sld 735 L xs) rfl (lw_sx (lw_ad (c := 1) (k := 1) rfl i0 i1 hL (by decide) (by decide)).1 (lw_ad (c := 1) (k := 1) rfl i0 i1 hL (by decide) (by decide)).2) ?_
  refine hs (f := dm_ald 736 0) rfl (lw_lf hV.1) ?_
  refine hs (f := dm_ild 738 4) rfl (lw_li hV.2.2.2.2) ?_
  refine hs (f := dm_push 739 (.int 2)) rfl rfl ?_
  refine hs (f := dm_ii 740 (fun x y => x + y)) rfl rfl ?_
  refine hs (f := dm_sld 741 L xs) rfl (lw_sx (lw_ad (c := 2) (k := 2) rfl i0 i1 hL (by decide) (by decide)).1 (lw_ad (c := 2) (k := 2) rfl i0 i1 hL (by decide) (by decide)).2) ?_
  refine lw_m (T' := T + 1) (V := fun r q' => (∃ x : Int32, r = some (.int x)) ∧ q'.1 41 = q.1 41) (n := 744) (mj := 181) (na := 2) rfl rfl rfl (Nat.le_of_ble_eq_true rfl) hK1 (hT_mono (by decide) (op_181 hK1.2.1 hK1.2.2.1 hT6 ((xs (i + (1 : Int32)).toNatClampNeg)) ((xs (i + (2 : Int32)).toNatClampNeg))) (fun r M' w => by obtain ⟨x, q', h1, h2, h3, h4⟩ := w; exact ⟨q', ⟨⟨x, h1⟩, h4⟩, h2, h3⟩)) (fun r1 M5 q6 w hK4 => ?_)
  obtain ⟨⟨x8, rfl⟩, e7⟩ := w
  refine hs (f := dm_pop 745) rfl rfl ?_
  refine hs (f := dm_goto 1199) rfl rfl ?_
  exact K _ _ hV ⟨S, C, fl, q6, hK4, (e7.trans e0), by omega, by omega⟩
theorem lo_16 {L : Nat} {xs : Nat → Int32} {i : Int32} {lv : dm_Lv} {M : dm_Mem} {T : Int} {Q : Option Value → dm_Mem → Prop} (hL : L ≤ 4608) (i0 : 0 ≤ i.toInt) (i1 : i.toInt + 8 < L) (hV : lw_V i lv) (hI : LI T M) (hT6 : 0 ≤ T ∧ T ≤ 600) (K : ∀ lv' M', lw_V i lv' → LI (T + 1) M' → hG 140 (lwC L xs) 1199 lv' [] M' Q) : hG 140 (lwC L xs) 748 lv [] M Q := by
  obtain ⟨S, C, fl, q, hK, e0, hS, hC⟩ := hI
  refine hs (f := dm_ald 749 1) rfl (lw_ld hV.2.1) ?_
  refine hs (f := dm_ald 750 0) rfl (lw_lf hV.1) ?_
  refine hs (f := dm_ild 752 4) rfl (lw_li hV.2.2.2.2) ?_
  refine hs (f := dm_push 753 (.int 1)) rfl rfl ?_
  refine hs (f := dm_ii 754 (fun x y => x + y)) rfl rfl ?_
  refine hs (f := dm_sld 755 L xs) rfl (lw_sx (lw_ad (c := 1) (k := 1) rfl i0 i1 hL (by decide) (by decide)).1 (lw_ad (c := 1) (k := 1) rfl i0 i1 hL (by decide) (by decide)).2) ?_
  refine hs (f := dm_ald 756 0) rfl (lw_lf hV.1) ?_
  refine hs (f := dm_ild 758 4) rfl (lw_li hV.2.2.2.2) ?_
  refine hs (f := dm_push 759 (.int 2)) rfl rfl ?_
  refine hs (f := dm_ii 760 (fun x y => x + y)) rfl rfl ?_
  refine hs (f := dm_sld 761 L xs) rfl (lw_sx (lw_ad (c := 2) (k := 2) rfl i0 i1 hL (by decide) (by decide)).1 (lw_ad (c := 2) (k := 2) rfl i0 i1 hL (by decide) (by decide)).2) ?_
  refine hs (f := dm_ald 762 0) rfl (lw_lf hV.1) ?_
  refine hs (f := dm_ild 764 4) rfl (lw_li hV.2.2.2.2) ?_
  refine hs (f := dm_push 765 (.int 3)) rfl rfl ?_
  refine hs (f := dm_ii 766 (fun x y => x + y)) rfl rfl ?_
  refine hs (f := dm_sld 767 L xs) rfl (lw_sx (lw_ad (c := 3) (k := 3) rfl i0 i1 hL (by decide) (by decide)).1 (lw_ad (c := 3) (k := 3) rfl i0 i1 hL (by decide) (by decide)).2) ?_
  refine lw_c (fl' := fl) (V := fun r => ∃ x : Int32, r = some (.int x)) (n := 770) (mj := 111) (na := 3) rfl rfl rfl (Nat.le_of_ble_eq_true rfl) hK hK.2.2.2.1 (hT_mono (by decide) (sp_111 hK.1 lw_7 ((xs (i + (1 : Int32)).toNatClampNeg)) ((xs (i + (2 : Int32)).toNatClampNeg)) ((xs (i + (3 : Int32)).toNatClampNeg))) (fun r M' w => by obtain ⟨x, _, h1, h2⟩ := w; exact ⟨⟨x, h1⟩, h2⟩)) (fun r1 M2 w hK1 => ?_)
  obtain ⟨x3, rfl⟩ := w
  refine hs (f := dm_pop 771) rfl rfl ?_
  refine hs (f := dm_ald 772 2) rfl (lw_ld hV.2.2.1) ?_
  refine hs (f := dm_ald 773 0) rfl (lw_lf hV.1) ?_
  refine hs (f := dm_ild 775 4) rfl (lw_li hV.2.2.2.2) ?_
  refine hs (f := dm_push 776 (.int 1)) rfl rfl ?_
  refine hs (f := dm_ii 777 (fun x y => x + y)) rfl rfl ?_
  refine hs (f := dm_sld 778 L xs) rfl (lw_sx (lw_ad (c := 1) (k := 1) rfl i0 i1 hL (by decide) (by decide)).1 (lw_ad (c := 1) (k := 1) rfl i0 i1 hL (by decide) (by decide)).2) ?_
  refine hs (f := dm_ald 779 0) rfl (lw_lf hV.1) ?_
  refine hs (f := dm_ild 781 4) rfl (lw_li hV.2.2.2.2) ?_
  refine hs (f := dm_push 782 (.int 2)) rfl rfl ?_
  refine hs (f := dm_ii 783 (fun x y => x + y)) rfl rfl ?_
  refine hs (f := dm_sld 784 L xs) rfl (lw_sx (lw_ad (c := 2) (k := 2) rfl i0 i1 hL (by decide) (by decide)).1 (lw_ad (c := 2) (k := 2) rfl i0 i1 hL (by decide) (by decide)).2) ?_
  refine hs (f := dm_ald 785 0) rfl (lw_lf hV.1) ?_
  refine hs (f := dm_ild 787 4) rfl (lw_li hV.2.2.2.2) ?_
  refine hs (f := dm_push 788 (.int 3)) rfl rfl ?_
  refine hs (f := dm_ii 789 (fun x y => x + y)) rfl rfl ?_
  refine hs (f := dm_sld 790 L xs) rfl (lw_sx (lw_ad (c := 3) (k := 3) rfl i0 i1 hL (by decide) (by decide)).1 (lw_ad (c := 3) (k := 3) rfl i0 i1 hL (by decide) (by decide)).2) ?_
  refine lw_m (T' := T + 1) (V := fun r q' => (∃ x : Int32, r = some (.int x)) ∧ q'.1 41 = q.1 41) (n := 793) (mj := 184) (na := 3) rfl rfl rfl (Nat.le_of_ble_eq_true rfl) hK1 (hT_mono (by decide) (op_184 hK1.2.1 hK1.2.2.1 hT6 ((xs (i + (1 : Int32)).toNatClampNeg)) ((xs (i + (2 : Int32)).toNatClampNeg)) ((xs (i + (3 : Int32)).toNatClampNeg))) (fun r M' w => by obtain ⟨x, q', _, h1, h2, h3, h4⟩ := w; exact ⟨q', ⟨⟨x, h1⟩, h4⟩, h2, h3⟩)) (fun r1 M5 q6 w hK4 => ?_)
  obtain ⟨⟨x8, rfl⟩, e7⟩ := w
  refine hs (f := dm_pop 794) rfl rfl ?_
  refine hs (f := dm_goto 1199) rfl rfl ?_
  exact K _ _ hV ⟨S, C, fl, q6, hK4, (e7.trans e0), by omega, by omega⟩
theorem lo_17 {L : Nat} {xs : Nat → Int32} {i : Int32} {lv : dm_Lv} {M : dm_Mem} {T : Int} {Q : Option Value → dm_Mem → Prop} (hL : L ≤ 4608) (i0 : 0 ≤ i.toInt) (i1 : i.toInt + 8 < L) (hV : lw_V i lv) (hI : LI T M) (hT6 : 0 ≤ T ∧ T ≤ 600) (K : ∀ lv' M', lw_V i lv' → LI (T + 1) M' → hG 140 (lwC L xs) 1199 lv' [] M' Q) : hG 140 (lwC L xs) 797 lv [] M Q := by
  obtain ⟨S, C, fl, q, hK, e0, hS, hC⟩ := hI
  refine hs (f := dm_ald 798 1) rfl (lw_ld hV.2.1) ?_
  refine lw_c (fl' := fl) (V := fun r => ∃ x : Int64, r = some (.long x)) (n := 801) (mj := 112) (na := 0) rfl rfl rfl (Nat.le_of_ble_eq_true rfl) hK hK.2.2.2.1 (hT_mono (by decide) (sp_112 hK.1 lw_7 ) (fun r M' w => by obtain ⟨x, h1, h2⟩ := w; exact ⟨⟨x, h1⟩, by rw [h2]; exact hK.1⟩)) (fun r1 M2 w hK1 => ?_)
  obtain ⟨x3, rfl⟩ := w
  refine hs (f := dm_pop2 802) rfl rfl ?_
  refine hs (f := dm_ald 803 2) rfl (lw_ld hV.2.2.1) ?_
  refine lw_m (T' := T + 1) (V := fun r q' => (∃ x : Int64, r = some (.long x)) ∧ q'.1 41 = q.1 41) (n := 806) (mj := 185) (na := 0) rfl rfl rfl (Nat.le_of_ble_eq_true rfl) hK1 (hT_mono (by decide) (op_185 hK1.2.1 hK1.2.2.1 hT6 ) (fun r M' w => by obtain ⟨x, q', h1, h2, h3, h4⟩ := w; exact ⟨q', ⟨⟨x, h1⟩, h4⟩, h2, h3⟩)) (fun r1 M5 q6 w hK4 => ?_)
  obtain ⟨⟨x8, rfl⟩, e7⟩ := w
  refine hs (f := dm_pop2 807) rfl rfl ?_
  refine hs (f := dm_goto 1199) rfl rfl ?_
  exact K _ _ hV ⟨S, C, fl, q6, hK4, (e7.trans e0), by omega, by omega⟩
theorem lo_18 {L : Nat} {xs : Nat → Int32} {i : Int32} {lv : dm_Lv} {M : dm_Mem} {T : Int} {Q : Option Value → dm_Mem → Prop} (hL : L ≤ 4608) (i0 : 0 ≤ i.toInt) (i1 : i.toInt + 8 < L) (hV : lw_V i lv) (hI : LI T M) (hT6 : 0 ≤ T ∧ T ≤ 600) (K : ∀ lv' M', lw_V i lv' → LI (T + 1) M' → hG 140 (lwC L xs) 1199 lv' [] M' Q) : hG 140 (lwC L xs) 810 lv [] M Q := by
  obtain ⟨S, C, fl, q, hK, e0, hS, hC⟩ := hI
  refine hs (f := dm_ald 811 1) rfl (lw_ld hV.2.1) ?_
  refine lw_c (fl' := fl) (V := fun r => ∃ x : Int32, r = some (.int x)) (n := 814) (mj := 113) (na := 0) rfl rfl rfl (Nat.le_of_ble_eq_true rfl) hK hK.2.2.2.1 (hT_mono (by decide) (sp_113 hK.1 lw_7 ) (fun r M' w => by obtain ⟨x, h1, h2⟩ := w; exact ⟨⟨x, h1⟩, by rw [h2]; exact hK.1⟩)) (fun r1 M2 w hK1 => ?_)
  obtain ⟨x3, rfl⟩ := w
  refine hs (f := dm_pop 815) rfl rfl ?_
  refine hs (f := dm_ald 816 2) rfl (lw_ld hV.2.2.1) ?_
  refine lw_m (T' := T + 1) (V := fun r q' => (∃ x : Int32, r = some (.int x)) ∧ q'.1 41 = q.1 41) (n := 819) (mj := 186) (na := 0) rfl rfl rfl (Nat.le_of_ble_eq_true rfl) hK1 (hT_mono (by decide) (op_186 hK1.2.1 hK1.2.2.1 hT6 ) (fun r M' w => by obtain ⟨x, q', h1, h2, h3, h4⟩ := w; exact ⟨q', ⟨⟨x, h1⟩, h4⟩, h2, h3⟩)) (fun r1 M5 q6 w hK4 => ?_)
  obtain ⟨⟨x8, rfl⟩, e7⟩ := w
  refine hs (f := dm_pop 820) rfl rfl ?_
  refine hs (f := dm_goto 1199) rfl rfl ?_
  exact K _ _ hV ⟨S, C, fl, q6, hK4, (e7.trans e0), by omega, by omega⟩
theorem lo_19 {L : Nat} {xs : Nat → Int32} {i : Int32} {lv : dm_Lv} {M : dm_Mem} {T : Int} {Q : Option Value → dm_Mem → Prop} (hL : L ≤ 4608) (i0 : 0 ≤ i.toInt) (i1 : i.toInt + 8 < L) (hV : lw_V i lv) (hI : LI T M) (hT6 : 0 ≤ T ∧ T ≤ 600) (K : ∀ lv' M', lw_V i lv' → LI (T + 1) M' → hG 140 (lwC L xs) 1199 lv' [] M' Q) : hG 140 (lwC L xs) 823 lv [] M Q := by
  obtain ⟨S, C, fl, q, hK, e0, hS, hC⟩ := hI
  refine hs (f := dm_ald 824 1) rfl (lw_ld hV.2.1) ?_
  refine hs (f := dm_ald 825 0) rfl (lw_lf hV.1) ?_
  refine hs (f := dm_ild 827 4) rfl (lw_li hV.2.2.2.2) ?_
  refine hs (f := dm_push 828 (.int 1)) rfl rfl ?_
  refine hs (f := dm_ii 829 (fun x y => x + y)) rfl rfl ?_
  refine hs (f := dm_sld 830 L xs) rfl (lw_sx (lw_ad (c := 1) (k := 1) rfl i0 i1 hL (by decide) (by decide)).1 (lw_ad (c := 1) (k := 1) rfl i0 i1 hL (by decide) (by decide)).2) ?_
  refine hs (f := dm_ald 831 0) rfl (lw_lf hV.1) ?_
  refine hs (f := dm_ild 833 4) rfl (lw_li hV.2.2.2.2) ?_
  refine hs (f := dm_push 834 (.int 2)) rfl rfl ?_
  refine hs (f := dm_ii 835 (fun x y => x + y)) rfl rfl ?_
  refine hs (f := dm_sld 836 L xs) rfl (lw_sx (lw_ad (c := 2) (k := 2) rfl i0 i1 hL (by decide) (by decide)).1 (lw_ad (c := 2) (k := 2) rfl i0 i1 hL (by decide) (by decide)).2) ?_
  refine hs (f := dm_ald 837 0) rfl (lw_lf hV.1) ?_
  refine hs (f := dm_ild 839 4) rfl (lw_li hV.2.2.2.2) ?_
  refine hs (f := dm_push 840 (.int 3)) rfl rfl ?_
  refine hs (f := dm_ii 841 (fun x y => x + y)) rfl rfl ?_
  refine hs (f := dm_sld 842 L xs) rfl (lw_sx (lw_ad (c := 3) (k := 3) rfl i0 i1 hL (by decide) (by decide)).1 (lw_ad (c := 3) (k := 3) rfl i0 i1 hL (by decide) (by decide)).2) ?_
  refine hs (f := dm_i1 843 (fun x => .long x.toInt64)) rfl rfl ?_
  refine hs (f := dm_push 845 (.int 32)) rfl rfl ?_
  refine hs (f := dm_li 846 (fun x y => x <<< (y.toInt64 &&& 63))) rfl rfl ?_
  refine hs (f := dm_ald 847 0) rfl (lw_lf hV.1) ?_
  refine hs (f := dm_ild 849 4) rfl (lw_li hV.2.2.2.2) ?_
  refine hs (f := dm_push 850 (.int 4)) rfl rfl ?_
  refine hs (f := dm_ii 851 (fun x y => x + y)) rfl rfl ?_
  refine hs (f := dm_sld 852 L xs) rfl (lw_sx (lw_ad (c := 4) (k := 4) rfl i0 i1 hL (by decide) (by decide)).1 (lw_ad (c := 4) (k := 4) rfl i0 i1 hL (by decide) (by decide)).2) ?_
  refine hs (f := dm_i1 853 (fun x => .long x.toInt64)) rfl rfl ?_
  refine hs (f := dm_push 856 (.long 4294967295)) rfl rfl ?_
  refine hs (f := dm_ll 857 (fun x y => x &&& y)) rfl rfl ?_
  refine hs (f := dm_ll 858 (fun x y => x ||| y)) rfl rfl ?_
  refine hs (f := dm_ald 859 0) rfl (lw_lf hV.1) ?_
  refine hs (f := dm_ild 861 4) rfl (lw_li hV.2.2.2.2) ?_
  refine hs (f := dm_push 862 (.int 5)) rfl rfl ?_
  refine hs (f := dm_ii 863 (fun x y => x + y)) rfl rfl ?_
  refine hs (f := dm_sld 864 L xs) rfl (lw_sx (lw_ad (c := 5) (k := 5) rfl i0 i1 hL (by decide) (by decide)).1 (lw_ad (c := 5) (k := 5) rfl i0 i1 hL (by decide) (by decide)).2) ?_
  refine hs (f := dm_ald 865 0) rfl (lw_lf hV.1) ?_
  refine hs (f := dm_ild 867 4) rfl (lw_li hV.2.2.2.2) ?_
  refine hs (f := dm_push 869 (.int 6)) rfl rfl ?_
  refine hs (f := dm_ii 870 (fun x y => x + y)) rfl rfl ?_
  refine hs (f := dm_sld 871 L xs) rfl (lw_sx (lw_ad (c := 6) (k := 6) rfl i0 i1 hL (by decide) (by decide)).1 (lw_ad (c := 6) (k := 6) rfl i0 i1 hL (by decide) (by decide)).2) ?_
  refine hs (f := dm_i1 872 (fun x => .long x.toInt64)) rfl rfl ?_
  refine hs (f := dm_push 874 (.int 32)) rfl rfl ?_
  refine hs (f := dm_li 875 (fun x y => x <<< (y.toInt64 &&& 63))) rfl rfl ?_
  refine hs (f := dm_ald 876 0) rfl (lw_lf hV.1) ?_
  refine hs (f := dm_ild 878 4) rfl (lw_li hV.2.2.2.2) ?_
  refine hs (f := dm_push 880 (.int 7)) rfl rfl ?_
  refine hs (f := dm_ii 881 (fun x y => x + y)) rfl rfl ?_
  refine hs (f := dm_sld 882 L xs) rfl (lw_sx (lw_ad (c := 7) (k := 7) rfl i0 i1 hL (by decide) (by decide)).1 (lw_ad (c := 7) (k := 7) rfl i0 i1 hL (by decide) (by decide)).2) ?_
  refine hs (f := dm_i1 883 (fun x => .long x.toInt64)) rfl rfl ?_
  refine hs (f := dm_push 886 (.long 4294967295)) rfl rfl ?_
  refine hs (f := dm_ll 887 (fun x y => x &&& y)) rfl rfl ?_
  refine hs (f := dm_ll 888 (fun x y => x ||| y)) rfl rfl ?_
  refine hs (f := dm_ald 889 0) rfl (lw_lf hV.1) ?_
  refine hs (f := dm_ild 891 4) rfl (lw_li hV.2.2.2.2) ?_
  refine hs (f := dm_push 893 (.int 8)) rfl rfl ?_
  refine hs (f := dm_ii 894 (fun x y => x + y)) rfl rfl ?_
  refine hs (f := dm_sld 895 L xs) rfl (lw_sx (lw_ad (c := 8) (k := 8) rfl i0 i1 hL (by decide) (by decide)).1 (lw_ad (c := 8) (k := 8) rfl i0 i1 hL (by decide) (by decide)).2) ?_
  refine lw_c (fl' := fl) (V := fun r => ∃ x : Int32, r = some (.int x)) (n := 898) (mj := 114) (na := 6) rfl rfl rfl (Nat.le_of_ble_eq_true rfl) hK hK.2.2.2.1 (hT_mono (by decide) (sp_114 hK.1 lw_7 ((xs (i + (1 : Int32)).toNatClampNeg)) ((xs (i + (2 : Int32)).toNatClampNeg)) (((((((xs (i + (3 : Int32)).toNatClampNeg)).toInt64) <<< ((32 : Int32).toInt64 &&& 63))) ||| (((((xs (i + (4 : Int32)).toNatClampNeg)).toInt64) &&& (4294967295 : Int64))))) ((xs (i + (5 : Int32)).toNatClampNeg)) (((((((xs (i + (6 : Int32)).toNatClampNeg)).toInt64) <<< ((32 : Int32).toInt64 &&& 63))) ||| (((((xs (i + (7 : Int32)).toNatClampNeg)).toInt64) &&& (4294967295 : Int64))))) ((xs (i + (8 : Int32)).toNatClampNeg))) (fun r M' w => by obtain ⟨x, h1, h2⟩ := w; exact ⟨⟨x, h1⟩, by rw [h2]; exact hK.1⟩)) (fun r1 M2 w hK1 => ?_)
  obtain ⟨x3, rfl⟩ := w
  refine hs (f := dm_pop 899) rfl rfl ?_
  refine hs (f := dm_ald 900 2) rfl (lw_ld hV.2.2.1) ?_
  refine hs (f := dm_ald 901 0) rfl (lw_lf hV.1) ?_
  refine hs (f := dm_ild 903 4) rfl (lw_li hV.2.2.2.2) ?_
  refine hs (f := dm_push 904 (.int 1)) rfl rfl ?_
  refine hs (f := dm_ii 905 (fun x y => x + y)) rfl rfl ?_
  refine hs (f := dm_sld 906 L xs) rfl (lw_sx (lw_ad (c := 1) (k := 1) rfl i0 i1 hL (by decide) (by decide)).1 (lw_ad (c := 1) (k := 1) rfl i0 i1 hL (by decide) (by decide)).2) ?_
  refine hs (f := dm_ald 907 0) rfl (lw_lf hV.1) ?_
  refine hs (f := dm_ild 909 4) rfl (lw_li hV.2.2.2.2) ?_
  refine hs (f := dm_push 910 (.int 2)) rfl rfl ?_
  refine hs (f := dm_ii 911 (fun x y => x + y)) rfl rfl ?_
  refine hs (f := dm_sld 912 L xs) rfl (lw_sx (lw_ad (c := 2) (k := 2) rfl i0 i1 hL (by decide) (by decide)).1 (lw_ad (c := 2) (k := 2) rfl i0 i1 hL (by decide) (by decide)).2) ?_
  refine hs (f := dm_ald 913 0) rfl (lw_lf hV.1) ?_
  refine hs (f := dm_ild 915 4) rfl (lw_li hV.2.2.2.2) ?_
  refine hs (f := dm_push 916 (.int 3)) rfl rfl ?_
  refine hs (f := dm_ii 917 (fun x y => x + y)) rfl rfl ?_
  refine hs (f := dm_sld 918 L xs) rfl (lw_sx (lw_ad (c := 3) (k := 3) rfl i0 i1 hL (by decide) (by decide)).1 (lw_ad (c := 3) (k := 3) rfl i0 i1 hL (by decide) (by decide)).2) ?_
  refine hs (f := dm_i1 919 (fun x => .long x.toInt64)) rfl rfl ?_
  refine hs (f := dm_push 921 (.int 32)) rfl rfl ?_
  refine hs (f := dm_li 922 (fun x y => x <<< (y.toInt64 &&& 63))) rfl rfl ?_
  refine hs (f := dm_ald 923 0) rfl (lw_lf hV.1) ?_
  refine hs (f := dm_ild 925 4) rfl (lw_li hV.2.2.2.2) ?_
  refine hs (f := dm_push 926 (.int 4)) rfl rfl ?_
  refine hs (f := dm_ii 927 (fun x y => x + y)) rfl rfl ?_
  refine hs (f := dm_sld 928 L xs) rfl (lw_sx (lw_ad (c := 4) (k := 4) rfl i0 i1 hL (by decide) (by decide)).1 (lw_ad (c := 4) (k := 4) rfl i0 i1 hL (by decide) (by decide)).2) ?_
  refine hs (f := dm_i1 929 (fun x => .long x.toInt64)) rfl rfl ?_
  refine hs (f := dm_push 932 (.long 4294967295)) rfl rfl ?_
  refine hs (f := dm_ll 933 (fun x y => x &&& y)) rfl rfl ?_
  refine hs (f := dm_ll 934 (fun x y => x ||| y)) rfl rfl ?_
  refine hs (f := dm_ald 935 0) rfl (lw_lf hV.1) ?_
  refine hs (f := dm_ild 937 4) rfl (lw_li hV.2.2.2.2) ?_
  refine hs (f := dm_push 938 (.int 5)) rfl rfl ?_
  refine hs (f := dm_ii 939 (fun x y => x + y)) rfl rfl ?_
  refine hs (f := dm_sld 940 L xs) rfl (lw_sx (lw_ad (c := 5) (k := 5) rfl i0 i1 hL (by decide) (by decide)).1 (lw_ad (c := 5) (k := 5) rfl i0 i1 hL (by decide) (by decide)).2) ?_
  refine hs (f := dm_ald 941 0) rfl (lw_lf hV.1) ?_
  refine hs (f := dm_ild 943 4) rfl (lw_li hV.2.2.2.2) ?_
  refine hs (f := dm_push 945 (.int 6)) rfl rfl ?_
  refine hs (f := dm_ii 946 (fun x y => x + y)) rfl rfl ?_
  refine hs (f := dm_sld 947 L xs) rfl (lw_sx (lw_ad (c := 6) (k := 6) rfl i0 i1 hL (by decide) (by decide)).1 (lw_ad (c := 6) (k := 6) rfl i0 i1 hL (by decide) (by decide)).2) ?_
  refine hs (f := dm_i1 948 (fun x => .long x.toInt64)) rfl rfl ?_
  refine hs (f := dm_push 950 (.int 32)) rfl rfl ?_
  refine hs (f := dm_li 951 (fun x y => x <<< (y.toInt64 &&& 63))) rfl rfl ?_
  refine hs (f := dm_ald 952 0) rfl (lw_lf hV.1) ?_
  refine hs (f := dm_ild 954 4) rfl (lw_li hV.2.2.2.2) ?_
  refine hs (f := dm_push 956 (.int 7)) rfl rfl ?_
  refine hs (f := dm_ii 957 (fun x y => x + y)) rfl rfl ?_
  refine hs (f := dm_sld 958 L xs) rfl (lw_sx (lw_ad (c := 7) (k := 7) rfl i0 i1 hL (by decide) (by decide)).1 (lw_ad (c := 7) (k := 7) rfl i0 i1 hL (by decide) (by decide)).2) ?_
  refine hs (f := dm_i1 959 (fun x => .long x.toInt64)) rfl rfl ?_
  refine hs (f := dm_push 962 (.long 4294967295)) rfl rfl ?_
  refine hs (f := dm_ll 963 (fun x y => x &&& y)) rfl rfl ?_
  refine hs (f := dm_ll 964 (fun x y => x ||| y)) rfl rfl ?_
  refine hs (f := dm_ald 965 0) rfl (lw_lf hV.1) ?_
  refine hs (f := dm_ild 967 4) rfl (lw_li hV.2.2.2.2) ?_
  refine hs (f := dm_push 969 (.int 8)) rfl rfl ?_
  refine hs (f := dm_ii 970 (fun x y => x + y)) rfl rfl ?_
  refine hs (f := dm_sld 971 L xs) rfl (lw_sx (lw_ad (c := 8) (k := 8) rfl i0 i1 hL (by decide) (by decide)).1 (lw_ad (c := 8) (k := 8) rfl i0 i1 hL (by decide) (by decide)).2) ?_
  refine lw_m (T' := T + 1) (V := fun r q' => (∃ x : Int32, r = some (.int x)) ∧ q'.1 41 = q.1 41) (n := 974) (mj := 187) (na := 6) rfl rfl rfl (Nat.le_of_ble_eq_true rfl) hK1 (hT_mono (by decide) (op_187 hK1.2.1 hK1.2.2.1 hT6 ((xs (i + (1 : Int32)).toNatClampNeg)) ((xs (i + (2 : Int32)).toNatClampNeg)) (((((((xs (i + (3 : Int32)).toNatClampNeg)).toInt64) <<< ((32 : Int32).toInt64 &&& 63))) ||| (((((xs (i + (4 : Int32)).toNatClampNeg)).toInt64) &&& (4294967295 : Int64))))) ((xs (i + (5 : Int32)).toNatClampNeg)) (((((((xs (i + (6 : Int32)).toNatClampNeg)).toInt64) <<< ((32 : Int32).toInt64 &&& 63))) ||| (((((xs (i + (7 : Int32)).toNatClampNeg)).toInt64) &&& (4294967295 : Int64))))) ((xs (i + (8 : Int32)).toNatClampNeg))) (fun r M' w => by obtain ⟨x, q', h1, h2, h3, h4⟩ := w; exact ⟨q', ⟨⟨x, h1⟩, h4⟩, h2, h3⟩)) (fun r1 M5 q6 w hK4 => ?_)
  obtain ⟨⟨x8, rfl⟩, e7⟩ := w
  refine hs (f := dm_pop 975) rfl rfl ?_
  refine hs (f := dm_goto 1199) rfl rfl ?_
  exact K _ _ hV ⟨S, C, fl, q6, hK4, (e7.trans e0), by omega, by omega⟩
theorem lo_20 {L : Nat} {xs : Nat → Int32} {i : Int32} {lv : dm_Lv} {M : dm_Mem} {T : Int} {Q : Option Value → dm_Mem → Prop} (hL : L ≤ 4608) (i0 : 0 ≤ i.toInt) (i1 : i.toInt + 8 < L) (hV : lw_V i lv) (hI : LI T M) (hT6 : 0 ≤ T ∧ T ≤ 600) (K : ∀ lv' M', lw_V i lv' → LI (T + 1) M' → hG 140 (lwC L xs) 1199 lv' [] M' Q) : hG 140 (lwC L xs) 978 lv [] M Q := by
  obtain ⟨S, C, fl, q, hK, e0, hS, hC⟩ := hI
  refine hs (f := dm_ald 979 1) rfl (lw_ld hV.2.1) ?_
  refine hs (f := dm_ald 980 0) rfl (lw_lf hV.1) ?_
  refine hs (f := dm_ild 982 4) rfl (lw_li hV.2.2.2.2) ?_
  refine hs (f := dm_push 983 (.int 1)) rfl rfl ?_
  refine hs (f := dm_ii 984 (fun x y => x + y)) rfl rfl ?_
  refine hs (f := dm_sld 985 L xs) rfl (lw_sx (lw_ad (c := 1) (k := 1) rfl i0 i1 hL (by decide) (by decide)).1 (lw_ad (c := 1) (k := 1) rfl i0 i1 hL (by decide) (by decide)).2) ?_
  refine lw_c (fl' := fl) (V := fun r => ∃ x : Int32, r = some (.int x)) (n := 988) (mj := 115) (na := 1) rfl rfl rfl (Nat.le_of_ble_eq_true rfl) hK hK.2.2.2.1 (hT_mono (by decide) (sp_115 rfl hK.1 lw_7 ((xs (i + (1 : Int32)).toNatClampNeg))) (fun r M' w => by obtain ⟨x, h1, h2⟩ := w; exact ⟨⟨x, h1⟩, h2⟩)) (fun r1 M2 w hK1 => ?_)
  obtain ⟨x3, rfl⟩ := w
  refine hs (f := dm_pop 989) rfl rfl ?_
  refine hs (f := dm_ald 990 2) rfl (lw_ld hV.2.2.1) ?_
  refine hs (f := dm_ald 991 0) rfl (lw_lf hV.1) ?_
  refine hs (f := dm_ild 993 4) rfl (lw_li hV.2.2.2.2) ?_
  refine hs (f := dm_push 994 (.int 1)) rfl rfl ?_
  refine hs (f := dm_ii 995 (fun x y => x + y)) rfl rfl ?_
  refine hs (f := dm_sld 996 L xs) rfl (lw_sx (lw_ad (c := 1) (k := 1) rfl i0 i1 hL (by decide) (by decide)).1 (lw_ad (c := 1) (k := 1) rfl i0 i1 hL (by decide) (by decide)).2) ?_
  refine lw_m (T' := T + 1) (V := fun r q' => (∃ x : Int32, r = some (.int x)) ∧ q'.1 41 = q.1 41) (n := 999) (mj := 193) (na := 1) rfl rfl rfl (Nat.le_of_ble_eq_true rfl) hK1 (hT_mono (by decide) (op_193 hK1.2.1 hK1.2.2.1 hT6 ((xs (i + (1 : Int32)).toNatClampNeg))) (fun r M' w => by obtain ⟨x, q', h1, h2, h3, h4⟩ := w; exact ⟨q', ⟨⟨x, h1⟩, h4⟩, h2, h3⟩)) (fun r1 M5 q6 w hK4 => ?_)
  obtain ⟨⟨x8, rfl⟩, e7⟩ := w
  refine hs (f := dm_pop 1000) rfl rfl ?_
  refine hs (f := dm_goto 1199) rfl rfl ?_
  exact K _ _ hV ⟨S, C, fl, q6, hK4, (e7.trans e0), by omega, by omega⟩
theorem lo_21 {L : Nat} {xs : Nat → Int32} {i : Int32} {lv : dm_Lv} {M : dm_Mem} {T : Int} {Q : Option Value → dm_Mem → Prop} (hL : L ≤ 4608) (i0 : 0 ≤ i.toInt) (i1 : i.toInt + 8 < L) (hV : lw_V i lv) (hI : LI T M) (hT6 : 0 ≤ T ∧ T ≤ 600) (K : ∀ lv' M', lw_V i lv' → LI (T + 1) M' → hG 140 (lwC L xs) 1199 lv' [] M' Q) : hG 140 (lwC L xs) 1003 lv [] M Q := by
  obtain ⟨S, C, fl, q, hK, e0, hS, hC⟩ := hI
  refine hs (f := dm_ald 1004 1) rfl (lw_ld hV.2.1) ?_
  refine hs (f := dm_ald 1005 0) rfl (lw_lf hV.1) ?_
  refine hs (f := dm_ild 1007 4) rfl (lw_li hV.2.2.2.2) ?_
  refine hs (f := dm_push 1008 (.int 1)) rfl rfl ?_
  refine hs (f := dm_ii 1009 (fun x y => x + y)) rfl rfl ?_
  refine hs (f := dm_sld 1010 L xs) rfl (lw_sx (lw_ad (c := 1) (k := 1) rfl i0 i1 hL (by decide) (by decide)).1 (lw_ad (c := 1) (k := 1) rfl i0 i1 hL (by decide) (by decide)).2) ?_
  refine lw_c (fl' := fl) (V := fun r => ∃ x : Int32, r = some (.int x)) (n := 1013) (mj := 116) (na := 1) rfl rfl rfl (Nat.le_of_ble_eq_true rfl) hK hK.2.2.2.1 (hT_mono (by decide) (sp_116 hK.1 lw_7 ((xs (i + (1 : Int32)).toNatClampNeg))) (fun r M' w => by obtain ⟨x, h1, h2⟩ := w; exact ⟨⟨x, h1⟩, by rw [h2]; exact hK.1⟩)) (fun r1 M2 w hK1 => ?_)
  obtain ⟨x3, rfl⟩ := w
  refine hs (f := dm_pop 1014) rfl rfl ?_
  refine hs (f := dm_ald 1015 2) rfl (lw_ld hV.2.2.1) ?_
  refine hs (f := dm_ald 1016 0) rfl (lw_lf hV.1) ?_
  refine hs (f := dm_ild 1018 4) rfl (lw_li hV.2.2.2.2) ?_
  refine hs (f := dm_push 1019 (.int 1)) rfl rfl ?_
  refine hs (f := dm_ii 1020 (fun x y => x + y)) rfl rfl ?_
  refine hs (f := dm_sld 1021 L xs) rfl (lw_sx (lw_ad (c := 1) (k := 1) rfl i0 i1 hL (by decide) (by decide)).1 (lw_ad (c := 1) (k := 1) rfl i0 i1 hL (by decide) (by decide)).2) ?_
  refine lw_m (T' := T + 1) (V := fun r q' => (∃ x : Int32, r = some (.int x)) ∧ q'.1 41 = q.1 41) (n := 1024) (mj := 194) (na := 1) rfl rfl rfl (Nat.le_of_ble_eq_true rfl) hK1 (hT_mono (by decide) (op_194 hK1.2.1 hK1.2.2.1 hT6 ((xs (i + (1 : Int32)).toNatClampNeg))) (fun r M' w => by obtain ⟨x, q', h1, h2, h3, h4⟩ := w; exact ⟨q', ⟨⟨x, h1⟩, h4⟩, h2, h3⟩)) (fun r1 M5 q6 w hK4 => ?_)
  obtain ⟨⟨x8, rfl⟩, e7⟩ := w
  refine hs (f := dm_pop 1025) rfl rfl ?_
  refine hs (f := dm_goto 1199) rfl rfl ?_
  exact K _ _ hV ⟨S, C, fl, q6, hK4, (e7.trans e0), by omega, by omega⟩
theorem lo_22 {L : Nat} {xs : Nat → Int32} {i : Int32} {lv : dm_Lv} {M : dm_Mem} {T : Int} {Q : Option Value → dm_Mem → Prop} (hL : L ≤ 4608) (i0 : 0 ≤ i.toInt) (i1 : i.toInt + 8 < L) (hV : lw_V i lv) (hI : LI T M) (hT6 : 0 ≤ T ∧ T ≤ 600) (K : ∀ lv' M', lw_V i lv' → LI (T + 1) M' → hG 140 (lwC L xs) 1199 lv' [] M' Q) : hG 140 (lwC L xs) 1028 lv [] M Q := by
  obtain ⟨S, C, fl, q, hK, e0, hS, hC⟩ := hI
  refine hs (f := dm_ald 1029 1) rfl (lw_ld hV.2.1) ?_
  refine hs (f := dm_ald 1030 0) rfl (lw_lf hV.1) ?_
  refine hs (f := dm_ild 1032 4) rfl (lw_li hV.2.2.2.2) ?_
  refine hs (f := dm_push 1033 (.int 1)) rfl rfl ?_
  refine hs (f := dm_ii 1034 (fun x y => x + y)) rfl rfl ?_
  refine hs (f := dm_sld 1035 L xs) rfl (lw_sx (lw_ad (c := 1) (k := 1) rfl i0 i1 hL (by decide) (by decide)).1 (lw_ad (c := 1) (k := 1) rfl i0 i1 hL (by decide) (by decide)).2) ?_
  refine hs (f := dm_i1 1036 (fun x => .long x.toInt64)) rfl rfl ?_
  refine hs (f := dm_push 1038 (.int 32)) rfl rfl ?_
  refine hs (f := dm_li 1039 (fun x y => x <<< (y.toInt64 &&& 63))) rfl rfl ?_
  refine hs (f := dm_ald 1040 0) rfl (lw_lf hV.1) ?_
  refine hs (f := dm_ild 1042 4) rfl (lw_li hV.2.2.2.2) ?_
  refine hs (f := dm_push 1043 (.int 2)) rfl rfl ?_
  refine hs (f := dm_ii 1044 (fun x y => x + y)) rfl rfl ?_
  refine hs (f := dm_sld 1045 L xs) rfl (lw_sx (lw_ad (c := 2) (k := 2) rfl i0 i1 hL (by decide) (by decide)).1 (lw_ad (c := 2) (k := 2) rfl i0 i1 hL (by decide) (by decide)).2) ?_
  refine hs (f := dm_i1 1046 (fun x => .long x.toInt64)) rfl rfl ?_
  refine hs (f := dm_push 1049 (.long 4294967295)) rfl rfl ?_
  refine hs (f := dm_ll 1050 (fun x y => x &&& y)) rfl rfl ?_
  refine hs (f := dm_ll 1051 (fun x y => x ||| y)) rfl rfl ?_
  refine hs (f := dm_ald 1052 0) rfl (lw_lf hV.1) ?_
  refine hs (f := dm_ild 1054 4) rfl (lw_li hV.2.2.2.2) ?_
  refine hs (f := dm_push 1055 (.int 3)) rfl rfl ?_
  refine hs (f := dm_ii 1056 (fun x y => x + y)) rfl rfl ?_
  refine hs (f := dm_sld 1057 L xs) rfl (lw_sx (lw_ad (c := 3) (k := 3) rfl i0 i1 hL (by decide) (by decide)).1 (lw_ad (c := 3) (k := 3) rfl i0 i1 hL (by decide) (by decide)).2) ?_
  refine lw_c (fl' := fl) (V := fun r => ∃ x : Int32, r = some (.int x)) (n := 1060) (mj := 117) (na := 2) rfl rfl rfl (Nat.le_of_ble_eq_true rfl) hK hK.2.2.2.1 (hT_mono (by decide) (sp_117 rfl hK.1 lw_7 (((((((xs (i + (1 : Int32)).toNatClampNeg)).toInt64) <<< ((32 : Int32).toInt64 &&& 63))) ||| (((((xs (i + (2 : Int32)).toNatClampNeg)).toInt64) &&& (4294967295 : Int64))))) ((xs (i + (3 : Int32)).toNatClampNeg))) (fun r M' w => by obtain ⟨x, h1, h2⟩ := w; exact ⟨⟨x, h1⟩, h2⟩)) (fun r1 M2 w hK1 => ?_)
  obtain ⟨x3, rfl⟩ := w
  refine hs (f := dm_pop 1061) rfl rfl ?_
  refine hs (f := dm_ald 1062 2) rfl (lw_ld hV.2.2.1) ?_
  refine hs (f := dm_ald 1063 0) rfl (lw_lf hV.1) ?_
  refine hs (f := dm_ild 1065 4) rfl (lw_li hV.2.2.2.2) ?_
  refine hs (f := dm_push 1066 (.int 1)) rfl rfl ?_
  refine hs (f := dm_ii 1067 (fun x y => x + y)) rfl rfl ?_
  refine hs (f := dm_sld 1068 L xs) rfl (lw_sx (lw_ad (c := 1) (k := 1) rfl i0 i1 hL (by decide) (by decide)).1 (lw_ad (c := 1) (k := 1) rfl i0 i1 hL (by decide) (by decide)).2) ?_
  refine hs (f := dm_i1 1069 (fun x => .long x.toInt64)) rfl rfl ?_
  refine hs (f := dm_push 1071 (.int 32)) rfl rfl ?_
  refine hs (f := dm_li 1072 (fun x y => x <<< (y.toInt64 &&& 63))) rfl rfl ?_
  refine hs (f := dm_ald 1073 0) rfl (lw_lf hV.1) ?_
  refine hs (f := dm_ild 1075 4) rfl (lw_li hV.2.2.2.2) ?_
  refine hs (f := dm_push 1076 (.int 2)) rfl rfl ?_
  refine hs (f := dm_ii 1077 (fun x y => x + y)) rfl rfl ?_
  refine hs (f := dm_sld 1078 L xs) rfl (lw_sx (lw_ad (c := 2) (k := 2) rfl i0 i1 hL (by decide) (by decide)).1 (lw_ad (c := 2) (k := 2) rfl i0 i1 hL (by decide) (by decide)).2) ?_
  refine hs (f := dm_i1 1079 (fun x => .long x.toInt64)) rfl rfl ?_
  refine hs (f := dm_push 1082 (.long 4294967295)) rfl rfl ?_
  refine hs (f := dm_ll 1083 (fun x y => x &&& y)) rfl rfl ?_
  refine hs (f := dm_ll 1084 (fun x y => x ||| y)) rfl rfl ?_
  refine hs (f := dm_ald 1085 0) rfl (lw_lf hV.1) ?_
  refine hs (f := dm_ild 1087 4) rfl (lw_li hV.2.2.2.2) ?_
  refine hs (f := dm_push 1088 (.int 3)) rfl rfl ?_
  refine hs (f := dm_ii 1089 (fun x y => x + y)) rfl rfl ?_
  refine hs (f := dm_sld 1090 L xs) rfl (lw_sx (lw_ad (c := 3) (k := 3) rfl i0 i1 hL (by decide) (by decide)).1 (lw_ad (c := 3) (k := 3) rfl i0 i1 hL (by decide) (by decide)).2) ?_
  refine lw_m (T' := T + 1) (V := fun r q' => (∃ x : Int32, r = some (.int x)) ∧ q'.1 41 = q.1 41) (n := 1093) (mj := 195) (na := 2) rfl rfl rfl (Nat.le_of_ble_eq_true rfl) hK1 (hT_mono (by decide) (op_195 hK1.2.1 hK1.2.2.1 hT6 (((((((xs (i + (1 : Int32)).toNatClampNeg)).toInt64) <<< ((32 : Int32).toInt64 &&& 63))) ||| (((((xs (i + (2 : Int32)).toNatClampNeg)).toInt64) &&& (4294967295 : Int64))))) ((xs (i + (3 : Int32)).toNatClampNeg))) (fun r M' w => by obtain ⟨x, q', h1, h2, h3, h4⟩ := w; exact ⟨q', ⟨⟨x, h1⟩, h4⟩, h2, h3⟩)) (fun r1 M5 q6 w hK4 => ?_)
  obtain ⟨⟨x8, rfl⟩, e7⟩ := w
  refine hs (f := dm_pop 1094) rfl rfl ?_
  refine hs (f := dm_goto 1199) rfl rfl ?_
  exact K _ _ hV ⟨S, C, fl, q6, hK4, (e7.trans e0), by omega, by omega⟩
theorem lo_23 {L : Nat} {xs : Nat → Int32} {i : Int32} {lv : dm_Lv} {M : dm_Mem} {T : Int} {Q : Option Value → dm_Mem → Prop} (hL : L ≤ 4608) (i0 : 0 ≤ i.toInt) (i1 : i.toInt + 8 < L) (hV : lw_V i lv) (hI : LI T M) (hT6 : 0 ≤ T ∧ T ≤ 600) (K : ∀ lv' M', lw_V i lv' → LI (T + 1) M' → hG 140 (lwC L xs) 1199 lv' [] M' Q) : hG 140 (lwC L xs) 1097 lv [] M Q := by
  obtain ⟨S, C, fl, q, hK, e0, hS, hC⟩ := hI
  refine hs (f := dm_ald 1098 1) rfl (lw_ld hV.2.1) ?_
  refine hs (f := dm_ald 1099 0) rfl (lw_lf hV.1) ?_
  refine hs (f := dm_ild 1101 4) rfl (lw_li hV.2.2.2.2) ?_
  refine hs (f := dm_push 1102 (.int 1)) rfl rfl ?_
  refine hs (f := dm_ii 1103 (fun x y => x + y)) rfl rfl ?_
  refine hs (f := dm_sld 1104 L xs) rfl (lw_sx (lw_ad (c := 1) (k := 1) rfl i0 i1 hL (by decide) (by decide)).1 (lw_ad (c := 1) (k := 1) rfl i0 i1 hL (by decide) (by decide)).2) ?_
  refine lw_c (fl' := fl) (V := fun r => ∃ x : Int32, r = some (.int x)) (n := 1107) (mj := 118) (na := 1) rfl rfl rfl (Nat.le_of_ble_eq_true rfl) hK hK.2.2.2.1 (hT_mono (by decide) (sp_118 rfl hK.1 lw_7 ((xs (i + (1 : Int32)).toNatClampNeg))) (fun r M' w => by obtain ⟨x, _, h1, h2⟩ := w; exact ⟨⟨x, h1⟩, h2⟩)) (fun r1 M2 w hK1 => ?_)
  obtain ⟨x3, rfl⟩ := w
  refine hs (f := dm_pop 1108) rfl rfl ?_
  refine hs (f := dm_ald 1109 2) rfl (lw_ld hV.2.2.1) ?_
  refine hs (f := dm_ald 1110 0) rfl (lw_lf hV.1) ?_
  refine hs (f := dm_ild 1112 4) rfl (lw_li hV.2.2.2.2) ?_
  refine hs (f := dm_push 1113 (.int 1)) rfl rfl ?_
  refine hs (f := dm_ii 1114 (fun x y => x + y)) rfl rfl ?_
  refine hs (f := dm_sld 1115 L xs) rfl (lw_sx (lw_ad (c := 1) (k := 1) rfl i0 i1 hL (by decide) (by decide)).1 (lw_ad (c := 1) (k := 1) rfl i0 i1 hL (by decide) (by decide)).2) ?_
  refine lw_m (T' := T + 1) (V := fun r q' => (∃ x : Int32, r = some (.int x)) ∧ q'.1 41 = q.1 41) (n := 1118) (mj := 196) (na := 1) rfl rfl rfl (Nat.le_of_ble_eq_true rfl) hK1 (hT_mono (by decide) (op_196 hK1.2.1 hK1.2.2.1 hT6 ((xs (i + (1 : Int32)).toNatClampNeg))) (fun r M' w => by obtain ⟨x, q', _, h1, h2, h3, h4⟩ := w; exact ⟨q', ⟨⟨x, h1⟩, h4⟩, h2, h3⟩)) (fun r1 M5 q6 w hK4 => ?_)
  obtain ⟨⟨x8, rfl⟩, e7⟩ := w
  refine hs (f := dm_pop 1119) rfl rfl ?_
  refine hs (f := dm_goto 1199) rfl rfl ?_
  exact K _ _ hV ⟨S, C, fl, q6, hK4, (e7.trans e0), by omega, by omega⟩
theorem lo_24 {L : Nat} {xs : Nat → Int32} {i : Int32} {lv : dm_Lv} {M : dm_Mem} {T : Int} {Q : Option Value → dm_Mem → Prop} (hL : L ≤ 4608) (i0 : 0 ≤ i.toInt) (i1 : i.toInt + 8 < L) (hV : lw_V i lv) (hI : LI T M) (hT6 : 0 ≤ T ∧ T ≤ 600) (K : ∀ lv' M', lw_V i lv' → LI (T + 1) M' → hG 140 (lwC L xs) 1199 lv' [] M' Q) : hG 140 (lwC L xs) 1122 lv [] M Q := by
  obtain ⟨S, C, fl, q, hK, e0, hS, hC⟩ := hI
  refine hs (f := dm_ald 1123 1) rfl (lw_ld hV.2.1) ?_
  refine lw_c (fl' := fl) (V := fun r => ∃ x : Int32, r = some (.int x)) (n := 1126) (mj := 119) (na := 0) rfl rfl rfl (Nat.le_of_ble_eq_true rfl) hK hK.2.2.2.1 (hT_mono (by decide) (sp_119 rfl hK.1 lw_7 ) (fun r M' w => by obtain ⟨x, h1, h2⟩ := w; exact ⟨⟨x, h1⟩, h2⟩)) (fun r1 M2 w hK1 => ?_)
  obtain ⟨x3, rfl⟩ := w
  refine hs (f := dm_pop 1127) rfl rfl ?_
  refine hs (f := dm_ald 1128 2) rfl (lw_ld hV.2.2.1) ?_
  refine lw_m (T' := T + 1) (V := fun r q' => (∃ x : Int32, r = some (.int x)) ∧ q'.1 41 = q.1 41) (n := 1131) (mj := 203) (na := 0) rfl rfl rfl (Nat.le_of_ble_eq_true rfl) hK1 (hT_mono (by decide) (op_203 hK1.2.1 hK1.2.2.1 hT6 ) (fun r M' w => by obtain ⟨x, q', h1, h2, h3, h4⟩ := w; exact ⟨q', ⟨⟨x, h1⟩, h4⟩, h2, h3⟩)) (fun r1 M5 q6 w hK4 => ?_)
  obtain ⟨⟨x8, rfl⟩, e7⟩ := w
  refine hs (f := dm_pop 1132) rfl rfl ?_
  refine hs (f := dm_goto 1199) rfl rfl ?_
  exact K _ _ hV ⟨S, C, fl, q6, hK4, (e7.trans e0), by omega, by omega⟩
theorem lo_25 {L : Nat} {xs : Nat → Int32} {i : Int32} {lv : dm_Lv} {M : dm_Mem} {T : Int} {Q : Option Value → dm_Mem → Prop} (hL : L ≤ 4608) (i0 : 0 ≤ i.toInt) (i1 : i.toInt + 8 < L) (hV : lw_V i lv) (hI : LI T M) (hT6 : 0 ≤ T ∧ T ≤ 600) (K : ∀ lv' M', lw_V i lv' → LI (T + 1) M' → hG 140 (lwC L xs) 1199 lv' [] M' Q) : hG 140 (lwC L xs) 1135 lv [] M Q := by
  obtain ⟨S, C, fl, q, hK, e0, hS, hC⟩ := hI
  refine hs (f := dm_ald 1136 1) rfl (lw_ld hV.2.1) ?_
  refine lw_c (fl' := fl) (V := fun r => ∃ x : Int32, r = some (.int x)) (n := 1139) (mj := 120) (na := 0) rfl rfl rfl (Nat.le_of_ble_eq_true rfl) hK hK.2.2.2.1 (hT_mono (by decide) (sp_120 hK.1 lw_7 ) (fun r M' w => by obtain ⟨x, h1, h2⟩ := w; exact ⟨⟨x, h1⟩, by rw [h2]; exact hK.1⟩)) (fun r1 M2 w hK1 => ?_)
  obtain ⟨x3, rfl⟩ := w
  refine hs (f := dm_pop 1140) rfl rfl ?_
  refine hs (f := dm_ald 1141 2) rfl (lw_ld hV.2.2.1) ?_
  refine lw_m (T' := T + 1) (V := fun r q' => (∃ x : Int32, r = some (.int x)) ∧ q'.1 41 = q.1 41) (n := 1144) (mj := 204) (na := 0) rfl rfl rfl (Nat.le_of_ble_eq_true rfl) hK1 (hT_mono (by decide) (op_204 hK1.2.1 hK1.2.2.1 hT6 ) (fun r M' w => by obtain ⟨x, q', h1, h2, h3, h4⟩ := w; exact ⟨q', ⟨⟨x, h1⟩, h4⟩, h2, h3⟩)) (fun r1 M5 q6 w hK4 => ?_)
  obtain ⟨⟨x8, rfl⟩, e7⟩ := w
  refine hs (f := dm_pop 1145) rfl rfl ?_
  refine hs (f := dm_goto 1199) rfl rfl ?_
  exact K _ _ hV ⟨S, C, fl, q6, hK4, (e7.trans e0), by omega, by omega⟩
theorem lo_26 {L : Nat} {xs : Nat → Int32} {i : Int32} {lv : dm_Lv} {M : dm_Mem} {T : Int} {Q : Option Value → dm_Mem → Prop} (hL : L ≤ 4608) (i0 : 0 ≤ i.toInt) (i1 : i.toInt + 8 < L) (hV : lw_V i lv) (hI : LI T M) (hT6 : 0 ≤ T ∧ T ≤ 600) (K : ∀ lv' M', lw_V i lv' → LI (T + 1) M' → hG 140 (lwC L xs) 1199 lv' [] M' Q) : hG 140 (lwC L xs) 1148 lv [] M Q := by
  obtain ⟨S, C, fl, q, hK, e0, hS, hC⟩ := hI
  refine hs (f := dm_ald 1149 1) rfl (lw_ld hV.2.1) ?_
  refine lw_c (fl' := 1) (V := fun r => r = some (.int 1)) (n := 1152) (mj := 121) (na := 0) rfl rfl rfl (Nat.le_of_ble_eq_true rfl) hK isB_1 (hT_mono (by decide) (sp_121 hK.1 lw_7) (fun r M' w => ⟨w.1, w.2⟩)) (fun r1 M2 w hK1 => ?_)
  subst w
  refine hs (f := dm_pop 1153) rfl rfl ?_
  refine hs (f := dm_ald 1154 2) rfl (lw_ld hV.2.2.1) ?_
  refine lw_m (T' := T + 1) (V := fun r q' => r = some (.int 1) ∧ q'.1 41 = 1) (n := 1157) (mj := 205) (na := 0) rfl rfl rfl (Nat.le_of_ble_eq_true rfl) hK1 (hT_mono (by decide) (op_205 hK1.2.1 hK1.2.2.1 hT6 ) (fun r M' w => by obtain ⟨q', h1, h2, h3, h4⟩ := w; exact ⟨q', ⟨h1, h4⟩, h2, h3⟩)) (fun r1 M4 q5 w hK3 => ?_)
  obtain ⟨rfl, e6⟩ := w
  refine hs (f := dm_pop 1158) rfl rfl ?_
  refine hs (f := dm_goto 1199) rfl rfl ?_
  exact K _ _ hV ⟨S, C, 1, q5, hK3, e6, by omega, by omega⟩
theorem lo_27 {L : Nat} {xs : Nat → Int32} {i : Int32} {lv : dm_Lv} {M : dm_Mem} {T : Int} {Q : Option Value → dm_Mem → Prop} (hL : L ≤ 4608) (i0 : 0 ≤ i.toInt) (i1 : i.toInt + 8 < L) (hV : lw_V i lv) (hI : LI T M) (hT6 : 0 ≤ T ∧ T ≤ 600) (K : ∀ lv' M', lw_V i lv' → LI (T + 1) M' → hG 140 (lwC L xs) 1199 lv' [] M' Q) : hG 140 (lwC L xs) 1161 lv [] M Q := by
  obtain ⟨S, C, fl, q, hK, e0, hS, hC⟩ := hI
  refine hs (f := dm_ald 1162 1) rfl (lw_ld hV.2.1) ?_
  refine lw_c (fl' := fl) (V := fun r => r = some (.int fl)) (n := 1165) (mj := 122) (na := 0) rfl rfl rfl (Nat.le_of_ble_eq_true rfl) hK hK.2.2.2.1 (hT_mono (by decide) (sp_122 hK.2.2.2.1 hK.1 lw_7) (fun r M' w => ⟨w.1, w.2⟩)) (fun r1 M2 w hK1 => ?_)
  subst w
  refine hs (f := dm_ald 1166 2) rfl (lw_ld hV.2.2.1) ?_
  refine lw_m (T' := T + 1) (V := fun r q' => r = some (.int (q.1 41)) ∧ q'.1 41 = q.1 41) (n := 1169) (mj := 206) (na := 0) rfl rfl rfl (Nat.le_of_ble_eq_true rfl) hK1 (hT_mono (by decide) (op_206 hK1.2.1 hK1.2.2.1 hT6 ) (fun r M' w => by obtain ⟨q', h1, h2, h3, h4⟩ := w; exact ⟨q', ⟨h1, h4⟩, h2, h3⟩)) (fun r1 M4 q5 w hK3 => ?_)
  obtain ⟨rfl, e6⟩ := w
  refine h_ic_eq (n := 1172) (tt := 1199) rfl (fun _ => ?_) (fun z => absurd e0.symm z)
  exact K _ _ hV ⟨S, C, fl, q5, hK3, (e6.trans e0), by omega, by omega⟩
theorem lo_28 {L : Nat} {xs : Nat → Int32} {i : Int32} {lv : dm_Lv} {M : dm_Mem} {T : Int} {Q : Option Value → dm_Mem → Prop} (hL : L ≤ 4608) (i0 : 0 ≤ i.toInt) (i1 : i.toInt + 8 < L) (hV : lw_V i lv) (hI : LI T M) (hT6 : 0 ≤ T ∧ T ≤ 600) (K : ∀ lv' M', lw_V i lv' → LI (T + 1) M' → hG 140 (lwC L xs) 1199 lv' [] M' Q) : hG 140 (lwC L xs) 1174 lv [] M Q := by
  obtain ⟨S, C, fl, q, hK, e0, hS, hC⟩ := hI
  refine hs (f := dm_ald 1175 1) rfl (lw_ld hV.2.1) ?_
  refine hs (f := dm_ald 1176 0) rfl (lw_lf hV.1) ?_
  refine hs (f := dm_ild 1178 4) rfl (lw_li hV.2.2.2.2) ?_
  refine hs (f := dm_push 1179 (.int 1)) rfl rfl ?_
  refine hs (f := dm_ii 1180 (fun x y => x + y)) rfl rfl ?_
  refine hs (f := dm_sld 1181 L xs) rfl (lw_sx (lw_ad (c := 1) (k := 1) rfl i0 i1 hL (by decide) (by decide)).1 (lw_ad (c := 1) (k := 1) rfl i0 i1 hL (by decide) (by decide)).2) ?_
  refine lw_c (fl' := fl) (V := fun r => ∃ x : Int32, r = some (.int x)) (n := 1184) (mj := 123) (na := 1) rfl rfl rfl (Nat.le_of_ble_eq_true rfl) hK hK.2.2.2.1 (hT_mono (by decide) (sp_123 hK.1 lw_7 ((xs (i + (1 : Int32)).toNatClampNeg))) (fun r M' w => by obtain ⟨x, h1, h2⟩ := w; exact ⟨⟨x, h1⟩, by rw [h2]; exact hK.1⟩)) (fun r1 M2 w hK1 => ?_)
  obtain ⟨x3, rfl⟩ := w
  refine hs (f := dm_pop 1185) rfl rfl ?_
  refine hs (f := dm_ald 1186 2) rfl (lw_ld hV.2.2.1) ?_
  refine hs (f := dm_ald 1187 0) rfl (lw_lf hV.1) ?_
  refine hs (f := dm_ild 1189 4) rfl (lw_li hV.2.2.2.2) ?_
  refine hs (f := dm_push 1190 (.int 1)) rfl rfl ?_
  refine hs (f := dm_ii 1191 (fun x y => x + y)) rfl rfl ?_
  refine hs (f := dm_sld 1192 L xs) rfl (lw_sx (lw_ad (c := 1) (k := 1) rfl i0 i1 hL (by decide) (by decide)).1 (lw_ad (c := 1) (k := 1) rfl i0 i1 hL (by decide) (by decide)).2) ?_
  refine lw_m (T' := T + 1) (V := fun r q' => (∃ x : Int32, r = some (.int x)) ∧ q'.1 41 = q.1 41) (n := 1195) (mj := 207) (na := 1) rfl rfl rfl (Nat.le_of_ble_eq_true rfl) hK1 (hT_mono (by decide) (op_207 hK1.2.1 hK1.2.2.1 hT6 ((xs (i + (1 : Int32)).toNatClampNeg))) (fun r M' w => by obtain ⟨x, q', h1, h2, h3, h4⟩ := w; exact ⟨q', ⟨⟨x, h1⟩, h4⟩, h2, h3⟩)) (fun r1 M5 q6 w hK4 => ?_)
  obtain ⟨⟨x8, rfl⟩, e7⟩ := w
  refine hs (f := dm_pop 1196) rfl rfl ?_
  refine hs (f := dm_goto 1199) rfl rfl ?_
  exact K _ _ hV ⟨S, C, fl, q6, hK4, (e7.trans e0), by omega, by omega⟩
