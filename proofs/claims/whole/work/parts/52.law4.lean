set_option maxHeartbeats 4000000 in
set_option maxRecDepth 100000 in
theorem law_bestStreet {pX : Program} {l : Launch} {eX : Env} {sX : State} {mX : MethodId} {bX : List Frame} {mtX : Method} {cX : Code} {D : va_G} {T : TI} {A : Nat → Prop} {b L : Nat} {xs : Nat → Int32} {xa o : Nat} {q : Nat → Nat} {TG : State → Prop} (hCX : LCX pX l sX mX cX D T A b L xs) (k : Nat) (hk : 3 * k + 3 ≤ L) (KK : LWP pX l eX sX mX bX mtX cX D T A b xa o q TG (96 * k + 96) (160 + 3 * k + 3) (2200 + 18 * k + 18) k 1363) : LWP pX l eX sX mX bX mtX cX D T A b xa o q TG (96 * k) (160 + 3 * k) (2200 + 18 * k) k 1226 := by
  obtain ⟨hx, hb, hml, hown, hts, hXs0, hls0, hns0, hK, hST, hA, hl, hL15⟩ := hCX
  intro w g th at_ isF op thn told wh mm past f kp n hI H0 locs0 hP0 hD0 hS0 ls0 hl0
  obtain ⟨hokS, hkp6, hn60⟩ := hI.okS
  refine lv_aload_n hx hb dL_law_1226 rfl (lv_at hl0 1 rfl) ?_
  obtain ⟨fs1, hfs1⟩ := hI.recv
  have hPc1 : va_P D vwCl (fl [w]) _ := flP_sub hP0 [8] rfl
  have hDc1 : va_D A (fl [w]) := flD_sub hD0 [8] (by decide) rfl
  refine cl_i (br := [oW T o g, mO q (nI kp) (nI n) th (nI at_) isF op, aW T 0 (q 1) 111 mm, aW T 0 (q 2) 111 thn, aW T 0 (q 3) 666 past, aW T 0 (q 4) 60 f, aW T 0 (q 5) 27 told, aW T 0 (q 6) 3 wh]) (va_runV (As := []) (rest := []) ⟨hx, hb, hml, hown, hts⟩ (d_X5_bestStreet l D T hI (by omega) _) (mkV hts okX5_bestStreet kw_225 kw_226 kw_227 ⟨rfl, rfl, Nat.le_of_ble_eq_true rfl, Nat.le_of_ble_eq_true rfl⟩) (pv_rw hK hPc1 hDc1 hfs1 (q := (RX5, TX5, 5)) rfl rfl) rfl rfl hl0.1 rfl (lv_room (Nat.le_of_ble_eq_true rfl)) dL_law_1227 ⟨by show _ ≤ 604008; omega, by show _ ≤ 7284081; omega⟩) hP0 hD0 hS0 hA [0, 1, 2, 3, 4, 5, 6, 7] [8] rfl (by decide) (fun r_x w2 H2 locs2 hqx hP2 hD2 hS2 => ?_)
  clear hP0 hD0 hS0 hPc1 hDc1
  have hP2 : va_P D vwCl (fl [oW T o g, mO q (nI kp) (nI n) th (nI at_) isF op, aW T 0 (q 1) 111 mm, aW T 0 (q 2) 111 thn, aW T 0 (q 3) 666 past, aW T 0 (q 4) 60 f, aW T 0 (q 5) 27 told, aW T 0 (q 6) 3 wh, w2]) _ := hP2
  have hD2 : va_D A (fl [oW T o g, mO q (nI kp) (nI n) th (nI at_) isF op, aW T 0 (q 1) 111 mm, aW T 0 (q 2) 111 thn, aW T 0 (q 3) 666 past, aW T 0 (q 4) 60 f, aW T 0 (q 5) 27 told, aW T 0 (q 6) 3 wh, w2]) := hD2
  have hx1 := hqx.1
  have hx2 := hqx.2.2
  dsimp only at hx1 hx2
  refine lv_aload_n hx hb dL_law_1230 rfl (lv_at hl0 2 rfl) ?_
  have hPc3 : va_P D vwCl (fl [mO q (nI kp) (nI n) th (nI at_) isF op, aW T 0 (q 1) 111 mm, aW T 0 (q 2) 111 thn, aW T 0 (q 6) 3 wh]) _ := flP_sub hP2 [1, 2, 3, 7] rfl
  have hDc3 : va_D A (fl [mO q (nI kp) (nI n) th (nI at_) isF op, aW T 0 (q 1) 111 mm, aW T 0 (q 2) 111 thn, aW T 0 (q 6) 3 wh]) := flD_sub hD2 [1, 2, 3, 7] (by decide) rfl
  refine cl_i (br := [oW T o g, aW T 0 (q 3) 666 past, aW T 0 (q 4) 60 f, aW T 0 (q 5) 27 told, w2]) (va_runV (As := []) (rest := [.int r_x]) ⟨hx, hb, hml, hown, hts⟩ (c_X6_bestStreet l D T q kp n th at_ isF op mm thn wh (hokS) _) (mkV hts okX6_bestStreet kw_883 kw_884 kw_885 ⟨rfl, rfl, Nat.le_of_ble_eq_true rfl, Nat.le_of_ble_eq_true rfl⟩) (pv_rw hK hPc3 hDc3 (q0 := 0) rfl rfl rfl) rfl rfl hl0.1 rfl (lv_room (Nat.le_of_ble_eq_true rfl)) dL_law_1231 ⟨by show _ ≤ 604008; omega, by show _ ≤ 7284081; omega⟩) hP2 hD2 hS2 hA [0, 4, 5, 6, 8] [1, 2, 3, 7] rfl (by decide) (fun r_1231 u_1231 H4 locs4 hq_1231 hP4 hD4 hS4 => ?_)
  clear hP2 hD2 hS2 hPc3 hDc3
  obtain ⟨th2_1231, op2_1231, thn2_1231, wh2_1231⟩ := u_1231
  have hP4 : va_P D vwCl (fl [oW T o g, aW T 0 (q 3) 666 past, aW T 0 (q 4) 60 f, aW T 0 (q 5) 27 told, w2, mO q (nI kp) (nI n) th2_1231 (nI at_) isF op2_1231, aW T 0 (q 1) 111 mm, aW T 0 (q 2) 111 thn2_1231, aW T 0 (q 6) 3 wh2_1231]) _ := hP4
  have hD4 : va_D A (fl [oW T o g, aW T 0 (q 3) 666 past, aW T 0 (q 4) 60 f, aW T 0 (q 5) 27 told, w2, mO q (nI kp) (nI n) th2_1231 (nI at_) isF op2_1231, aW T 0 (q 1) 111 mm, aW T 0 (q 2) 111 thn2_1231, aW T 0 (q 6) 3 wh2_1231]) := hD4
  have hq_1231 : r_1231 = (bsI mm 12).1 ∧ th2_1231 = nI 0 := hq_1231
  have hP5 : va_P D vwCl (fl [oW T o g, aW T 0 (q 3) 666 past, aW T 0 (q 4) 60 f, aW T 0 (q 5) 27 told, mO q (nI kp) (nI n) th2_1231 (nI at_) isF op2_1231, aW T 0 (q 1) 111 mm, aW T 0 (q 2) 111 thn2_1231, aW T 0 (q 6) 3 wh2_1231, w2]) _ := flP_sub hP4 [0, 1, 2, 3, 5, 6, 7, 8, 4] rfl
  have hD5 : va_D A (fl [oW T o g, aW T 0 (q 3) 666 past, aW T 0 (q 4) 60 f, aW T 0 (q 5) 27 told, mO q (nI kp) (nI n) th2_1231 (nI at_) isF op2_1231, aW T 0 (q 1) 111 mm, aW T 0 (q 2) 111 thn2_1231, aW T 0 (q 6) 3 wh2_1231, w2]) := flD_sub hD4 [0, 1, 2, 3, 5, 6, 7, 8, 4] (by decide) rfl
  have hS5 := hS4
  clear hP4 hS4 hD4
  refine lv_icmp_eq (tgt := 1363) hx hb dL_law_1234 (by decide) (fun c6 => ?_) (fun c6 => absurd (hx1.trans hq_1231.1.symm) c6)
  have hP7 : va_P D vwCl (fl [oW T o g, mO q (nI kp) (nI n) th2_1231 (nI at_) isF op2_1231, aW T 0 (q 1) 111 mm, aW T 0 (q 2) 111 thn2_1231, aW T 0 (q 3) 666 past, aW T 0 (q 4) 60 f, aW T 0 (q 5) 27 told, aW T 0 (q 6) 3 wh2_1231, w2]) _ := flP_sub hP5 [0, 4, 5, 6, 1, 2, 3, 7, 8] rfl
  have hD7 : va_D A (fl [oW T o g, mO q (nI kp) (nI n) th2_1231 (nI at_) isF op2_1231, aW T 0 (q 1) 111 mm, aW T 0 (q 2) 111 thn2_1231, aW T 0 (q 3) 666 past, aW T 0 (q 4) 60 f, aW T 0 (q 5) 27 told, aW T 0 (q 6) 3 wh2_1231, w2]) := flD_sub hD5 [0, 4, 5, 6, 1, 2, 3, 7, 8] (by decide) rfl
  have hS7 := hS5
  clear hP5 hS5 hD5
  refine W.widen (k := 160 + 3 * k + 3) (n := 2200 + 18 * k + 18) (by omega) (by omega) ?_
  exact KK w2 g th2_1231 at_ isF op2_1231 thn2_1231 told wh2_1231 mm past f kp n hx2 _ _ hP7 hD7 hS7 _ (lv_sub hl0 [0, 1, 2, 3, 4] rfl)
set_option maxHeartbeats 4000000 in
set_option maxRecDepth 100000 in
theorem law_clearIn {pX : Program} {l : Launch} {eX : Env} {sX : State} {mX : MethodId} {bX : List Frame} {mtX : Method} {cX : Code} {D : va_G} {T : TI} {A : Nat → Prop} {b L : Nat} {xs : Nat → Int32} {xa o : Nat} {q : Nat → Nat} {TG : State → Prop} (hCX : LCX pX l sX mX cX D T A b L xs) (k : Nat) (hk : 3 * k + 3 ≤ L) (KK : LWP pX l eX sX mX bX mtX cX D T A b xa o q TG (96 * k + 96) (160 + 3 * k + 3) (2200 + 18 * k + 18) k 1363) : LWP pX l eX sX mX bX mtX cX D T A b xa o q TG (96 * k) (160 + 3 * k) (2200 + 18 * k) k 1239 := by
  obtain ⟨hx, hb, hml, hown, hts, hXs0, hls0, hns0, hK, hST, hA, hl, hL15⟩ := hCX
  intro w g th at_ isF op thn told wh mm past f kp n hI H0 locs0 hP0 hD0 hS0 ls0 hl0
  obtain ⟨hokS, hkp6, hn60⟩ := hI.okS
  refine lv_aload_n hx hb dL_law_1239 rfl (lv_at hl0 1 rfl) ?_
  obtain ⟨fs1, hfs1⟩ := hI.recv
  have hPc1 : va_P D vwCl (fl [w]) _ := flP_sub hP0 [8] rfl
  have hDc1 : va_D A (fl [w]) := flD_sub hD0 [8] (by decide) rfl
  refine cl_i (br := [oW T o g, mO q (nI kp) (nI n) th (nI at_) isF op, aW T 0 (q 1) 111 mm, aW T 0 (q 2) 111 thn, aW T 0 (q 3) 666 past, aW T 0 (q 4) 60 f, aW T 0 (q 5) 27 told, aW T 0 (q 6) 3 wh]) (va_runV (As := []) (rest := []) ⟨hx, hb, hml, hown, hts⟩ (d_X5_clearIn l D T hI (by omega) _) (mkV hts okX5_clearIn kw_319 kw_320 kw_321 ⟨rfl, rfl, Nat.le_of_ble_eq_true rfl, Nat.le_of_ble_eq_true rfl⟩) (pv_rw hK hPc1 hDc1 hfs1 (q := (RX5, TX5, 5)) rfl rfl) rfl rfl hl0.1 rfl (lv_room (Nat.le_of_ble_eq_true rfl)) dL_law_1240 ⟨by show _ ≤ 604008; omega, by show _ ≤ 7284081; omega⟩) hP0 hD0 hS0 hA [0, 1, 2, 3, 4, 5, 6, 7] [8] rfl (by decide) (fun r_x w2 H2 locs2 hqx hP2 hD2 hS2 => ?_)
  clear hP0 hD0 hS0 hPc1 hDc1
  have hP2 : va_P D vwCl (fl [oW T o g, mO q (nI kp) (nI n) th (nI at_) isF op, aW T 0 (q 1) 111 mm, aW T 0 (q 2) 111 thn, aW T 0 (q 3) 666 past, aW T 0 (q 4) 60 f, aW T 0 (q 5) 27 told, aW T 0 (q 6) 3 wh, w2]) _ := hP2
  have hD2 : va_D A (fl [oW T o g, mO q (nI kp) (nI n) th (nI at_) isF op, aW T 0 (q 1) 111 mm, aW T 0 (q 2) 111 thn, aW T 0 (q 3) 666 past, aW T 0 (q 4) 60 f, aW T 0 (q 5) 27 told, aW T 0 (q 6) 3 wh, w2]) := hD2
  have hx1 := hqx.1
  have hx2 := hqx.2.2
  dsimp only at hx1 hx2
  refine lv_aload_n hx hb dL_law_1243 rfl (lv_at hl0 2 rfl) ?_
  have hPc3 : va_P D vwCl (fl [mO q (nI kp) (nI n) th (nI at_) isF op, aW T 0 (q 1) 111 mm, aW T 0 (q 2) 111 thn, aW T 0 (q 6) 3 wh]) _ := flP_sub hP2 [1, 2, 3, 7] rfl
  have hDc3 : va_D A (fl [mO q (nI kp) (nI n) th (nI at_) isF op, aW T 0 (q 1) 111 mm, aW T 0 (q 2) 111 thn, aW T 0 (q 6) 3 wh]) := flD_sub hD2 [1, 2, 3, 7] (by decide) rfl
  refine cl_i (br := [oW T o g, aW T 0 (q 3) 666 past, aW T 0 (q 4) 60 f, aW T 0 (q 5) 27 told, w2]) (va_runV (As := []) (rest := [.int r_x]) ⟨hx, hb, hml, hown, hts⟩ (c_X6_clearIn l D T q kp n th at_ isF op mm thn wh (hokS) _) (mkV hts okX6_clearIn kw_891 kw_892 kw_893 ⟨rfl, rfl, Nat.le_of_ble_eq_true rfl, Nat.le_of_ble_eq_true rfl⟩) (pv_rw hK hPc3 hDc3 (q0 := 0) rfl rfl rfl) rfl rfl hl0.1 rfl (lv_room (Nat.le_of_ble_eq_true rfl)) dL_law_1244 ⟨by show _ ≤ 604008; omega, by show _ ≤ 7284081; omega⟩) hP2 hD2 hS2 hA [0, 4, 5, 6, 8] [1, 2, 3, 7] rfl (by decide) (fun r_1244 u_1244 H4 locs4 hq_1244 hP4 hD4 hS4 => ?_)
  clear hP2 hD2 hS2 hPc3 hDc3
  obtain ⟨th2_1244, op2_1244, thn2_1244, wh2_1244⟩ := u_1244
  have hP4 : va_P D vwCl (fl [oW T o g, aW T 0 (q 3) 666 past, aW T 0 (q 4) 60 f, aW T 0 (q 5) 27 told, w2, mO q (nI kp) (nI n) th2_1244 (nI at_) isF op2_1244, aW T 0 (q 1) 111 mm, aW T 0 (q 2) 111 thn2_1244, aW T 0 (q 6) 3 wh2_1244]) _ := hP4
  have hD4 : va_D A (fl [oW T o g, aW T 0 (q 3) 666 past, aW T 0 (q 4) 60 f, aW T 0 (q 5) 27 told, w2, mO q (nI kp) (nI n) th2_1244 (nI at_) isF op2_1244, aW T 0 (q 1) 111 mm, aW T 0 (q 2) 111 thn2_1244, aW T 0 (q 6) 3 wh2_1244]) := hD4
  have hq_1244 : r_1244 = clG mm 0 201 ∧ th2_1244 = nI 0 := hq_1244
  have hP5 : va_P D vwCl (fl [oW T o g, aW T 0 (q 3) 666 past, aW T 0 (q 4) 60 f, aW T 0 (q 5) 27 told, mO q (nI kp) (nI n) th2_1244 (nI at_) isF op2_1244, aW T 0 (q 1) 111 mm, aW T 0 (q 2) 111 thn2_1244, aW T 0 (q 6) 3 wh2_1244, w2]) _ := flP_sub hP4 [0, 1, 2, 3, 5, 6, 7, 8, 4] rfl
  have hD5 : va_D A (fl [oW T o g, aW T 0 (q 3) 666 past, aW T 0 (q 4) 60 f, aW T 0 (q 5) 27 told, mO q (nI kp) (nI n) th2_1244 (nI at_) isF op2_1244, aW T 0 (q 1) 111 mm, aW T 0 (q 2) 111 thn2_1244, aW T 0 (q 6) 3 wh2_1244, w2]) := flD_sub hD4 [0, 1, 2, 3, 5, 6, 7, 8, 4] (by decide) rfl
  have hS5 := hS4
  clear hP4 hS4 hD4
  refine lv_icmp_eq (tgt := 1363) hx hb dL_law_1247 (by decide) (fun c6 => ?_) (fun c6 => absurd (hx1.trans hq_1244.1.symm) c6)
  have hP7 : va_P D vwCl (fl [oW T o g, mO q (nI kp) (nI n) th2_1244 (nI at_) isF op2_1244, aW T 0 (q 1) 111 mm, aW T 0 (q 2) 111 thn2_1244, aW T 0 (q 3) 666 past, aW T 0 (q 4) 60 f, aW T 0 (q 5) 27 told, aW T 0 (q 6) 3 wh2_1244, w2]) _ := flP_sub hP5 [0, 4, 5, 6, 1, 2, 3, 7, 8] rfl
  have hD7 : va_D A (fl [oW T o g, mO q (nI kp) (nI n) th2_1244 (nI at_) isF op2_1244, aW T 0 (q 1) 111 mm, aW T 0 (q 2) 111 thn2_1244, aW T 0 (q 3) 666 past, aW T 0 (q 4) 60 f, aW T 0 (q 5) 27 told, aW T 0 (q 6) 3 wh2_1244, w2]) := flD_sub hD5 [0, 4, 5, 6, 1, 2, 3, 7, 8] (by decide) rfl
  have hS7 := hS5
  clear hP5 hS5 hD5
  refine W.widen (k := 160 + 3 * k + 3) (n := 2200 + 18 * k + 18) (by omega) (by omega) ?_
  exact KK w2 g th2_1244 at_ isF op2_1244 thn2_1244 told wh2_1244 mm past f kp n hx2 _ _ hP7 hD7 hS7 _ (lv_sub hl0 [0, 1, 2, 3, 4] rfl)
