set_option maxHeartbeats 4000000 in
set_option maxRecDepth 100000 in
theorem law_dirt {pX : Program} {l : Launch} {eX : Env} {sX : State} {mX : MethodId} {bX : List Frame} {mtX : Method} {cX : Code} {D : va_G} {T : TI} {A : Nat → Prop} {b L : Nat} {xs : Nat → Int32} {xa o : Nat} {q : Nat → Nat} {TG : State → Prop} (hCX : LCX pX l sX mX cX D T A b L xs) (k : Nat) (hk : 3 * k + 3 ≤ L) (KK : LWP pX l eX sX mX bX mtX cX D T A b xa o q TG (96 * k + 96) (160 + 3 * k + 3) (2200 + 18 * k + 18) k 1363) : LWP pX l eX sX mX bX mtX cX D T A b xa o q TG (96 * k) (160 + 3 * k) (2200 + 18 * k) k 300 := by
  obtain ⟨hx, hb, hml, hown, hts, hXs0, hls0, hns0, hK, hST, hA, hl, hL15⟩ := hCX
  intro w g th at_ isF op thn told wh mm past f kp n hI H0 locs0 hP0 hD0 hS0 ls0 hl0
  obtain ⟨hokS, hkp6, hn60⟩ := hI.okS
  refine lv_aload_n hx hb dL_law_300 rfl (lv_at hl0 1 rfl) ?_
  refine lv_aload_n hx hb dL_law_301 rfl (lv_at hl0 0 rfl) ?_
  refine lv_iload hx hb dL_law_302 (lv_at hl0 4 rfl) ?_
  refine lv_iconst (v := nI 1) hx hb dL_law_304 (by decide) ?_
  refine lv_iadd hx hb dL_law_305 ?_
  refine tp_i (y := nI (3 * k + 1)) (nI_add _ _) ?_
  refine r_sld hx hb hXs0 hls0 hns0 hS0 (3 * k + 1) dL_law_306 (by omega) ?_
  refine lv_aload_n hx hb dL_law_307 rfl (lv_at hl0 0 rfl) ?_
  refine lv_iload hx hb dL_law_308 (lv_at hl0 4 rfl) ?_
  refine lv_iconst (v := nI 2) hx hb dL_law_310 (by decide) ?_
  refine lv_iadd hx hb dL_law_311 ?_
  refine tp_i (y := nI (3 * k + 2)) (nI_add _ _) ?_
  refine r_sld hx hb hXs0 hls0 hns0 hS0 (3 * k + 2) dL_law_312 (by omega) ?_
  refine lv_aload_n hx hb dL_law_313 rfl (lv_at hl0 3 rfl) ?_
  have hPc1 : va_P D vwCl (fl [oW T o g, w]) _ := flP_sub hP0 [0, 8] rfl
  have hDc1 : va_D A (fl [oW T o g, w]) := flD_sub hD0 [0, 8] (by decide) rfl
  refine clx_i (br := [mO q (nI kp) (nI n) th (nI at_) isF op, aW T 0 (q 1) 111 mm, aW T 0 (q 2) 111 thn, aW T 0 (q 3) 666 past, aW T 0 (q 4) 60 f, aW T 0 (q 5) 27 told, aW T 0 (q 6) 3 wh]) (vx_runSX (As := [.ref xa, .int (xs (3 * k + 1)), .int (xs (3 * k + 2)), .ref o]) (rest := []) ⟨hx, hb, hml, hown, hts⟩ (c_L_dirt l D T hl hI (by omega) o g (xs (3 * k + 1)) (xs (3 * k + 2)) _) (mkSW (n := 4) hts kcw_dirt kw_0 kw_513 kw_514 ⟨by decide, by decide⟩ (by decide +kernel) ⟨rfl, rfl, Nat.le_of_ble_eq_true rfl, Nat.le_of_ble_eq_true rfl⟩) (ps_x hK hST hS0 hPc1 hDc1 (vA_c (br := [mO q (nI kp) (nI n) th (nI at_) isF op, aW T 0 (q 1) 111 mm, aW T 0 (q 2) 111 thn, aW T 0 (q 3) 666 past, aW T 0 (q 4) 60 f, aW T 0 (q 5) 27 told, aW T 0 (q 6) 3 wh]) hP0 hD0 hS0 hA (isR := [1, 2, 3, 4, 5, 6, 7]) (isC := [0, 8]) rfl (by decide))) rfl rfl hl0.1 rfl (lv_room (Nat.le_of_ble_eq_true rfl)) dL_law_314 ⟨by show _ ≤ 604008; omega, by show _ ≤ 7284081; omega⟩) hP0 hD0 hS0 hA [1, 2, 3, 4, 5, 6, 7] [0, 8] rfl (by decide) (fun E ce q9 _ux Hx lx hqx hPx hDx hSx h1 h2 h3 => absurd hqx (by simp)) (fun r_w u_w H2 locs2 hw hP2 hD2 hS2 => ?_)
  clear hP0 hD0 hS0 hPc1 hDc1
  obtain ⟨w2, g2⟩ := u_w
  have hP2 : va_P D vwCl (fl [mO q (nI kp) (nI n) th (nI at_) isF op, aW T 0 (q 1) 111 mm, aW T 0 (q 2) 111 thn, aW T 0 (q 3) 666 past, aW T 0 (q 4) 60 f, aW T 0 (q 5) 27 told, aW T 0 (q 6) 3 wh, oW T o g2, w2]) _ := hP2
  have hD2 : va_D A (fl [mO q (nI kp) (nI n) th (nI at_) isF op, aW T 0 (q 1) 111 mm, aW T 0 (q 2) 111 thn, aW T 0 (q 3) 666 past, aW T 0 (q 4) 60 f, aW T 0 (q 5) 27 told, aW T 0 (q 6) 3 wh, oW T o g2, w2]) := hD2
  refine lv_istore (lv' := [(5, .int r_w), (0, .ref b), (1, .ref xa), (2, .ref (q 0)), (3, .ref o), (4, .int (nI (3 * k)))]) hx hb dL_law_317 hl0 (by decide) rfl (fun ls3 hl3 => ?_)
  clear hl0
  refine lv_aload_n hx hb dL_law_319 rfl (lv_at hl3 3 rfl) ?_
  refine lv_aload_n hx hb dL_law_320 rfl (lv_at hl3 1 rfl) ?_
  refine lv_iload hx hb dL_law_321 (lv_at hl3 5 rfl) ?_
  refine lv_iconst (v := nI 1) hx hb dL_law_323 (by decide) ?_
  refine lv_iadd hx hb dL_law_324 ?_
  refine tp_i (y := nI (3 * k + 1)) (nI_add _ _) ?_
  refine r_sld hx hb hXs0 hls0 hns0 hS2 (3 * k + 1) dL_law_325 (by omega) ?_
  refine lv_aload_n hx hb dL_law_326 rfl (lv_at hl3 1 rfl) ?_
  refine lv_iload hx hb dL_law_327 (lv_at hl3 5 rfl) ?_
  refine lv_iconst (v := nI 2) hx hb dL_law_329 (by decide) ?_
  refine lv_iadd hx hb dL_law_330 ?_
  refine tp_i (y := nI (3 * k + 2)) (nI_add _ _) ?_
  refine r_sld hx hb hXs0 hls0 hns0 hS2 (3 * k + 2) dL_law_331 (by omega) ?_
  have hPc4 : va_P D vwCl (fl [mO q (nI kp) (nI n) th (nI at_) isF op, aW T 0 (q 1) 111 mm, aW T 0 (q 2) 111 thn, aW T 0 (q 3) 666 past, aW T 0 (q 4) 60 f, aW T 0 (q 5) 27 told, aW T 0 (q 6) 3 wh]) _ := flP_sub hP2 [0, 1, 2, 3, 4, 5, 6] rfl
  have hDc4 : va_D A (fl [mO q (nI kp) (nI n) th (nI at_) isF op, aW T 0 (q 1) 111 mm, aW T 0 (q 2) 111 thn, aW T 0 (q 3) 666 past, aW T 0 (q 4) 60 f, aW T 0 (q 5) 27 told, aW T 0 (q 6) 3 wh]) := flD_sub hD2 [0, 1, 2, 3, 4, 5, 6] (by decide) rfl
  refine cl_i (br := [oW T o g2, w2]) (va_runV (As := [.int (xs (3 * k + 1)), .int (xs (3 * k + 2))]) (rest := []) ⟨hx, hb, hml, hown, hts⟩ (c_X6_dirt l D T q kp n th at_ isF op mm thn past f told wh (xs (3 * k + 1)) (xs (3 * k + 2)) (hkp6) _) (mkV hts okX6_dirt kw_741 kw_742 kw_743 ⟨rfl, rfl, Nat.le_of_ble_eq_true rfl, Nat.le_of_ble_eq_true rfl⟩) (pv_rw hK hPc4 hDc4 (q0 := 0) rfl rfl rfl) rfl rfl hl3.1 rfl (lv_room (Nat.le_of_ble_eq_true rfl)) dL_law_332 ⟨by show _ ≤ 604008; omega, by show _ ≤ 7284081; omega⟩) hP2 hD2 hS2 hA [7, 8] [0, 1, 2, 3, 4, 5, 6] rfl (by decide) (fun r_332 u_332 H5 locs5 hq_332 hP5 hD5 hS5 => ?_)
  clear hP2 hD2 hS2 hPc4 hDc4
  obtain ⟨th2_332, now2_332, past2_332, kp2_332⟩ := u_332
  have hP5 : va_P D vwCl (fl [oW T o g2, w2, mO q (nI kp2_332) (nI n) th2_332 (nI at_) isF op, aW T 0 (q 1) 111 now2_332, aW T 0 (q 2) 111 thn, aW T 0 (q 3) 666 past2_332, aW T 0 (q 4) 60 f, aW T 0 (q 5) 27 told, aW T 0 (q 6) 3 wh]) _ := hP5
  have hD5 : va_D A (fl [oW T o g2, w2, mO q (nI kp2_332) (nI n) th2_332 (nI at_) isF op, aW T 0 (q 1) 111 now2_332, aW T 0 (q 2) 111 thn, aW T 0 (q 3) 666 past2_332, aW T 0 (q 4) 60 f, aW T 0 (q 5) 27 told, aW T 0 (q 6) 3 wh]) := hD5
  have hq_332 : (r_332, th2_332, now2_332, past2_332, kp2_332) = dirtP (xs (3 * k + 1)) (xs (3 * k + 2)) mm past kp := hq_332
  have hP6 : va_P D vwCl (fl [oW T o g2, mO q (nI kp2_332) (nI n) th2_332 (nI at_) isF op, aW T 0 (q 1) 111 now2_332, aW T 0 (q 2) 111 thn, aW T 0 (q 3) 666 past2_332, aW T 0 (q 4) 60 f, aW T 0 (q 5) 27 told, aW T 0 (q 6) 3 wh, w2]) _ := flP_sub hP5 [0, 2, 3, 4, 5, 6, 7, 8, 1] rfl
  have hD6 : va_D A (fl [oW T o g2, mO q (nI kp2_332) (nI n) th2_332 (nI at_) isF op, aW T 0 (q 1) 111 now2_332, aW T 0 (q 2) 111 thn, aW T 0 (q 3) 666 past2_332, aW T 0 (q 4) 60 f, aW T 0 (q 5) 27 told, aW T 0 (q 6) 3 wh, w2]) := flD_sub hD5 [0, 2, 3, 4, 5, 6, 7, 8, 1] (by decide) rfl
  have hS6 := hS5
  clear hP5 hS5 hD5
  rw [← hq_332] at hw
  have hw1 : r_w = th2_332 := hw.1
  have hw2 : r_w = nI 0 → g2 0 = r_332.toInt64 := hw.2.1
  have hI2 : XINV T xa w2 now2_332 past2_332 kp2_332 f n (96 * k + 96) := hw.2.2
  refine lv_istore (lv' := [(6, .int r_332), (5, .int r_w), (0, .ref b), (1, .ref xa), (2, .ref (q 0)), (3, .ref o), (4, .int (nI (3 * k)))]) hx hb dL_law_335 hl3 (by decide) rfl (fun ls7 hl7 => ?_)
  clear hl3
  refine lv_aload_n hx hb dL_law_337 rfl (lv_at hl7 4 rfl) ?_
  have hPc8 : va_P D vwCl (fl [mO q (nI kp2_332) (nI n) th2_332 (nI at_) isF op]) _ := hP6.sub [1] rfl
  refine cr_i (va_runV (As := []) (rest := []) ⟨hx, hb, hml, hown, hts⟩ (c_X6_thrown l D T q kp2_332 n th2_332 at_ isF op ) (mkV hts okX6_thrown kw_707 kw_708 kw_709 ⟨rfl, rfl, Nat.le_of_ble_eq_true rfl, Nat.le_of_ble_eq_true rfl⟩) (pv_ro hK hPc8 (q0 := 0) rfl rfl rfl) rfl rfl hl7.1 rfl (lv_room (Nat.le_of_ble_eq_true rfl)) dL_law_338 ⟨by show _ ≤ 604008; omega, by show _ ≤ 7284081; omega⟩) hP6 hS6 (fun r_338 H9 locs9 hq_338 hP9 hS9 => ?_)
  clear hP6 hS6 hPc8
  have hD9 := hD6
  clear hD6
  have hq_338 : r_338 = th2_332 := hq_338
  subst hq_338
  refine lv_iload hx hb dL_law_341 (lv_at hl7 1 rfl) ?_
  refine lv_icmp_eq (tgt := 348) hx hb dL_law_343 (by decide) (fun c10 => ?_) (fun c10 => absurd (hw1.symm) c10)
  refine lv_iload hx hb dL_law_348 (lv_at hl7 1 rfl) ?_
  refine lv_if_ne (tgt := 365) hx hb dL_law_350 (by decide) (fun c_350 => ?_) (fun c_350 => ?_)
  · skip
    refine lv_goto (tgt := 1363) hx hb dL_law_365 (by decide) ?_
    refine W.widen (k := 160 + 3 * k + 3) (n := 2200 + 18 * k + 18) (by omega) (by omega) ?_
    exact KK w2 g2 r_338 at_ isF op thn told wh now2_332 past2_332 f kp2_332 n hI2 _ _ hP9 hD9 hS9 _ (lv_sub hl7 [2, 3, 4, 5, 6] rfl)
  · skip
    refine lv_aload_n hx hb dL_law_353 rfl (lv_at hl7 5 rfl) ?_
    refine lv_iconst (v := nI 0) hx hb dL_law_354 (by decide) ?_
    refine r_lald hx hb hK hP9 0 (f := g2) rfl 0 (by decide) dL_law_355 (by decide) ?_
    refine lv_iload hx hb dL_law_356 (lv_at hl7 0 rfl) ?_
    refine lv_i2l hx hb dL_law_358 rfl ?_
    refine W.lcmp hx hb dL_law_359 ?_
    refine tp_i (y := nI 0) (by rw [hw2 c_350]; exact lgc_self _) ?_
    refine n_if_eq (tgt := 365) hx hb (by omega) dL_law_360 (by decide) (fun c12 => ?_) (fun c12 => absurd (by decide) c12)
    refine lv_goto (tgt := 1363) hx hb dL_law_365 (by decide) ?_
    refine W.widen (k := 160 + 3 * k + 3) (n := 2200 + 18 * k + 18) (by omega) (by omega) ?_
    exact KK w2 g2 r_338 at_ isF op thn told wh now2_332 past2_332 f kp2_332 n hI2 _ _ hP9 hD9 hS9 _ (lv_sub hl7 [2, 3, 4, 5, 6] rfl)
set_option maxHeartbeats 4000000 in
set_option maxRecDepth 100000 in
theorem law_hydrant {pX : Program} {l : Launch} {eX : Env} {sX : State} {mX : MethodId} {bX : List Frame} {mtX : Method} {cX : Code} {D : va_G} {T : TI} {A : Nat → Prop} {b L : Nat} {xs : Nat → Int32} {xa o : Nat} {q : Nat → Nat} {TG : State → Prop} (hCX : LCX pX l sX mX cX D T A b L xs) (k : Nat) (hk : 3 * k + 3 ≤ L) (KK : LWP pX l eX sX mX bX mtX cX D T A b xa o q TG (96 * k + 96) (160 + 3 * k + 3) (2200 + 18 * k + 18) k 1363) : LWP pX l eX sX mX bX mtX cX D T A b xa o q TG (96 * k) (160 + 3 * k) (2200 + 18 * k) k 368 := by
  obtain ⟨hx, hb, hml, hown, hts, hXs0, hls0, hns0, hK, hST, hA, hl, hL15⟩ := hCX
  intro w g th at_ isF op thn told wh mm past f kp n hI H0 locs0 hP0 hD0 hS0 ls0 hl0
  obtain ⟨hokS, hkp6, hn60⟩ := hI.okS
  refine lv_aload_n hx hb dL_law_368 rfl (lv_at hl0 1 rfl) ?_
  refine lv_aload_n hx hb dL_law_369 rfl (lv_at hl0 0 rfl) ?_
  refine lv_iload hx hb dL_law_370 (lv_at hl0 4 rfl) ?_
  refine lv_iconst (v := nI 1) hx hb dL_law_372 (by decide) ?_
  refine lv_iadd hx hb dL_law_373 ?_
  refine tp_i (y := nI (3 * k + 1)) (nI_add _ _) ?_
  refine r_sld hx hb hXs0 hls0 hns0 hS0 (3 * k + 1) dL_law_374 (by omega) ?_
  refine lv_aload_n hx hb dL_law_375 rfl (lv_at hl0 0 rfl) ?_
  refine lv_iload hx hb dL_law_376 (lv_at hl0 4 rfl) ?_
  refine lv_iconst (v := nI 2) hx hb dL_law_378 (by decide) ?_
  refine lv_iadd hx hb dL_law_379 ?_
  refine tp_i (y := nI (3 * k + 2)) (nI_add _ _) ?_
  refine r_sld hx hb hXs0 hls0 hns0 hS0 (3 * k + 2) dL_law_380 (by omega) ?_
  refine lv_aload_n hx hb dL_law_381 rfl (lv_at hl0 3 rfl) ?_
  have hPc1 : va_P D vwCl (fl [oW T o g, w]) _ := flP_sub hP0 [0, 8] rfl
  have hDc1 : va_D A (fl [oW T o g, w]) := flD_sub hD0 [0, 8] (by decide) rfl
  refine clx_i (br := [mO q (nI kp) (nI n) th (nI at_) isF op, aW T 0 (q 1) 111 mm, aW T 0 (q 2) 111 thn, aW T 0 (q 3) 666 past, aW T 0 (q 4) 60 f, aW T 0 (q 5) 27 told, aW T 0 (q 6) 3 wh]) (vx_runSX (As := [.ref xa, .int (xs (3 * k + 1)), .int (xs (3 * k + 2)), .ref o]) (rest := []) ⟨hx, hb, hml, hown, hts⟩ (c_L_hydrant l D T hl hI (by omega) o g (xs (3 * k + 1)) (xs (3 * k + 2)) _) (mkSW (n := 4) hts kcw_hydrant kw_0 kw_520 kw_521 ⟨by decide, by decide⟩ (by decide +kernel) ⟨rfl, rfl, Nat.le_of_ble_eq_true rfl, Nat.le_of_ble_eq_true rfl⟩) (ps_x hK hST hS0 hPc1 hDc1 (vA_c (br := [mO q (nI kp) (nI n) th (nI at_) isF op, aW T 0 (q 1) 111 mm, aW T 0 (q 2) 111 thn, aW T 0 (q 3) 666 past, aW T 0 (q 4) 60 f, aW T 0 (q 5) 27 told, aW T 0 (q 6) 3 wh]) hP0 hD0 hS0 hA (isR := [1, 2, 3, 4, 5, 6, 7]) (isC := [0, 8]) rfl (by decide))) rfl rfl hl0.1 rfl (lv_room (Nat.le_of_ble_eq_true rfl)) dL_law_382 ⟨by show _ ≤ 604008; omega, by show _ ≤ 7284081; omega⟩) hP0 hD0 hS0 hA [1, 2, 3, 4, 5, 6, 7] [0, 8] rfl (by decide) (fun E ce q9 _ux Hx lx hqx hPx hDx hSx h1 h2 h3 => absurd hqx (by simp)) (fun r_w u_w H2 locs2 hw hP2 hD2 hS2 => ?_)
  clear hP0 hD0 hS0 hPc1 hDc1
  obtain ⟨w2, g2⟩ := u_w
  have hP2 : va_P D vwCl (fl [mO q (nI kp) (nI n) th (nI at_) isF op, aW T 0 (q 1) 111 mm, aW T 0 (q 2) 111 thn, aW T 0 (q 3) 666 past, aW T 0 (q 4) 60 f, aW T 0 (q 5) 27 told, aW T 0 (q 6) 3 wh, oW T o g2, w2]) _ := hP2
  have hD2 : va_D A (fl [mO q (nI kp) (nI n) th (nI at_) isF op, aW T 0 (q 1) 111 mm, aW T 0 (q 2) 111 thn, aW T 0 (q 3) 666 past, aW T 0 (q 4) 60 f, aW T 0 (q 5) 27 told, aW T 0 (q 6) 3 wh, oW T o g2, w2]) := hD2
  refine lv_istore (lv' := [(5, .int r_w), (0, .ref b), (1, .ref xa), (2, .ref (q 0)), (3, .ref o), (4, .int (nI (3 * k)))]) hx hb dL_law_385 hl0 (by decide) rfl (fun ls3 hl3 => ?_)
  clear hl0
  refine lv_aload_n hx hb dL_law_387 rfl (lv_at hl3 3 rfl) ?_
  refine lv_aload_n hx hb dL_law_388 rfl (lv_at hl3 1 rfl) ?_
  refine lv_iload hx hb dL_law_389 (lv_at hl3 5 rfl) ?_
  refine lv_iconst (v := nI 1) hx hb dL_law_391 (by decide) ?_
  refine lv_iadd hx hb dL_law_392 ?_
  refine tp_i (y := nI (3 * k + 1)) (nI_add _ _) ?_
  refine r_sld hx hb hXs0 hls0 hns0 hS2 (3 * k + 1) dL_law_393 (by omega) ?_
  refine lv_aload_n hx hb dL_law_394 rfl (lv_at hl3 1 rfl) ?_
  refine lv_iload hx hb dL_law_395 (lv_at hl3 5 rfl) ?_
  refine lv_iconst (v := nI 2) hx hb dL_law_397 (by decide) ?_
  refine lv_iadd hx hb dL_law_398 ?_
  refine tp_i (y := nI (3 * k + 2)) (nI_add _ _) ?_
  refine r_sld hx hb hXs0 hls0 hns0 hS2 (3 * k + 2) dL_law_399 (by omega) ?_
  have hPc4 : va_P D vwCl (fl [mO q (nI kp) (nI n) th (nI at_) isF op, aW T 0 (q 1) 111 mm, aW T 0 (q 2) 111 thn, aW T 0 (q 3) 666 past, aW T 0 (q 4) 60 f, aW T 0 (q 5) 27 told, aW T 0 (q 6) 3 wh]) _ := flP_sub hP2 [0, 1, 2, 3, 4, 5, 6] rfl
  have hDc4 : va_D A (fl [mO q (nI kp) (nI n) th (nI at_) isF op, aW T 0 (q 1) 111 mm, aW T 0 (q 2) 111 thn, aW T 0 (q 3) 666 past, aW T 0 (q 4) 60 f, aW T 0 (q 5) 27 told, aW T 0 (q 6) 3 wh]) := flD_sub hD2 [0, 1, 2, 3, 4, 5, 6] (by decide) rfl
  refine cl_i (br := [oW T o g2, w2]) (va_runV (As := [.int (xs (3 * k + 1)), .int (xs (3 * k + 2))]) (rest := []) ⟨hx, hb, hml, hown, hts⟩ (c_X6_hydrant l D T q kp n th at_ isF op mm thn past f told wh (xs (3 * k + 1)) (xs (3 * k + 2)) (hkp6) _) (mkV hts okX6_hydrant kw_748 kw_749 kw_750 ⟨rfl, rfl, Nat.le_of_ble_eq_true rfl, Nat.le_of_ble_eq_true rfl⟩) (pv_rw hK hPc4 hDc4 (q0 := 0) rfl rfl rfl) rfl rfl hl3.1 rfl (lv_room (Nat.le_of_ble_eq_true rfl)) dL_law_400 ⟨by show _ ≤ 604008; omega, by show _ ≤ 7284081; omega⟩) hP2 hD2 hS2 hA [7, 8] [0, 1, 2, 3, 4, 5, 6] rfl (by decide) (fun r_400 u_400 H5 locs5 hq_400 hP5 hD5 hS5 => ?_)
  clear hP2 hD2 hS2 hPc4 hDc4
  obtain ⟨th2_400, now2_400, past2_400, kp2_400⟩ := u_400
  have hP5 : va_P D vwCl (fl [oW T o g2, w2, mO q (nI kp2_400) (nI n) th2_400 (nI at_) isF op, aW T 0 (q 1) 111 now2_400, aW T 0 (q 2) 111 thn, aW T 0 (q 3) 666 past2_400, aW T 0 (q 4) 60 f, aW T 0 (q 5) 27 told, aW T 0 (q 6) 3 wh]) _ := hP5
  have hD5 : va_D A (fl [oW T o g2, w2, mO q (nI kp2_400) (nI n) th2_400 (nI at_) isF op, aW T 0 (q 1) 111 now2_400, aW T 0 (q 2) 111 thn, aW T 0 (q 3) 666 past2_400, aW T 0 (q 4) 60 f, aW T 0 (q 5) 27 told, aW T 0 (q 6) 3 wh]) := hD5
  have hq_400 : (r_400, th2_400, now2_400, past2_400, kp2_400) = hydrantP (xs (3 * k + 1)) (xs (3 * k + 2)) mm past kp := hq_400
  have hP6 : va_P D vwCl (fl [oW T o g2, mO q (nI kp2_400) (nI n) th2_400 (nI at_) isF op, aW T 0 (q 1) 111 now2_400, aW T 0 (q 2) 111 thn, aW T 0 (q 3) 666 past2_400, aW T 0 (q 4) 60 f, aW T 0 (q 5) 27 told, aW T 0 (q 6) 3 wh, w2]) _ := flP_sub hP5 [0, 2, 3, 4, 5, 6, 7, 8, 1] rfl
  have hD6 : va_D A (fl [oW T o g2, mO q (nI kp2_400) (nI n) th2_400 (nI at_) isF op, aW T 0 (q 1) 111 now2_400, aW T 0 (q 2) 111 thn, aW T 0 (q 3) 666 past2_400, aW T 0 (q 4) 60 f, aW T 0 (q 5) 27 told, aW T 0 (q 6) 3 wh, w2]) := flD_sub hD5 [0, 2, 3, 4, 5, 6, 7, 8, 1] (by decide) rfl
  have hS6 := hS5
  clear hP5 hS5 hD5
  rw [← hq_400] at hw
  have hw1 : r_w = th2_400 := hw.1
  have hw2 : r_w = nI 0 → g2 0 = r_400.toInt64 := hw.2.1
  have hI2 : XINV T xa w2 now2_400 past2_400 kp2_400 f n (96 * k + 96) := hw.2.2
  refine lv_istore (lv' := [(6, .int r_400), (5, .int r_w), (0, .ref b), (1, .ref xa), (2, .ref (q 0)), (3, .ref o), (4, .int (nI (3 * k)))]) hx hb dL_law_403 hl3 (by decide) rfl (fun ls7 hl7 => ?_)
  clear hl3
  refine lv_aload_n hx hb dL_law_405 rfl (lv_at hl7 4 rfl) ?_
  have hPc8 : va_P D vwCl (fl [mO q (nI kp2_400) (nI n) th2_400 (nI at_) isF op]) _ := hP6.sub [1] rfl
  refine cr_i (va_runV (As := []) (rest := []) ⟨hx, hb, hml, hown, hts⟩ (c_X6_thrown l D T q kp2_400 n th2_400 at_ isF op ) (mkV hts okX6_thrown kw_707 kw_708 kw_709 ⟨rfl, rfl, Nat.le_of_ble_eq_true rfl, Nat.le_of_ble_eq_true rfl⟩) (pv_ro hK hPc8 (q0 := 0) rfl rfl rfl) rfl rfl hl7.1 rfl (lv_room (Nat.le_of_ble_eq_true rfl)) dL_law_406 ⟨by show _ ≤ 604008; omega, by show _ ≤ 7284081; omega⟩) hP6 hS6 (fun r_406 H9 locs9 hq_406 hP9 hS9 => ?_)
  clear hP6 hS6 hPc8
  have hD9 := hD6
  clear hD6
  have hq_406 : r_406 = th2_400 := hq_406
  subst hq_406
  refine lv_iload hx hb dL_law_409 (lv_at hl7 1 rfl) ?_
  refine lv_icmp_eq (tgt := 416) hx hb dL_law_411 (by decide) (fun c10 => ?_) (fun c10 => absurd (hw1.symm) c10)
  refine lv_iload hx hb dL_law_416 (lv_at hl7 1 rfl) ?_
  refine lv_if_ne (tgt := 433) hx hb dL_law_418 (by decide) (fun c_418 => ?_) (fun c_418 => ?_)
  · skip
    refine lv_goto (tgt := 1363) hx hb dL_law_433 (by decide) ?_
    refine W.widen (k := 160 + 3 * k + 3) (n := 2200 + 18 * k + 18) (by omega) (by omega) ?_
    exact KK w2 g2 r_406 at_ isF op thn told wh now2_400 past2_400 f kp2_400 n hI2 _ _ hP9 hD9 hS9 _ (lv_sub hl7 [2, 3, 4, 5, 6] rfl)
  · skip
    refine lv_aload_n hx hb dL_law_421 rfl (lv_at hl7 5 rfl) ?_
    refine lv_iconst (v := nI 0) hx hb dL_law_422 (by decide) ?_
    refine r_lald hx hb hK hP9 0 (f := g2) rfl 0 (by decide) dL_law_423 (by decide) ?_
    refine lv_iload hx hb dL_law_424 (lv_at hl7 0 rfl) ?_
    refine lv_i2l hx hb dL_law_426 rfl ?_
    refine W.lcmp hx hb dL_law_427 ?_
    refine tp_i (y := nI 0) (by rw [hw2 c_418]; exact lgc_self _) ?_
    refine n_if_eq (tgt := 433) hx hb (by omega) dL_law_428 (by decide) (fun c12 => ?_) (fun c12 => absurd (by decide) c12)
    refine lv_goto (tgt := 1363) hx hb dL_law_433 (by decide) ?_
    refine W.widen (k := 160 + 3 * k + 3) (n := 2200 + 18 * k + 18) (by omega) (by omega) ?_
    exact KK w2 g2 r_406 at_ isF op thn told wh now2_400 past2_400 f kp2_400 n hI2 _ _ hP9 hD9 hS9 _ (lv_sub hl7 [2, 3, 4, 5, 6] rfl)
set_option maxHeartbeats 4000000 in
set_option maxRecDepth 100000 in
theorem law_send {pX : Program} {l : Launch} {eX : Env} {sX : State} {mX : MethodId} {bX : List Frame} {mtX : Method} {cX : Code} {D : va_G} {T : TI} {A : Nat → Prop} {b L : Nat} {xs : Nat → Int32} {xa o : Nat} {q : Nat → Nat} {TG : State → Prop} (hCX : LCX pX l sX mX cX D T A b L xs) (k : Nat) (hk : 3 * k + 3 ≤ L) (KK : LWP pX l eX sX mX bX mtX cX D T A b xa o q TG (96 * k + 96) (160 + 3 * k + 3) (2200 + 18 * k + 18) k 1363) : LWP pX l eX sX mX bX mtX cX D T A b xa o q TG (96 * k) (160 + 3 * k) (2200 + 18 * k) k 436 := by
  obtain ⟨hx, hb, hml, hown, hts, hXs0, hls0, hns0, hK, hST, hA, hl, hL15⟩ := hCX
  intro w g th at_ isF op thn told wh mm past f kp n hI H0 locs0 hP0 hD0 hS0 ls0 hl0
  obtain ⟨hokS, hkp6, hn60⟩ := hI.okS
  refine lv_aload_n hx hb dL_law_436 rfl (lv_at hl0 1 rfl) ?_
  refine lv_aload_n hx hb dL_law_437 rfl (lv_at hl0 0 rfl) ?_
  refine lv_iload hx hb dL_law_438 (lv_at hl0 4 rfl) ?_
  refine lv_iconst (v := nI 1) hx hb dL_law_440 (by decide) ?_
  refine lv_iadd hx hb dL_law_441 ?_
  refine tp_i (y := nI (3 * k + 1)) (nI_add _ _) ?_
  refine r_sld hx hb hXs0 hls0 hns0 hS0 (3 * k + 1) dL_law_442 (by omega) ?_
  refine lv_aload_n hx hb dL_law_443 rfl (lv_at hl0 0 rfl) ?_
  refine lv_iload hx hb dL_law_444 (lv_at hl0 4 rfl) ?_
  refine lv_iconst (v := nI 2) hx hb dL_law_446 (by decide) ?_
  refine lv_iadd hx hb dL_law_447 ?_
  refine tp_i (y := nI (3 * k + 2)) (nI_add _ _) ?_
  refine r_sld hx hb hXs0 hls0 hns0 hS0 (3 * k + 2) dL_law_448 (by omega) ?_
  refine lv_aload_n hx hb dL_law_449 rfl (lv_at hl0 3 rfl) ?_
  have hPc1 : va_P D vwCl (fl [oW T o g, w]) _ := flP_sub hP0 [0, 8] rfl
  have hDc1 : va_D A (fl [oW T o g, w]) := flD_sub hD0 [0, 8] (by decide) rfl
  refine clx_i (br := [mO q (nI kp) (nI n) th (nI at_) isF op, aW T 0 (q 1) 111 mm, aW T 0 (q 2) 111 thn, aW T 0 (q 3) 666 past, aW T 0 (q 4) 60 f, aW T 0 (q 5) 27 told, aW T 0 (q 6) 3 wh]) (vx_runSX (As := [.ref xa, .int (xs (3 * k + 1)), .int (xs (3 * k + 2)), .ref o]) (rest := []) ⟨hx, hb, hml, hown, hts⟩ (c_L_send l D T hl hI (by omega) o g (xs (3 * k + 1)) (xs (3 * k + 2)) _) (mkSW (n := 4) hts kcw_send kw_0 kw_527 kw_528 ⟨by decide, by decide⟩ (by decide +kernel) ⟨rfl, rfl, Nat.le_of_ble_eq_true rfl, Nat.le_of_ble_eq_true rfl⟩) (ps_x hK hST hS0 hPc1 hDc1 (vA_c (br := [mO q (nI kp) (nI n) th (nI at_) isF op, aW T 0 (q 1) 111 mm, aW T 0 (q 2) 111 thn, aW T 0 (q 3) 666 past, aW T 0 (q 4) 60 f, aW T 0 (q 5) 27 told, aW T 0 (q 6) 3 wh]) hP0 hD0 hS0 hA (isR := [1, 2, 3, 4, 5, 6, 7]) (isC := [0, 8]) rfl (by decide))) rfl rfl hl0.1 rfl (lv_room (Nat.le_of_ble_eq_true rfl)) dL_law_450 ⟨by show _ ≤ 604008; omega, by show _ ≤ 7284081; omega⟩) hP0 hD0 hS0 hA [1, 2, 3, 4, 5, 6, 7] [0, 8] rfl (by decide) (fun E ce q9 _ux Hx lx hqx hPx hDx hSx h1 h2 h3 => absurd hqx (by simp)) (fun r_w u_w H2 locs2 hw hP2 hD2 hS2 => ?_)
  clear hP0 hD0 hS0 hPc1 hDc1
  obtain ⟨w2, g2⟩ := u_w
  have hP2 : va_P D vwCl (fl [mO q (nI kp) (nI n) th (nI at_) isF op, aW T 0 (q 1) 111 mm, aW T 0 (q 2) 111 thn, aW T 0 (q 3) 666 past, aW T 0 (q 4) 60 f, aW T 0 (q 5) 27 told, aW T 0 (q 6) 3 wh, oW T o g2, w2]) _ := hP2
  have hD2 : va_D A (fl [mO q (nI kp) (nI n) th (nI at_) isF op, aW T 0 (q 1) 111 mm, aW T 0 (q 2) 111 thn, aW T 0 (q 3) 666 past, aW T 0 (q 4) 60 f, aW T 0 (q 5) 27 told, aW T 0 (q 6) 3 wh, oW T o g2, w2]) := hD2
  refine lv_istore (lv' := [(5, .int r_w), (0, .ref b), (1, .ref xa), (2, .ref (q 0)), (3, .ref o), (4, .int (nI (3 * k)))]) hx hb dL_law_453 hl0 (by decide) rfl (fun ls3 hl3 => ?_)
  clear hl0
  refine lv_aload_n hx hb dL_law_455 rfl (lv_at hl3 3 rfl) ?_
  refine lv_aload_n hx hb dL_law_456 rfl (lv_at hl3 1 rfl) ?_
  refine lv_iload hx hb dL_law_457 (lv_at hl3 5 rfl) ?_
  refine lv_iconst (v := nI 1) hx hb dL_law_459 (by decide) ?_
  refine lv_iadd hx hb dL_law_460 ?_
  refine tp_i (y := nI (3 * k + 1)) (nI_add _ _) ?_
  refine r_sld hx hb hXs0 hls0 hns0 hS2 (3 * k + 1) dL_law_461 (by omega) ?_
  refine lv_aload_n hx hb dL_law_462 rfl (lv_at hl3 1 rfl) ?_
  refine lv_iload hx hb dL_law_463 (lv_at hl3 5 rfl) ?_
  refine lv_iconst (v := nI 2) hx hb dL_law_465 (by decide) ?_
  refine lv_iadd hx hb dL_law_466 ?_
  refine tp_i (y := nI (3 * k + 2)) (nI_add _ _) ?_
  refine r_sld hx hb hXs0 hls0 hns0 hS2 (3 * k + 2) dL_law_467 (by omega) ?_
  have hPc4 : va_P D vwCl (fl [mO q (nI kp) (nI n) th (nI at_) isF op, aW T 0 (q 1) 111 mm, aW T 0 (q 2) 111 thn, aW T 0 (q 3) 666 past, aW T 0 (q 4) 60 f, aW T 0 (q 5) 27 told, aW T 0 (q 6) 3 wh]) _ := flP_sub hP2 [0, 1, 2, 3, 4, 5, 6] rfl
  have hDc4 : va_D A (fl [mO q (nI kp) (nI n) th (nI at_) isF op, aW T 0 (q 1) 111 mm, aW T 0 (q 2) 111 thn, aW T 0 (q 3) 666 past, aW T 0 (q 4) 60 f, aW T 0 (q 5) 27 told, aW T 0 (q 6) 3 wh]) := flD_sub hD2 [0, 1, 2, 3, 4, 5, 6] (by decide) rfl
  refine cl_i (br := [oW T o g2, w2]) (va_runV (As := [.int (xs (3 * k + 1)), .int (xs (3 * k + 2))]) (rest := []) ⟨hx, hb, hml, hown, hts⟩ (c_X6_send l D T q kp n th at_ isF op mm thn past f told wh (xs (3 * k + 1)) (xs (3 * k + 2)) (hkp6) (hokS.okM) _) (mkV hts okX6_send kw_752 kw_753 kw_754 ⟨rfl, rfl, Nat.le_of_ble_eq_true rfl, Nat.le_of_ble_eq_true rfl⟩) (pv_rw hK hPc4 hDc4 (q0 := 0) rfl rfl rfl) rfl rfl hl3.1 rfl (lv_room (Nat.le_of_ble_eq_true rfl)) dL_law_468 ⟨by show _ ≤ 604008; omega, by show _ ≤ 7284081; omega⟩) hP2 hD2 hS2 hA [7, 8] [0, 1, 2, 3, 4, 5, 6] rfl (by decide) (fun r_468 u_468 H5 locs5 hq_468 hP5 hD5 hS5 => ?_)
  clear hP2 hD2 hS2 hPc4 hDc4
  obtain ⟨th2_468, now2_468, past2_468, kp2_468⟩ := u_468
  have hP5 : va_P D vwCl (fl [oW T o g2, w2, mO q (nI kp2_468) (nI n) th2_468 (nI at_) isF op, aW T 0 (q 1) 111 now2_468, aW T 0 (q 2) 111 thn, aW T 0 (q 3) 666 past2_468, aW T 0 (q 4) 60 f, aW T 0 (q 5) 27 told, aW T 0 (q 6) 3 wh]) _ := hP5
  have hD5 : va_D A (fl [oW T o g2, w2, mO q (nI kp2_468) (nI n) th2_468 (nI at_) isF op, aW T 0 (q 1) 111 now2_468, aW T 0 (q 2) 111 thn, aW T 0 (q 3) 666 past2_468, aW T 0 (q 4) 60 f, aW T 0 (q 5) 27 told, aW T 0 (q 6) 3 wh]) := hD5
  have hq_468 : (r_468, th2_468, now2_468, past2_468, kp2_468) = sendP (xs (3 * k + 1)) (xs (3 * k + 2)) mm past kp := hq_468
  have hP6 : va_P D vwCl (fl [oW T o g2, mO q (nI kp2_468) (nI n) th2_468 (nI at_) isF op, aW T 0 (q 1) 111 now2_468, aW T 0 (q 2) 111 thn, aW T 0 (q 3) 666 past2_468, aW T 0 (q 4) 60 f, aW T 0 (q 5) 27 told, aW T 0 (q 6) 3 wh, w2]) _ := flP_sub hP5 [0, 2, 3, 4, 5, 6, 7, 8, 1] rfl
  have hD6 : va_D A (fl [oW T o g2, mO q (nI kp2_468) (nI n) th2_468 (nI at_) isF op, aW T 0 (q 1) 111 now2_468, aW T 0 (q 2) 111 thn, aW T 0 (q 3) 666 past2_468, aW T 0 (q 4) 60 f, aW T 0 (q 5) 27 told, aW T 0 (q 6) 3 wh, w2]) := flD_sub hD5 [0, 2, 3, 4, 5, 6, 7, 8, 1] (by decide) rfl
  have hS6 := hS5
  clear hP5 hS5 hD5
  rw [← hq_468] at hw
  have hw1 : r_w = th2_468 := hw.1
  have hw2 : r_w = nI 0 → g2 0 = r_468.toInt64 := hw.2.1
  have hI2 : XINV T xa w2 now2_468 past2_468 kp2_468 f n (96 * k + 96) := hw.2.2
  refine lv_istore (lv' := [(6, .int r_468), (5, .int r_w), (0, .ref b), (1, .ref xa), (2, .ref (q 0)), (3, .ref o), (4, .int (nI (3 * k)))]) hx hb dL_law_471 hl3 (by decide) rfl (fun ls7 hl7 => ?_)
  clear hl3
  refine lv_aload_n hx hb dL_law_473 rfl (lv_at hl7 4 rfl) ?_
  have hPc8 : va_P D vwCl (fl [mO q (nI kp2_468) (nI n) th2_468 (nI at_) isF op]) _ := hP6.sub [1] rfl
  refine cr_i (va_runV (As := []) (rest := []) ⟨hx, hb, hml, hown, hts⟩ (c_X6_thrown l D T q kp2_468 n th2_468 at_ isF op ) (mkV hts okX6_thrown kw_707 kw_708 kw_709 ⟨rfl, rfl, Nat.le_of_ble_eq_true rfl, Nat.le_of_ble_eq_true rfl⟩) (pv_ro hK hPc8 (q0 := 0) rfl rfl rfl) rfl rfl hl7.1 rfl (lv_room (Nat.le_of_ble_eq_true rfl)) dL_law_474 ⟨by show _ ≤ 604008; omega, by show _ ≤ 7284081; omega⟩) hP6 hS6 (fun r_474 H9 locs9 hq_474 hP9 hS9 => ?_)
  clear hP6 hS6 hPc8
  have hD9 := hD6
  clear hD6
  have hq_474 : r_474 = th2_468 := hq_474
  subst hq_474
  refine lv_iload hx hb dL_law_477 (lv_at hl7 1 rfl) ?_
  refine lv_icmp_eq (tgt := 484) hx hb dL_law_479 (by decide) (fun c10 => ?_) (fun c10 => absurd (hw1.symm) c10)
  refine lv_iload hx hb dL_law_484 (lv_at hl7 1 rfl) ?_
  refine lv_if_ne (tgt := 501) hx hb dL_law_486 (by decide) (fun c_486 => ?_) (fun c_486 => ?_)
  · skip
    refine lv_goto (tgt := 1363) hx hb dL_law_501 (by decide) ?_
    refine W.widen (k := 160 + 3 * k + 3) (n := 2200 + 18 * k + 18) (by omega) (by omega) ?_
    exact KK w2 g2 r_474 at_ isF op thn told wh now2_468 past2_468 f kp2_468 n hI2 _ _ hP9 hD9 hS9 _ (lv_sub hl7 [2, 3, 4, 5, 6] rfl)
  · skip
    refine lv_aload_n hx hb dL_law_489 rfl (lv_at hl7 5 rfl) ?_
    refine lv_iconst (v := nI 0) hx hb dL_law_490 (by decide) ?_
    refine r_lald hx hb hK hP9 0 (f := g2) rfl 0 (by decide) dL_law_491 (by decide) ?_
    refine lv_iload hx hb dL_law_492 (lv_at hl7 0 rfl) ?_
    refine lv_i2l hx hb dL_law_494 rfl ?_
    refine W.lcmp hx hb dL_law_495 ?_
    refine tp_i (y := nI 0) (by rw [hw2 c_486]; exact lgc_self _) ?_
    refine n_if_eq (tgt := 501) hx hb (by omega) dL_law_496 (by decide) (fun c12 => ?_) (fun c12 => absurd (by decide) c12)
    refine lv_goto (tgt := 1363) hx hb dL_law_501 (by decide) ?_
    refine W.widen (k := 160 + 3 * k + 3) (n := 2200 + 18 * k + 18) (by omega) (by omega) ?_
    exact KK w2 g2 r_474 at_ isF op thn told wh now2_468 past2_468 f kp2_468 n hI2 _ _ hP9 hD9 hS9 _ (lv_sub hl7 [2, 3, 4, 5, 6] rfl)
set_option maxHeartbeats 4000000 in
set_option maxRecDepth 100000 in
theorem law_skip {pX : Program} {l : Launch} {eX : Env} {sX : State} {mX : MethodId} {bX : List Frame} {mtX : Method} {cX : Code} {D : va_G} {T : TI} {A : Nat → Prop} {b L : Nat} {xs : Nat → Int32} {xa o : Nat} {q : Nat → Nat} {TG : State → Prop} (hCX : LCX pX l sX mX cX D T A b L xs) (k : Nat) (hk : 3 * k + 3 ≤ L) (KK : LWP pX l eX sX mX bX mtX cX D T A b xa o q TG (96 * k + 96) (160 + 3 * k + 3) (2200 + 18 * k + 18) k 1363) : LWP pX l eX sX mX bX mtX cX D T A b xa o q TG (96 * k) (160 + 3 * k) (2200 + 18 * k) k 504 := by
  obtain ⟨hx, hb, hml, hown, hts, hXs0, hls0, hns0, hK, hST, hA, hl, hL15⟩ := hCX
  intro w g th at_ isF op thn told wh mm past f kp n hI H0 locs0 hP0 hD0 hS0 ls0 hl0
  obtain ⟨hokS, hkp6, hn60⟩ := hI.okS
  refine lv_aload_n hx hb dL_law_504 rfl (lv_at hl0 1 rfl) ?_
  refine lv_aload_n hx hb dL_law_505 rfl (lv_at hl0 0 rfl) ?_
  refine lv_iload hx hb dL_law_506 (lv_at hl0 4 rfl) ?_
  refine lv_iconst (v := nI 1) hx hb dL_law_508 (by decide) ?_
  refine lv_iadd hx hb dL_law_509 ?_
  refine tp_i (y := nI (3 * k + 1)) (nI_add _ _) ?_
  refine r_sld hx hb hXs0 hls0 hns0 hS0 (3 * k + 1) dL_law_510 (by omega) ?_
  refine lv_aload_n hx hb dL_law_511 rfl (lv_at hl0 3 rfl) ?_
  have hPc1 : va_P D vwCl (fl [oW T o g, w]) _ := flP_sub hP0 [0, 8] rfl
  have hDc1 : va_D A (fl [oW T o g, w]) := flD_sub hD0 [0, 8] (by decide) rfl
  refine clx_i (br := [mO q (nI kp) (nI n) th (nI at_) isF op, aW T 0 (q 1) 111 mm, aW T 0 (q 2) 111 thn, aW T 0 (q 3) 666 past, aW T 0 (q 4) 60 f, aW T 0 (q 5) 27 told, aW T 0 (q 6) 3 wh]) (vx_runSX (As := [.ref xa, .int (xs (3 * k + 1)), .ref o]) (rest := []) ⟨hx, hb, hml, hown, hts⟩ (c_L_skip l D T hl hI (by omega) o g (xs (3 * k + 1)) _) (mkSW (n := 3) hts kcw_skip kw_0 kw_556 kw_557 ⟨by decide, by decide⟩ (by decide +kernel) ⟨rfl, rfl, Nat.le_of_ble_eq_true rfl, Nat.le_of_ble_eq_true rfl⟩) (ps_x hK hST hS0 hPc1 hDc1 (vA_c (br := [mO q (nI kp) (nI n) th (nI at_) isF op, aW T 0 (q 1) 111 mm, aW T 0 (q 2) 111 thn, aW T 0 (q 3) 666 past, aW T 0 (q 4) 60 f, aW T 0 (q 5) 27 told, aW T 0 (q 6) 3 wh]) hP0 hD0 hS0 hA (isR := [1, 2, 3, 4, 5, 6, 7]) (isC := [0, 8]) rfl (by decide))) rfl rfl hl0.1 rfl (lv_room (Nat.le_of_ble_eq_true rfl)) dL_law_512 ⟨by show _ ≤ 604008; omega, by show _ ≤ 7284081; omega⟩) hP0 hD0 hS0 hA [1, 2, 3, 4, 5, 6, 7] [0, 8] rfl (by decide) (fun E ce q9 _ux Hx lx hqx hPx hDx hSx h1 h2 h3 => absurd hqx (by simp)) (fun r_w u_w H2 locs2 hw hP2 hD2 hS2 => ?_)
  clear hP0 hD0 hS0 hPc1 hDc1
  obtain ⟨w2, g2⟩ := u_w
  have hP2 : va_P D vwCl (fl [mO q (nI kp) (nI n) th (nI at_) isF op, aW T 0 (q 1) 111 mm, aW T 0 (q 2) 111 thn, aW T 0 (q 3) 666 past, aW T 0 (q 4) 60 f, aW T 0 (q 5) 27 told, aW T 0 (q 6) 3 wh, oW T o g2, w2]) _ := hP2
  have hD2 : va_D A (fl [mO q (nI kp) (nI n) th (nI at_) isF op, aW T 0 (q 1) 111 mm, aW T 0 (q 2) 111 thn, aW T 0 (q 3) 666 past, aW T 0 (q 4) 60 f, aW T 0 (q 5) 27 told, aW T 0 (q 6) 3 wh, oW T o g2, w2]) := hD2
  refine lv_istore (lv' := [(5, .int r_w), (0, .ref b), (1, .ref xa), (2, .ref (q 0)), (3, .ref o), (4, .int (nI (3 * k)))]) hx hb dL_law_515 hl0 (by decide) rfl (fun ls3 hl3 => ?_)
  clear hl0
  refine lv_aload_n hx hb dL_law_517 rfl (lv_at hl3 3 rfl) ?_
  refine lv_aload_n hx hb dL_law_518 rfl (lv_at hl3 1 rfl) ?_
  refine lv_iload hx hb dL_law_519 (lv_at hl3 5 rfl) ?_
  refine lv_iconst (v := nI 1) hx hb dL_law_521 (by decide) ?_
  refine lv_iadd hx hb dL_law_522 ?_
  refine tp_i (y := nI (3 * k + 1)) (nI_add _ _) ?_
  refine r_sld hx hb hXs0 hls0 hns0 hS2 (3 * k + 1) dL_law_523 (by omega) ?_
  have hPc4 : va_P D vwCl (fl [mO q (nI kp) (nI n) th (nI at_) isF op, aW T 0 (q 1) 111 mm, aW T 0 (q 2) 111 thn, aW T 0 (q 3) 666 past, aW T 0 (q 4) 60 f, aW T 0 (q 5) 27 told, aW T 0 (q 6) 3 wh]) _ := flP_sub hP2 [0, 1, 2, 3, 4, 5, 6] rfl
  have hDc4 : va_D A (fl [mO q (nI kp) (nI n) th (nI at_) isF op, aW T 0 (q 1) 111 mm, aW T 0 (q 2) 111 thn, aW T 0 (q 3) 666 past, aW T 0 (q 4) 60 f, aW T 0 (q 5) 27 told, aW T 0 (q 6) 3 wh]) := flD_sub hD2 [0, 1, 2, 3, 4, 5, 6] (by decide) rfl
  refine cl_i (br := [oW T o g2, w2]) (va_runV (As := [.int (xs (3 * k + 1))]) (rest := []) ⟨hx, hb, hml, hown, hts⟩ (c_X6_skip l D T q kp n th at_ isF op mm thn past f told wh (xs (3 * k + 1)) (hkp6) (hokS.okM) _) (mkV hts okX6_skip kw_759 kw_760 kw_761 ⟨rfl, rfl, Nat.le_of_ble_eq_true rfl, Nat.le_of_ble_eq_true rfl⟩) (pv_rw hK hPc4 hDc4 (q0 := 0) rfl rfl rfl) rfl rfl hl3.1 rfl (lv_room (Nat.le_of_ble_eq_true rfl)) dL_law_524 ⟨by show _ ≤ 604008; omega, by show _ ≤ 7284081; omega⟩) hP2 hD2 hS2 hA [7, 8] [0, 1, 2, 3, 4, 5, 6] rfl (by decide) (fun r_524 u_524 H5 locs5 hq_524 hP5 hD5 hS5 => ?_)
  clear hP2 hD2 hS2 hPc4 hDc4
  obtain ⟨th2_524, now2_524, past2_524, kp2_524⟩ := u_524
  have hP5 : va_P D vwCl (fl [oW T o g2, w2, mO q (nI kp2_524) (nI n) th2_524 (nI at_) isF op, aW T 0 (q 1) 111 now2_524, aW T 0 (q 2) 111 thn, aW T 0 (q 3) 666 past2_524, aW T 0 (q 4) 60 f, aW T 0 (q 5) 27 told, aW T 0 (q 6) 3 wh]) _ := hP5
  have hD5 : va_D A (fl [oW T o g2, w2, mO q (nI kp2_524) (nI n) th2_524 (nI at_) isF op, aW T 0 (q 1) 111 now2_524, aW T 0 (q 2) 111 thn, aW T 0 (q 3) 666 past2_524, aW T 0 (q 4) 60 f, aW T 0 (q 5) 27 told, aW T 0 (q 6) 3 wh]) := hD5
  have hq_524 : (r_524, th2_524, now2_524, past2_524, kp2_524) = skipP (xs (3 * k + 1)) mm past kp := hq_524
  have hP6 : va_P D vwCl (fl [oW T o g2, mO q (nI kp2_524) (nI n) th2_524 (nI at_) isF op, aW T 0 (q 1) 111 now2_524, aW T 0 (q 2) 111 thn, aW T 0 (q 3) 666 past2_524, aW T 0 (q 4) 60 f, aW T 0 (q 5) 27 told, aW T 0 (q 6) 3 wh, w2]) _ := flP_sub hP5 [0, 2, 3, 4, 5, 6, 7, 8, 1] rfl
  have hD6 : va_D A (fl [oW T o g2, mO q (nI kp2_524) (nI n) th2_524 (nI at_) isF op, aW T 0 (q 1) 111 now2_524, aW T 0 (q 2) 111 thn, aW T 0 (q 3) 666 past2_524, aW T 0 (q 4) 60 f, aW T 0 (q 5) 27 told, aW T 0 (q 6) 3 wh, w2]) := flD_sub hD5 [0, 2, 3, 4, 5, 6, 7, 8, 1] (by decide) rfl
  have hS6 := hS5
  clear hP5 hS5 hD5
  rw [← hq_524] at hw
  have hw1 : r_w = th2_524 := hw.1
  have hw2 : r_w = nI 0 → g2 0 = r_524.toInt64 := hw.2.1
  have hI2 : XINV T xa w2 now2_524 past2_524 kp2_524 f n (96 * k + 96) := hw.2.2
  refine lv_istore (lv' := [(6, .int r_524), (5, .int r_w), (0, .ref b), (1, .ref xa), (2, .ref (q 0)), (3, .ref o), (4, .int (nI (3 * k)))]) hx hb dL_law_527 hl3 (by decide) rfl (fun ls7 hl7 => ?_)
  clear hl3
  refine lv_aload_n hx hb dL_law_529 rfl (lv_at hl7 4 rfl) ?_
  have hPc8 : va_P D vwCl (fl [mO q (nI kp2_524) (nI n) th2_524 (nI at_) isF op]) _ := hP6.sub [1] rfl
  refine cr_i (va_runV (As := []) (rest := []) ⟨hx, hb, hml, hown, hts⟩ (c_X6_thrown l D T q kp2_524 n th2_524 at_ isF op ) (mkV hts okX6_thrown kw_707 kw_708 kw_709 ⟨rfl, rfl, Nat.le_of_ble_eq_true rfl, Nat.le_of_ble_eq_true rfl⟩) (pv_ro hK hPc8 (q0 := 0) rfl rfl rfl) rfl rfl hl7.1 rfl (lv_room (Nat.le_of_ble_eq_true rfl)) dL_law_530 ⟨by show _ ≤ 604008; omega, by show _ ≤ 7284081; omega⟩) hP6 hS6 (fun r_530 H9 locs9 hq_530 hP9 hS9 => ?_)
  clear hP6 hS6 hPc8
  have hD9 := hD6
  clear hD6
  have hq_530 : r_530 = th2_524 := hq_530
  subst hq_530
  refine lv_iload hx hb dL_law_533 (lv_at hl7 1 rfl) ?_
  refine lv_icmp_eq (tgt := 540) hx hb dL_law_535 (by decide) (fun c10 => ?_) (fun c10 => absurd (hw1.symm) c10)
  refine lv_iload hx hb dL_law_540 (lv_at hl7 1 rfl) ?_
  refine lv_if_ne (tgt := 557) hx hb dL_law_542 (by decide) (fun c_542 => ?_) (fun c_542 => ?_)
  · skip
    refine lv_goto (tgt := 1363) hx hb dL_law_557 (by decide) ?_
    refine W.widen (k := 160 + 3 * k + 3) (n := 2200 + 18 * k + 18) (by omega) (by omega) ?_
    exact KK w2 g2 r_530 at_ isF op thn told wh now2_524 past2_524 f kp2_524 n hI2 _ _ hP9 hD9 hS9 _ (lv_sub hl7 [2, 3, 4, 5, 6] rfl)
  · skip
    refine lv_aload_n hx hb dL_law_545 rfl (lv_at hl7 5 rfl) ?_
    refine lv_iconst (v := nI 0) hx hb dL_law_546 (by decide) ?_
    refine r_lald hx hb hK hP9 0 (f := g2) rfl 0 (by decide) dL_law_547 (by decide) ?_
    refine lv_iload hx hb dL_law_548 (lv_at hl7 0 rfl) ?_
    refine lv_i2l hx hb dL_law_550 rfl ?_
    refine W.lcmp hx hb dL_law_551 ?_
    refine tp_i (y := nI 0) (by rw [hw2 c_542]; exact lgc_self _) ?_
    refine n_if_eq (tgt := 557) hx hb (by omega) dL_law_552 (by decide) (fun c12 => ?_) (fun c12 => absurd (by decide) c12)
    refine lv_goto (tgt := 1363) hx hb dL_law_557 (by decide) ?_
    refine W.widen (k := 160 + 3 * k + 3) (n := 2200 + 18 * k + 18) (by omega) (by omega) ?_
    exact KK w2 g2 r_530 at_ isF op thn told wh now2_524 past2_524 f kp2_524 n hI2 _ _ hP9 hD9 hS9 _ (lv_sub hl7 [2, 3, 4, 5, 6] rfl)
set_option maxHeartbeats 4000000 in
set_option maxRecDepth 100000 in
theorem law_set {pX : Program} {l : Launch} {eX : Env} {sX : State} {mX : MethodId} {bX : List Frame} {mtX : Method} {cX : Code} {D : va_G} {T : TI} {A : Nat → Prop} {b L : Nat} {xs : Nat → Int32} {xa o : Nat} {q : Nat → Nat} {TG : State → Prop} (hCX : LCX pX l sX mX cX D T A b L xs) (k : Nat) (hk : 3 * k + 3 ≤ L) (KK : LWP pX l eX sX mX bX mtX cX D T A b xa o q TG (96 * k + 96) (160 + 3 * k + 3) (2200 + 18 * k + 18) k 1363) : LWP pX l eX sX mX bX mtX cX D T A b xa o q TG (96 * k) (160 + 3 * k) (2200 + 18 * k) k 560 := by
  obtain ⟨hx, hb, hml, hown, hts, hXs0, hls0, hns0, hK, hST, hA, hl, hL15⟩ := hCX
  intro w g th at_ isF op thn told wh mm past f kp n hI H0 locs0 hP0 hD0 hS0 ls0 hl0
  obtain ⟨hokS, hkp6, hn60⟩ := hI.okS
  refine lv_aload_n hx hb dL_law_560 rfl (lv_at hl0 1 rfl) ?_
  refine lv_aload_n hx hb dL_law_561 rfl (lv_at hl0 0 rfl) ?_
  refine lv_iload hx hb dL_law_562 (lv_at hl0 4 rfl) ?_
  refine lv_iconst (v := nI 1) hx hb dL_law_564 (by decide) ?_
  refine lv_iadd hx hb dL_law_565 ?_
  refine tp_i (y := nI (3 * k + 1)) (nI_add _ _) ?_
  refine r_sld hx hb hXs0 hls0 hns0 hS0 (3 * k + 1) dL_law_566 (by omega) ?_
  refine lv_aload_n hx hb dL_law_567 rfl (lv_at hl0 0 rfl) ?_
  refine lv_iload hx hb dL_law_568 (lv_at hl0 4 rfl) ?_
  refine lv_iconst (v := nI 2) hx hb dL_law_570 (by decide) ?_
  refine lv_iadd hx hb dL_law_571 ?_
  refine tp_i (y := nI (3 * k + 2)) (nI_add _ _) ?_
  refine r_sld hx hb hXs0 hls0 hns0 hS0 (3 * k + 2) dL_law_572 (by omega) ?_
  refine lv_aload_n hx hb dL_law_573 rfl (lv_at hl0 3 rfl) ?_
  have hPc1 : va_P D vwCl (fl [oW T o g, w]) _ := flP_sub hP0 [0, 8] rfl
  have hDc1 : va_D A (fl [oW T o g, w]) := flD_sub hD0 [0, 8] (by decide) rfl
  refine clx_i (br := [mO q (nI kp) (nI n) th (nI at_) isF op, aW T 0 (q 1) 111 mm, aW T 0 (q 2) 111 thn, aW T 0 (q 3) 666 past, aW T 0 (q 4) 60 f, aW T 0 (q 5) 27 told, aW T 0 (q 6) 3 wh]) (vx_runSX (As := [.ref xa, .int (xs (3 * k + 1)), .int (xs (3 * k + 2)), .ref o]) (rest := []) ⟨hx, hb, hml, hown, hts⟩ (c_L_set l D T hl hI (by omega) o g (xs (3 * k + 1)) (xs (3 * k + 2)) _) (mkSW (n := 4) hts kcw_set kw_0 kw_564 kw_565 ⟨by decide, by decide⟩ (by decide +kernel) ⟨rfl, rfl, Nat.le_of_ble_eq_true rfl, Nat.le_of_ble_eq_true rfl⟩) (ps_x hK hST hS0 hPc1 hDc1 (vA_c (br := [mO q (nI kp) (nI n) th (nI at_) isF op, aW T 0 (q 1) 111 mm, aW T 0 (q 2) 111 thn, aW T 0 (q 3) 666 past, aW T 0 (q 4) 60 f, aW T 0 (q 5) 27 told, aW T 0 (q 6) 3 wh]) hP0 hD0 hS0 hA (isR := [1, 2, 3, 4, 5, 6, 7]) (isC := [0, 8]) rfl (by decide))) rfl rfl hl0.1 rfl (lv_room (Nat.le_of_ble_eq_true rfl)) dL_law_574 ⟨by show _ ≤ 604008; omega, by show _ ≤ 7284081; omega⟩) hP0 hD0 hS0 hA [1, 2, 3, 4, 5, 6, 7] [0, 8] rfl (by decide) (fun E ce q9 _ux Hx lx hqx hPx hDx hSx h1 h2 h3 => absurd hqx (by simp)) (fun r_w u_w H2 locs2 hw hP2 hD2 hS2 => ?_)
  clear hP0 hD0 hS0 hPc1 hDc1
  obtain ⟨w2, g2⟩ := u_w
  have hP2 : va_P D vwCl (fl [mO q (nI kp) (nI n) th (nI at_) isF op, aW T 0 (q 1) 111 mm, aW T 0 (q 2) 111 thn, aW T 0 (q 3) 666 past, aW T 0 (q 4) 60 f, aW T 0 (q 5) 27 told, aW T 0 (q 6) 3 wh, oW T o g2, w2]) _ := hP2
  have hD2 : va_D A (fl [mO q (nI kp) (nI n) th (nI at_) isF op, aW T 0 (q 1) 111 mm, aW T 0 (q 2) 111 thn, aW T 0 (q 3) 666 past, aW T 0 (q 4) 60 f, aW T 0 (q 5) 27 told, aW T 0 (q 6) 3 wh, oW T o g2, w2]) := hD2
  refine lv_istore (lv' := [(5, .int r_w), (0, .ref b), (1, .ref xa), (2, .ref (q 0)), (3, .ref o), (4, .int (nI (3 * k)))]) hx hb dL_law_577 hl0 (by decide) rfl (fun ls3 hl3 => ?_)
  clear hl0
  refine lv_aload_n hx hb dL_law_579 rfl (lv_at hl3 3 rfl) ?_
  refine lv_aload_n hx hb dL_law_580 rfl (lv_at hl3 1 rfl) ?_
  refine lv_iload hx hb dL_law_581 (lv_at hl3 5 rfl) ?_
  refine lv_iconst (v := nI 1) hx hb dL_law_583 (by decide) ?_
  refine lv_iadd hx hb dL_law_584 ?_
  refine tp_i (y := nI (3 * k + 1)) (nI_add _ _) ?_
  refine r_sld hx hb hXs0 hls0 hns0 hS2 (3 * k + 1) dL_law_585 (by omega) ?_
  refine lv_aload_n hx hb dL_law_586 rfl (lv_at hl3 1 rfl) ?_
  refine lv_iload hx hb dL_law_587 (lv_at hl3 5 rfl) ?_
  refine lv_iconst (v := nI 2) hx hb dL_law_589 (by decide) ?_
  refine lv_iadd hx hb dL_law_590 ?_
  refine tp_i (y := nI (3 * k + 2)) (nI_add _ _) ?_
  refine r_sld hx hb hXs0 hls0 hns0 hS2 (3 * k + 2) dL_law_591 (by omega) ?_
  have hPc4 : va_P D vwCl (fl [mO q (nI kp) (nI n) th (nI at_) isF op, aW T 0 (q 1) 111 mm, aW T 0 (q 2) 111 thn, aW T 0 (q 3) 666 past, aW T 0 (q 4) 60 f, aW T 0 (q 5) 27 told, aW T 0 (q 6) 3 wh]) _ := flP_sub hP2 [0, 1, 2, 3, 4, 5, 6] rfl
  have hDc4 : va_D A (fl [mO q (nI kp) (nI n) th (nI at_) isF op, aW T 0 (q 1) 111 mm, aW T 0 (q 2) 111 thn, aW T 0 (q 3) 666 past, aW T 0 (q 4) 60 f, aW T 0 (q 5) 27 told, aW T 0 (q 6) 3 wh]) := flD_sub hD2 [0, 1, 2, 3, 4, 5, 6] (by decide) rfl
  refine cl_i (br := [oW T o g2, w2]) (va_runV (As := [.int (xs (3 * k + 1)), .int (xs (3 * k + 2))]) (rest := []) ⟨hx, hb, hml, hown, hts⟩ (c_X6_set l D T q kp n th at_ isF op mm thn past f told wh (xs (3 * k + 1)) (xs (3 * k + 2)) (hkp6) _) (mkV hts okX6_set kw_769 kw_770 kw_771 ⟨rfl, rfl, Nat.le_of_ble_eq_true rfl, Nat.le_of_ble_eq_true rfl⟩) (pv_rw hK hPc4 hDc4 (q0 := 0) rfl rfl rfl) rfl rfl hl3.1 rfl (lv_room (Nat.le_of_ble_eq_true rfl)) dL_law_592 ⟨by show _ ≤ 604008; omega, by show _ ≤ 7284081; omega⟩) hP2 hD2 hS2 hA [7, 8] [0, 1, 2, 3, 4, 5, 6] rfl (by decide) (fun r_592 u_592 H5 locs5 hq_592 hP5 hD5 hS5 => ?_)
  clear hP2 hD2 hS2 hPc4 hDc4
  obtain ⟨th2_592, now2_592, past2_592, kp2_592⟩ := u_592
  have hP5 : va_P D vwCl (fl [oW T o g2, w2, mO q (nI kp2_592) (nI n) th2_592 (nI at_) isF op, aW T 0 (q 1) 111 now2_592, aW T 0 (q 2) 111 thn, aW T 0 (q 3) 666 past2_592, aW T 0 (q 4) 60 f, aW T 0 (q 5) 27 told, aW T 0 (q 6) 3 wh]) _ := hP5
  have hD5 : va_D A (fl [oW T o g2, w2, mO q (nI kp2_592) (nI n) th2_592 (nI at_) isF op, aW T 0 (q 1) 111 now2_592, aW T 0 (q 2) 111 thn, aW T 0 (q 3) 666 past2_592, aW T 0 (q 4) 60 f, aW T 0 (q 5) 27 told, aW T 0 (q 6) 3 wh]) := hD5
  have hq_592 : (r_592, th2_592, now2_592, past2_592, kp2_592) = setP (xs (3 * k + 1)) (xs (3 * k + 2)) mm past kp := hq_592
  have hP6 : va_P D vwCl (fl [oW T o g2, mO q (nI kp2_592) (nI n) th2_592 (nI at_) isF op, aW T 0 (q 1) 111 now2_592, aW T 0 (q 2) 111 thn, aW T 0 (q 3) 666 past2_592, aW T 0 (q 4) 60 f, aW T 0 (q 5) 27 told, aW T 0 (q 6) 3 wh, w2]) _ := flP_sub hP5 [0, 2, 3, 4, 5, 6, 7, 8, 1] rfl
  have hD6 : va_D A (fl [oW T o g2, mO q (nI kp2_592) (nI n) th2_592 (nI at_) isF op, aW T 0 (q 1) 111 now2_592, aW T 0 (q 2) 111 thn, aW T 0 (q 3) 666 past2_592, aW T 0 (q 4) 60 f, aW T 0 (q 5) 27 told, aW T 0 (q 6) 3 wh, w2]) := flD_sub hD5 [0, 2, 3, 4, 5, 6, 7, 8, 1] (by decide) rfl
  have hS6 := hS5
  clear hP5 hS5 hD5
  rw [← hq_592] at hw
  have hw1 : r_w = th2_592 := hw.1
  have hw2 : r_w = nI 0 → g2 0 = r_592.toInt64 := hw.2.1
  have hI2 : XINV T xa w2 now2_592 past2_592 kp2_592 f n (96 * k + 96) := hw.2.2
  refine lv_istore (lv' := [(6, .int r_592), (5, .int r_w), (0, .ref b), (1, .ref xa), (2, .ref (q 0)), (3, .ref o), (4, .int (nI (3 * k)))]) hx hb dL_law_595 hl3 (by decide) rfl (fun ls7 hl7 => ?_)
  clear hl3
  refine lv_aload_n hx hb dL_law_597 rfl (lv_at hl7 4 rfl) ?_
  have hPc8 : va_P D vwCl (fl [mO q (nI kp2_592) (nI n) th2_592 (nI at_) isF op]) _ := hP6.sub [1] rfl
  refine cr_i (va_runV (As := []) (rest := []) ⟨hx, hb, hml, hown, hts⟩ (c_X6_thrown l D T q kp2_592 n th2_592 at_ isF op ) (mkV hts okX6_thrown kw_707 kw_708 kw_709 ⟨rfl, rfl, Nat.le_of_ble_eq_true rfl, Nat.le_of_ble_eq_true rfl⟩) (pv_ro hK hPc8 (q0 := 0) rfl rfl rfl) rfl rfl hl7.1 rfl (lv_room (Nat.le_of_ble_eq_true rfl)) dL_law_598 ⟨by show _ ≤ 604008; omega, by show _ ≤ 7284081; omega⟩) hP6 hS6 (fun r_598 H9 locs9 hq_598 hP9 hS9 => ?_)
  clear hP6 hS6 hPc8
  have hD9 := hD6
  clear hD6
  have hq_598 : r_598 = th2_592 := hq_598
  subst hq_598
  refine lv_iload hx hb dL_law_601 (lv_at hl7 1 rfl) ?_
  refine lv_icmp_eq (tgt := 608) hx hb dL_law_603 (by decide) (fun c10 => ?_) (fun c10 => absurd (hw1.symm) c10)
  refine lv_iload hx hb dL_law_608 (lv_at hl7 1 rfl) ?_
  refine lv_if_ne (tgt := 625) hx hb dL_law_610 (by decide) (fun c_610 => ?_) (fun c_610 => ?_)
  · skip
    refine lv_goto (tgt := 1363) hx hb dL_law_625 (by decide) ?_
    refine W.widen (k := 160 + 3 * k + 3) (n := 2200 + 18 * k + 18) (by omega) (by omega) ?_
    exact KK w2 g2 r_598 at_ isF op thn told wh now2_592 past2_592 f kp2_592 n hI2 _ _ hP9 hD9 hS9 _ (lv_sub hl7 [2, 3, 4, 5, 6] rfl)
  · skip
    refine lv_aload_n hx hb dL_law_613 rfl (lv_at hl7 5 rfl) ?_
    refine lv_iconst (v := nI 0) hx hb dL_law_614 (by decide) ?_
    refine r_lald hx hb hK hP9 0 (f := g2) rfl 0 (by decide) dL_law_615 (by decide) ?_
    refine lv_iload hx hb dL_law_616 (lv_at hl7 0 rfl) ?_
    refine lv_i2l hx hb dL_law_618 rfl ?_
    refine W.lcmp hx hb dL_law_619 ?_
    refine tp_i (y := nI 0) (by rw [hw2 c_610]; exact lgc_self _) ?_
    refine n_if_eq (tgt := 625) hx hb (by omega) dL_law_620 (by decide) (fun c12 => ?_) (fun c12 => absurd (by decide) c12)
    refine lv_goto (tgt := 1363) hx hb dL_law_625 (by decide) ?_
    refine W.widen (k := 160 + 3 * k + 3) (n := 2200 + 18 * k + 18) (by omega) (by omega) ?_
    exact KK w2 g2 r_598 at_ isF op thn told wh now2_592 past2_592 f kp2_592 n hI2 _ _ hP9 hD9 hS9 _ (lv_sub hl7 [2, 3, 4, 5, 6] rfl)
set_option maxHeartbeats 4000000 in
set_option maxRecDepth 100000 in
theorem law_pass {pX : Program} {l : Launch} {eX : Env} {sX : State} {mX : MethodId} {bX : List Frame} {mtX : Method} {cX : Code} {D : va_G} {T : TI} {A : Nat → Prop} {b L : Nat} {xs : Nat → Int32} {xa o : Nat} {q : Nat → Nat} {TG : State → Prop} (hCX : LCX pX l sX mX cX D T A b L xs) (k : Nat) (hk : 3 * k + 3 ≤ L) (KK : LWP pX l eX sX mX bX mtX cX D T A b xa o q TG (96 * k + 96) (160 + 3 * k + 3) (2200 + 18 * k + 18) k 1363) : LWP pX l eX sX mX bX mtX cX D T A b xa o q TG (96 * k) (160 + 3 * k) (2200 + 18 * k) k 628 := by
  obtain ⟨hx, hb, hml, hown, hts, hXs0, hls0, hns0, hK, hST, hA, hl, hL15⟩ := hCX
  intro w g th at_ isF op thn told wh mm past f kp n hI H0 locs0 hP0 hD0 hS0 ls0 hl0
  obtain ⟨hokS, hkp6, hn60⟩ := hI.okS
  refine lv_aload_n hx hb dL_law_628 rfl (lv_at hl0 1 rfl) ?_
  refine lv_aload_n hx hb dL_law_629 rfl (lv_at hl0 0 rfl) ?_
  refine lv_iload hx hb dL_law_630 (lv_at hl0 4 rfl) ?_
  refine lv_iconst (v := nI 1) hx hb dL_law_632 (by decide) ?_
  refine lv_iadd hx hb dL_law_633 ?_
  refine tp_i (y := nI (3 * k + 1)) (nI_add _ _) ?_
  refine r_sld hx hb hXs0 hls0 hns0 hS0 (3 * k + 1) dL_law_634 (by omega) ?_
  refine lv_aload_n hx hb dL_law_635 rfl (lv_at hl0 3 rfl) ?_
  have hPc1 : va_P D vwCl (fl [oW T o g, w]) _ := flP_sub hP0 [0, 8] rfl
  have hDc1 : va_D A (fl [oW T o g, w]) := flD_sub hD0 [0, 8] (by decide) rfl
  refine clx_i (br := [mO q (nI kp) (nI n) th (nI at_) isF op, aW T 0 (q 1) 111 mm, aW T 0 (q 2) 111 thn, aW T 0 (q 3) 666 past, aW T 0 (q 4) 60 f, aW T 0 (q 5) 27 told, aW T 0 (q 6) 3 wh]) (vx_runSX (As := [.ref xa, .int (xs (3 * k + 1)), .ref o]) (rest := []) ⟨hx, hb, hml, hown, hts⟩ (c_L_pass l D T hl hI (by omega) o g (xs (3 * k + 1)) _) (mkSW (n := 3) hts kcw_pass kw_0 kw_575 kw_576 ⟨by decide, by decide⟩ (by decide +kernel) ⟨rfl, rfl, Nat.le_of_ble_eq_true rfl, Nat.le_of_ble_eq_true rfl⟩) (ps_x hK hST hS0 hPc1 hDc1 (vA_c (br := [mO q (nI kp) (nI n) th (nI at_) isF op, aW T 0 (q 1) 111 mm, aW T 0 (q 2) 111 thn, aW T 0 (q 3) 666 past, aW T 0 (q 4) 60 f, aW T 0 (q 5) 27 told, aW T 0 (q 6) 3 wh]) hP0 hD0 hS0 hA (isR := [1, 2, 3, 4, 5, 6, 7]) (isC := [0, 8]) rfl (by decide))) rfl rfl hl0.1 rfl (lv_room (Nat.le_of_ble_eq_true rfl)) dL_law_636 ⟨by show _ ≤ 604008; omega, by show _ ≤ 7284081; omega⟩) hP0 hD0 hS0 hA [1, 2, 3, 4, 5, 6, 7] [0, 8] rfl (by decide) (fun E ce q9 _ux Hx lx hqx hPx hDx hSx h1 h2 h3 => absurd hqx (by simp)) (fun r_w u_w H2 locs2 hw hP2 hD2 hS2 => ?_)
  clear hP0 hD0 hS0 hPc1 hDc1
  obtain ⟨w2, g2⟩ := u_w
  have hP2 : va_P D vwCl (fl [mO q (nI kp) (nI n) th (nI at_) isF op, aW T 0 (q 1) 111 mm, aW T 0 (q 2) 111 thn, aW T 0 (q 3) 666 past, aW T 0 (q 4) 60 f, aW T 0 (q 5) 27 told, aW T 0 (q 6) 3 wh, oW T o g2, w2]) _ := hP2
  have hD2 : va_D A (fl [mO q (nI kp) (nI n) th (nI at_) isF op, aW T 0 (q 1) 111 mm, aW T 0 (q 2) 111 thn, aW T 0 (q 3) 666 past, aW T 0 (q 4) 60 f, aW T 0 (q 5) 27 told, aW T 0 (q 6) 3 wh, oW T o g2, w2]) := hD2
  refine lv_istore (lv' := [(5, .int r_w), (0, .ref b), (1, .ref xa), (2, .ref (q 0)), (3, .ref o), (4, .int (nI (3 * k)))]) hx hb dL_law_639 hl0 (by decide) rfl (fun ls3 hl3 => ?_)
  clear hl0
  refine lv_aload_n hx hb dL_law_641 rfl (lv_at hl3 3 rfl) ?_
  refine lv_aload_n hx hb dL_law_642 rfl (lv_at hl3 1 rfl) ?_
  refine lv_iload hx hb dL_law_643 (lv_at hl3 5 rfl) ?_
  refine lv_iconst (v := nI 1) hx hb dL_law_645 (by decide) ?_
  refine lv_iadd hx hb dL_law_646 ?_
  refine tp_i (y := nI (3 * k + 1)) (nI_add _ _) ?_
  refine r_sld hx hb hXs0 hls0 hns0 hS2 (3 * k + 1) dL_law_647 (by omega) ?_
  have hPc4 : va_P D vwCl (fl [mO q (nI kp) (nI n) th (nI at_) isF op, aW T 0 (q 1) 111 mm, aW T 0 (q 3) 666 past, aW T 0 (q 6) 3 wh]) _ := flP_sub hP2 [0, 1, 3, 6] rfl
  have hDc4 : va_D A (fl [mO q (nI kp) (nI n) th (nI at_) isF op, aW T 0 (q 1) 111 mm, aW T 0 (q 3) 666 past, aW T 0 (q 6) 3 wh]) := flD_sub hD2 [0, 1, 3, 6] (by decide) rfl
  refine cl_i (br := [aW T 0 (q 2) 111 thn, aW T 0 (q 4) 60 f, aW T 0 (q 5) 27 told, oW T o g2, w2]) (va_runV (As := [.int (xs (3 * k + 1))]) (rest := []) ⟨hx, hb, hml, hown, hts⟩ (c_X6_pass l D T q kp n th at_ isF op mm past wh (xs (3 * k + 1)) (hkp6) (hokS) _) (mkV hts okX6_pass kw_776 kw_777 kw_778 ⟨rfl, rfl, Nat.le_of_ble_eq_true rfl, Nat.le_of_ble_eq_true rfl⟩) (pv_rw hK hPc4 hDc4 (q0 := 0) rfl rfl rfl) rfl rfl hl3.1 rfl (lv_room (Nat.le_of_ble_eq_true rfl)) dL_law_648 ⟨by show _ ≤ 604008; omega, by show _ ≤ 7284081; omega⟩) hP2 hD2 hS2 hA [2, 4, 5, 7, 8] [0, 1, 3, 6] rfl (by decide) (fun r_648 u_648 H5 locs5 hq_648 hP5 hD5 hS5 => ?_)
  clear hP2 hD2 hS2 hPc4 hDc4
  obtain ⟨th2_648, op2_648, now2_648, past2_648, wh2_648, kp2_648⟩ := u_648
  have hP5 : va_P D vwCl (fl [aW T 0 (q 2) 111 thn, aW T 0 (q 4) 60 f, aW T 0 (q 5) 27 told, oW T o g2, w2, mO q (nI kp2_648) (nI n) th2_648 (nI at_) isF op2_648, aW T 0 (q 1) 111 now2_648, aW T 0 (q 3) 666 past2_648, aW T 0 (q 6) 3 wh2_648]) _ := hP5
  have hD5 : va_D A (fl [aW T 0 (q 2) 111 thn, aW T 0 (q 4) 60 f, aW T 0 (q 5) 27 told, oW T o g2, w2, mO q (nI kp2_648) (nI n) th2_648 (nI at_) isF op2_648, aW T 0 (q 1) 111 now2_648, aW T 0 (q 3) 666 past2_648, aW T 0 (q 6) 3 wh2_648]) := hD5
  have hq_648 : (r_648, th2_648, now2_648, past2_648, kp2_648) = passP (xs (3 * k + 1)) mm past kp := hq_648
  have hP6 : va_P D vwCl (fl [aW T 0 (q 2) 111 thn, aW T 0 (q 4) 60 f, aW T 0 (q 5) 27 told, oW T o g2, mO q (nI kp2_648) (nI n) th2_648 (nI at_) isF op2_648, aW T 0 (q 1) 111 now2_648, aW T 0 (q 3) 666 past2_648, aW T 0 (q 6) 3 wh2_648, w2]) _ := flP_sub hP5 [0, 1, 2, 3, 5, 6, 7, 8, 4] rfl
  have hD6 : va_D A (fl [aW T 0 (q 2) 111 thn, aW T 0 (q 4) 60 f, aW T 0 (q 5) 27 told, oW T o g2, mO q (nI kp2_648) (nI n) th2_648 (nI at_) isF op2_648, aW T 0 (q 1) 111 now2_648, aW T 0 (q 3) 666 past2_648, aW T 0 (q 6) 3 wh2_648, w2]) := flD_sub hD5 [0, 1, 2, 3, 5, 6, 7, 8, 4] (by decide) rfl
  have hS6 := hS5
  clear hP5 hS5 hD5
  rw [← hq_648] at hw
  have hw1 : r_w = th2_648 := hw.1
  have hw2 : r_w = nI 0 → g2 0 = r_648.toInt64 := hw.2.1
  have hI2 : XINV T xa w2 now2_648 past2_648 kp2_648 f n (96 * k + 96) := hw.2.2
  refine lv_istore (lv' := [(6, .int r_648), (5, .int r_w), (0, .ref b), (1, .ref xa), (2, .ref (q 0)), (3, .ref o), (4, .int (nI (3 * k)))]) hx hb dL_law_651 hl3 (by decide) rfl (fun ls7 hl7 => ?_)
  clear hl3
  refine lv_aload_n hx hb dL_law_653 rfl (lv_at hl7 4 rfl) ?_
  have hPc8 : va_P D vwCl (fl [mO q (nI kp2_648) (nI n) th2_648 (nI at_) isF op2_648]) _ := hP6.sub [4] rfl
  refine cr_i (va_runV (As := []) (rest := []) ⟨hx, hb, hml, hown, hts⟩ (c_X6_thrown l D T q kp2_648 n th2_648 at_ isF op2_648 ) (mkV hts okX6_thrown kw_707 kw_708 kw_709 ⟨rfl, rfl, Nat.le_of_ble_eq_true rfl, Nat.le_of_ble_eq_true rfl⟩) (pv_ro hK hPc8 (q0 := 0) rfl rfl rfl) rfl rfl hl7.1 rfl (lv_room (Nat.le_of_ble_eq_true rfl)) dL_law_654 ⟨by show _ ≤ 604008; omega, by show _ ≤ 7284081; omega⟩) hP6 hS6 (fun r_654 H9 locs9 hq_654 hP9 hS9 => ?_)
  clear hP6 hS6 hPc8
  have hD9 := hD6
  clear hD6
  have hq_654 : r_654 = th2_648 := hq_654
  subst hq_654
  refine lv_iload hx hb dL_law_657 (lv_at hl7 1 rfl) ?_
  refine lv_icmp_eq (tgt := 664) hx hb dL_law_659 (by decide) (fun c10 => ?_) (fun c10 => absurd (hw1.symm) c10)
  refine lv_iload hx hb dL_law_664 (lv_at hl7 1 rfl) ?_
  refine lv_if_ne (tgt := 681) hx hb dL_law_666 (by decide) (fun c_666 => ?_) (fun c_666 => ?_)
  · skip
    refine lv_goto (tgt := 1363) hx hb dL_law_681 (by decide) ?_
    have hP12 : va_P D vwCl (fl [oW T o g2, mO q (nI kp2_648) (nI n) r_654 (nI at_) isF op2_648, aW T 0 (q 1) 111 now2_648, aW T 0 (q 2) 111 thn, aW T 0 (q 3) 666 past2_648, aW T 0 (q 4) 60 f, aW T 0 (q 5) 27 told, aW T 0 (q 6) 3 wh2_648, w2]) _ := flP_sub hP9 [3, 4, 5, 0, 6, 1, 2, 7, 8] rfl
    have hD12 : va_D A (fl [oW T o g2, mO q (nI kp2_648) (nI n) r_654 (nI at_) isF op2_648, aW T 0 (q 1) 111 now2_648, aW T 0 (q 2) 111 thn, aW T 0 (q 3) 666 past2_648, aW T 0 (q 4) 60 f, aW T 0 (q 5) 27 told, aW T 0 (q 6) 3 wh2_648, w2]) := flD_sub hD9 [3, 4, 5, 0, 6, 1, 2, 7, 8] (by decide) rfl
    have hS12 := hS9
    clear hP9 hS9 hD9
    refine W.widen (k := 160 + 3 * k + 3) (n := 2200 + 18 * k + 18) (by omega) (by omega) ?_
    exact KK w2 g2 r_654 at_ isF op2_648 thn told wh2_648 now2_648 past2_648 f kp2_648 n hI2 _ _ hP12 hD12 hS12 _ (lv_sub hl7 [2, 3, 4, 5, 6] rfl)
  · skip
    refine lv_aload_n hx hb dL_law_669 rfl (lv_at hl7 5 rfl) ?_
    refine lv_iconst (v := nI 0) hx hb dL_law_670 (by decide) ?_
    refine r_lald hx hb hK hP9 3 (f := g2) rfl 0 (by decide) dL_law_671 (by decide) ?_
    refine lv_iload hx hb dL_law_672 (lv_at hl7 0 rfl) ?_
    refine lv_i2l hx hb dL_law_674 rfl ?_
    refine W.lcmp hx hb dL_law_675 ?_
    refine tp_i (y := nI 0) (by rw [hw2 c_666]; exact lgc_self _) ?_
    refine n_if_eq (tgt := 681) hx hb (by omega) dL_law_676 (by decide) (fun c13 => ?_) (fun c13 => absurd (by decide) c13)
    refine lv_goto (tgt := 1363) hx hb dL_law_681 (by decide) ?_
    have hP14 : va_P D vwCl (fl [oW T o g2, mO q (nI kp2_648) (nI n) r_654 (nI at_) isF op2_648, aW T 0 (q 1) 111 now2_648, aW T 0 (q 2) 111 thn, aW T 0 (q 3) 666 past2_648, aW T 0 (q 4) 60 f, aW T 0 (q 5) 27 told, aW T 0 (q 6) 3 wh2_648, w2]) _ := flP_sub hP9 [3, 4, 5, 0, 6, 1, 2, 7, 8] rfl
    have hD14 : va_D A (fl [oW T o g2, mO q (nI kp2_648) (nI n) r_654 (nI at_) isF op2_648, aW T 0 (q 1) 111 now2_648, aW T 0 (q 2) 111 thn, aW T 0 (q 3) 666 past2_648, aW T 0 (q 4) 60 f, aW T 0 (q 5) 27 told, aW T 0 (q 6) 3 wh2_648, w2]) := flD_sub hD9 [3, 4, 5, 0, 6, 1, 2, 7, 8] (by decide) rfl
    have hS14 := hS9
    clear hP9 hS9 hD9
    refine W.widen (k := 160 + 3 * k + 3) (n := 2200 + 18 * k + 18) (by omega) (by omega) ?_
    exact KK w2 g2 r_654 at_ isF op2_648 thn told wh2_648 now2_648 past2_648 f kp2_648 n hI2 _ _ hP14 hD14 hS14 _ (lv_sub hl7 [2, 3, 4, 5, 6] rfl)
set_option maxHeartbeats 4000000 in
set_option maxRecDepth 100000 in
theorem law_append {pX : Program} {l : Launch} {eX : Env} {sX : State} {mX : MethodId} {bX : List Frame} {mtX : Method} {cX : Code} {D : va_G} {T : TI} {A : Nat → Prop} {b L : Nat} {xs : Nat → Int32} {xa o : Nat} {q : Nat → Nat} {TG : State → Prop} (hCX : LCX pX l sX mX cX D T A b L xs) (k : Nat) (hk : 3 * k + 3 ≤ L) (KK : LWP pX l eX sX mX bX mtX cX D T A b xa o q TG (96 * k + 96) (160 + 3 * k + 3) (2200 + 18 * k + 18) k 1363) : LWP pX l eX sX mX bX mtX cX D T A b xa o q TG (96 * k) (160 + 3 * k) (2200 + 18 * k) k 684 := by
  obtain ⟨hx, hb, hml, hown, hts, hXs0, hls0, hns0, hK, hST, hA, hl, hL15⟩ := hCX
  intro w g th at_ isF op thn told wh mm past f kp n hI H0 locs0 hP0 hD0 hS0 ls0 hl0
  obtain ⟨hokS, hkp6, hn60⟩ := hI.okS
  refine lv_aload_n hx hb dL_law_684 rfl (lv_at hl0 1 rfl) ?_
  refine lv_aload_n hx hb dL_law_685 rfl (lv_at hl0 0 rfl) ?_
  refine lv_iload hx hb dL_law_686 (lv_at hl0 4 rfl) ?_
  refine lv_iconst (v := nI 1) hx hb dL_law_688 (by decide) ?_
  refine lv_iadd hx hb dL_law_689 ?_
  refine tp_i (y := nI (3 * k + 1)) (nI_add _ _) ?_
  refine r_sld hx hb hXs0 hls0 hns0 hS0 (3 * k + 1) dL_law_690 (by omega) ?_
  refine lv_aload_n hx hb dL_law_691 rfl (lv_at hl0 3 rfl) ?_
  have hPc1 : va_P D vwCl (fl [oW T o g, w]) _ := flP_sub hP0 [0, 8] rfl
  have hDc1 : va_D A (fl [oW T o g, w]) := flD_sub hD0 [0, 8] (by decide) rfl
  refine clx_i (br := [mO q (nI kp) (nI n) th (nI at_) isF op, aW T 0 (q 1) 111 mm, aW T 0 (q 2) 111 thn, aW T 0 (q 3) 666 past, aW T 0 (q 4) 60 f, aW T 0 (q 5) 27 told, aW T 0 (q 6) 3 wh]) (vx_runSX (As := [.ref xa, .int (xs (3 * k + 1)), .ref o]) (rest := []) ⟨hx, hb, hml, hown, hts⟩ (c_L_append l D T hl hI (by omega) o g (xs (3 * k + 1)) _) (mkSW (n := 3) hts kcw_append kw_0 kw_582 kw_583 ⟨by decide, by decide⟩ (by decide +kernel) ⟨rfl, rfl, Nat.le_of_ble_eq_true rfl, Nat.le_of_ble_eq_true rfl⟩) (ps_x hK hST hS0 hPc1 hDc1 (vA_c (br := [mO q (nI kp) (nI n) th (nI at_) isF op, aW T 0 (q 1) 111 mm, aW T 0 (q 2) 111 thn, aW T 0 (q 3) 666 past, aW T 0 (q 4) 60 f, aW T 0 (q 5) 27 told, aW T 0 (q 6) 3 wh]) hP0 hD0 hS0 hA (isR := [1, 2, 3, 4, 5, 6, 7]) (isC := [0, 8]) rfl (by decide))) rfl rfl hl0.1 rfl (lv_room (Nat.le_of_ble_eq_true rfl)) dL_law_692 ⟨by show _ ≤ 604008; omega, by show _ ≤ 7284081; omega⟩) hP0 hD0 hS0 hA [1, 2, 3, 4, 5, 6, 7] [0, 8] rfl (by decide) (fun E ce q9 _ux Hx lx hqx hPx hDx hSx h1 h2 h3 => absurd hqx (by simp)) (fun r_w u_w H2 locs2 hw hP2 hD2 hS2 => ?_)
  clear hP0 hD0 hS0 hPc1 hDc1
  obtain ⟨w2, g2⟩ := u_w
  have hP2 : va_P D vwCl (fl [mO q (nI kp) (nI n) th (nI at_) isF op, aW T 0 (q 1) 111 mm, aW T 0 (q 2) 111 thn, aW T 0 (q 3) 666 past, aW T 0 (q 4) 60 f, aW T 0 (q 5) 27 told, aW T 0 (q 6) 3 wh, oW T o g2, w2]) _ := hP2
  have hD2 : va_D A (fl [mO q (nI kp) (nI n) th (nI at_) isF op, aW T 0 (q 1) 111 mm, aW T 0 (q 2) 111 thn, aW T 0 (q 3) 666 past, aW T 0 (q 4) 60 f, aW T 0 (q 5) 27 told, aW T 0 (q 6) 3 wh, oW T o g2, w2]) := hD2
  refine lv_istore (lv' := [(5, .int r_w), (0, .ref b), (1, .ref xa), (2, .ref (q 0)), (3, .ref o), (4, .int (nI (3 * k)))]) hx hb dL_law_695 hl0 (by decide) rfl (fun ls3 hl3 => ?_)
  clear hl0
  refine lv_aload_n hx hb dL_law_697 rfl (lv_at hl3 3 rfl) ?_
  refine lv_aload_n hx hb dL_law_698 rfl (lv_at hl3 1 rfl) ?_
  refine lv_iload hx hb dL_law_699 (lv_at hl3 5 rfl) ?_
  refine lv_iconst (v := nI 1) hx hb dL_law_701 (by decide) ?_
  refine lv_iadd hx hb dL_law_702 ?_
  refine tp_i (y := nI (3 * k + 1)) (nI_add _ _) ?_
  refine r_sld hx hb hXs0 hls0 hns0 hS2 (3 * k + 1) dL_law_703 (by omega) ?_
  have hPc4 : va_P D vwCl (fl [mO q (nI kp) (nI n) th (nI at_) isF op, aW T 0 (q 1) 111 mm, aW T 0 (q 2) 111 thn, aW T 0 (q 3) 666 past, aW T 0 (q 4) 60 f, aW T 0 (q 5) 27 told, aW T 0 (q 6) 3 wh]) _ := flP_sub hP2 [0, 1, 2, 3, 4, 5, 6] rfl
  have hDc4 : va_D A (fl [mO q (nI kp) (nI n) th (nI at_) isF op, aW T 0 (q 1) 111 mm, aW T 0 (q 2) 111 thn, aW T 0 (q 3) 666 past, aW T 0 (q 4) 60 f, aW T 0 (q 5) 27 told, aW T 0 (q 6) 3 wh]) := flD_sub hD2 [0, 1, 2, 3, 4, 5, 6] (by decide) rfl
  refine cl_i (br := [oW T o g2, w2]) (va_runV (As := [.int (xs (3 * k + 1))]) (rest := []) ⟨hx, hb, hml, hown, hts⟩ (c_X6_append l D T q kp n th at_ isF op mm thn past f told wh (xs (3 * k + 1)) (hn60) _) (mkV hts okX6_append kw_809 kw_810 kw_811 ⟨rfl, rfl, Nat.le_of_ble_eq_true rfl, Nat.le_of_ble_eq_true rfl⟩) (pv_rw hK hPc4 hDc4 (q0 := 0) rfl rfl rfl) rfl rfl hl3.1 rfl (lv_room (Nat.le_of_ble_eq_true rfl)) dL_law_704 ⟨by show _ ≤ 604008; omega, by show _ ≤ 7284081; omega⟩) hP2 hD2 hS2 hA [7, 8] [0, 1, 2, 3, 4, 5, 6] rfl (by decide) (fun r_704 u_704 H5 locs5 hq_704 hP5 hD5 hS5 => ?_)
  clear hP2 hD2 hS2 hPc4 hDc4
  obtain ⟨th2_704, ty2_704, txt2_704⟩ := u_704
  have hP5 : va_P D vwCl (fl [oW T o g2, w2, mO q (nI kp) (nI ty2_704) th2_704 (nI at_) isF op, aW T 0 (q 1) 111 mm, aW T 0 (q 2) 111 thn, aW T 0 (q 3) 666 past, aW T 0 (q 4) 60 txt2_704, aW T 0 (q 5) 27 told, aW T 0 (q 6) 3 wh]) _ := hP5
  have hD5 : va_D A (fl [oW T o g2, w2, mO q (nI kp) (nI ty2_704) th2_704 (nI at_) isF op, aW T 0 (q 1) 111 mm, aW T 0 (q 2) 111 thn, aW T 0 (q 3) 666 past, aW T 0 (q 4) 60 txt2_704, aW T 0 (q 5) 27 told, aW T 0 (q 6) 3 wh]) := hD5
  have hq_704 : (r_704, th2_704, ty2_704, txt2_704) = appendP (xs (3 * k + 1)) n f := hq_704
  have hP6 : va_P D vwCl (fl [oW T o g2, mO q (nI kp) (nI ty2_704) th2_704 (nI at_) isF op, aW T 0 (q 1) 111 mm, aW T 0 (q 2) 111 thn, aW T 0 (q 3) 666 past, aW T 0 (q 4) 60 txt2_704, aW T 0 (q 5) 27 told, aW T 0 (q 6) 3 wh, w2]) _ := flP_sub hP5 [0, 2, 3, 4, 5, 6, 7, 8, 1] rfl
  have hD6 : va_D A (fl [oW T o g2, mO q (nI kp) (nI ty2_704) th2_704 (nI at_) isF op, aW T 0 (q 1) 111 mm, aW T 0 (q 2) 111 thn, aW T 0 (q 3) 666 past, aW T 0 (q 4) 60 txt2_704, aW T 0 (q 5) 27 told, aW T 0 (q 6) 3 wh, w2]) := flD_sub hD5 [0, 2, 3, 4, 5, 6, 7, 8, 1] (by decide) rfl
  have hS6 := hS5
  clear hP5 hS5 hD5
  rw [← hq_704] at hw
  have hw1 : r_w = th2_704 := hw.1
  have hw2 : r_w = nI 0 → g2 0 = r_704.toInt64 := hw.2.1
  have hI2 : XINV T xa w2 mm past kp txt2_704 ty2_704 (96 * k + 96) := hw.2.2
  refine lv_istore (lv' := [(6, .int r_704), (5, .int r_w), (0, .ref b), (1, .ref xa), (2, .ref (q 0)), (3, .ref o), (4, .int (nI (3 * k)))]) hx hb dL_law_707 hl3 (by decide) rfl (fun ls7 hl7 => ?_)
  clear hl3
  refine lv_aload_n hx hb dL_law_709 rfl (lv_at hl7 4 rfl) ?_
  have hPc8 : va_P D vwCl (fl [mO q (nI kp) (nI ty2_704) th2_704 (nI at_) isF op]) _ := hP6.sub [1] rfl
  refine cr_i (va_runV (As := []) (rest := []) ⟨hx, hb, hml, hown, hts⟩ (c_X6_thrown l D T q kp ty2_704 th2_704 at_ isF op ) (mkV hts okX6_thrown kw_707 kw_708 kw_709 ⟨rfl, rfl, Nat.le_of_ble_eq_true rfl, Nat.le_of_ble_eq_true rfl⟩) (pv_ro hK hPc8 (q0 := 0) rfl rfl rfl) rfl rfl hl7.1 rfl (lv_room (Nat.le_of_ble_eq_true rfl)) dL_law_710 ⟨by show _ ≤ 604008; omega, by show _ ≤ 7284081; omega⟩) hP6 hS6 (fun r_710 H9 locs9 hq_710 hP9 hS9 => ?_)
  clear hP6 hS6 hPc8
  have hD9 := hD6
  clear hD6
  have hq_710 : r_710 = th2_704 := hq_710
  subst hq_710
  refine lv_iload hx hb dL_law_713 (lv_at hl7 1 rfl) ?_
  refine lv_icmp_eq (tgt := 720) hx hb dL_law_715 (by decide) (fun c10 => ?_) (fun c10 => absurd (hw1.symm) c10)
  refine lv_iload hx hb dL_law_720 (lv_at hl7 1 rfl) ?_
  refine lv_if_ne (tgt := 737) hx hb dL_law_722 (by decide) (fun c_722 => ?_) (fun c_722 => ?_)
  · skip
    refine lv_goto (tgt := 1363) hx hb dL_law_737 (by decide) ?_
    refine W.widen (k := 160 + 3 * k + 3) (n := 2200 + 18 * k + 18) (by omega) (by omega) ?_
    exact KK w2 g2 r_710 at_ isF op thn told wh mm past txt2_704 kp ty2_704 hI2 _ _ hP9 hD9 hS9 _ (lv_sub hl7 [2, 3, 4, 5, 6] rfl)
  · skip
    refine lv_aload_n hx hb dL_law_725 rfl (lv_at hl7 5 rfl) ?_
    refine lv_iconst (v := nI 0) hx hb dL_law_726 (by decide) ?_
    refine r_lald hx hb hK hP9 0 (f := g2) rfl 0 (by decide) dL_law_727 (by decide) ?_
    refine lv_iload hx hb dL_law_728 (lv_at hl7 0 rfl) ?_
    refine lv_i2l hx hb dL_law_730 rfl ?_
    refine W.lcmp hx hb dL_law_731 ?_
    refine tp_i (y := nI 0) (by rw [hw2 c_722]; exact lgc_self _) ?_
    refine n_if_eq (tgt := 737) hx hb (by omega) dL_law_732 (by decide) (fun c12 => ?_) (fun c12 => absurd (by decide) c12)
    refine lv_goto (tgt := 1363) hx hb dL_law_737 (by decide) ?_
    refine W.widen (k := 160 + 3 * k + 3) (n := 2200 + 18 * k + 18) (by omega) (by omega) ?_
    exact KK w2 g2 r_710 at_ isF op thn told wh mm past txt2_704 kp ty2_704 hI2 _ _ hP9 hD9 hS9 _ (lv_sub hl7 [2, 3, 4, 5, 6] rfl)
set_option maxHeartbeats 4000000 in
set_option maxRecDepth 100000 in
theorem law_undo {pX : Program} {l : Launch} {eX : Env} {sX : State} {mX : MethodId} {bX : List Frame} {mtX : Method} {cX : Code} {D : va_G} {T : TI} {A : Nat → Prop} {b L : Nat} {xs : Nat → Int32} {xa o : Nat} {q : Nat → Nat} {TG : State → Prop} (hCX : LCX pX l sX mX cX D T A b L xs) (k : Nat) (hk : 3 * k + 3 ≤ L) (KK : LWP pX l eX sX mX bX mtX cX D T A b xa o q TG (96 * k + 96) (160 + 3 * k + 3) (2200 + 18 * k + 18) k 1363) : LWP pX l eX sX mX bX mtX cX D T A b xa o q TG (96 * k) (160 + 3 * k) (2200 + 18 * k) k 810 := by
  obtain ⟨hx, hb, hml, hown, hts, hXs0, hls0, hns0, hK, hST, hA, hl, hL15⟩ := hCX
  intro w g th at_ isF op thn told wh mm past f kp n hI H0 locs0 hP0 hD0 hS0 ls0 hl0
  obtain ⟨hokS, hkp6, hn60⟩ := hI.okS
  refine lv_aload_n hx hb dL_law_810 rfl (lv_at hl0 1 rfl) ?_
  refine lv_aload_n hx hb dL_law_811 rfl (lv_at hl0 3 rfl) ?_
  have hPc1 : va_P D vwCl (fl [oW T o g, w]) _ := flP_sub hP0 [0, 8] rfl
  have hDc1 : va_D A (fl [oW T o g, w]) := flD_sub hD0 [0, 8] (by decide) rfl
  refine clx_i (br := [mO q (nI kp) (nI n) th (nI at_) isF op, aW T 0 (q 1) 111 mm, aW T 0 (q 2) 111 thn, aW T 0 (q 3) 666 past, aW T 0 (q 4) 60 f, aW T 0 (q 5) 27 told, aW T 0 (q 6) 3 wh]) (vx_runSX (As := [.ref xa, .ref o]) (rest := []) ⟨hx, hb, hml, hown, hts⟩ (c_L_undo l D T hl hI (by omega) o g  _) (mkSW (n := 2) hts kcw_undo kw_0 kw_617 kw_618 ⟨by decide, by decide⟩ (by decide +kernel) ⟨rfl, rfl, Nat.le_of_ble_eq_true rfl, Nat.le_of_ble_eq_true rfl⟩) (ps_x hK hST hS0 hPc1 hDc1 (vA_c (br := [mO q (nI kp) (nI n) th (nI at_) isF op, aW T 0 (q 1) 111 mm, aW T 0 (q 2) 111 thn, aW T 0 (q 3) 666 past, aW T 0 (q 4) 60 f, aW T 0 (q 5) 27 told, aW T 0 (q 6) 3 wh]) hP0 hD0 hS0 hA (isR := [1, 2, 3, 4, 5, 6, 7]) (isC := [0, 8]) rfl (by decide))) rfl rfl hl0.1 rfl (lv_room (Nat.le_of_ble_eq_true rfl)) dL_law_812 ⟨by show _ ≤ 604008; omega, by show _ ≤ 7284081; omega⟩) hP0 hD0 hS0 hA [1, 2, 3, 4, 5, 6, 7] [0, 8] rfl (by decide) (fun E ce q9 _ux Hx lx hqx hPx hDx hSx h1 h2 h3 => absurd hqx (by simp)) (fun r_w u_w H2 locs2 hw hP2 hD2 hS2 => ?_)
  clear hP0 hD0 hS0 hPc1 hDc1
  obtain ⟨w2, g2⟩ := u_w
  have hP2 : va_P D vwCl (fl [mO q (nI kp) (nI n) th (nI at_) isF op, aW T 0 (q 1) 111 mm, aW T 0 (q 2) 111 thn, aW T 0 (q 3) 666 past, aW T 0 (q 4) 60 f, aW T 0 (q 5) 27 told, aW T 0 (q 6) 3 wh, oW T o g2, w2]) _ := hP2
  have hD2 : va_D A (fl [mO q (nI kp) (nI n) th (nI at_) isF op, aW T 0 (q 1) 111 mm, aW T 0 (q 2) 111 thn, aW T 0 (q 3) 666 past, aW T 0 (q 4) 60 f, aW T 0 (q 5) 27 told, aW T 0 (q 6) 3 wh, oW T o g2, w2]) := hD2
  refine lv_istore (lv' := [(5, .int r_w), (0, .ref b), (1, .ref xa), (2, .ref (q 0)), (3, .ref o), (4, .int (nI (3 * k)))]) hx hb dL_law_815 hl0 (by decide) rfl (fun ls3 hl3 => ?_)
  clear hl0
  refine lv_aload_n hx hb dL_law_817 rfl (lv_at hl3 3 rfl) ?_
  have hPc4 : va_P D vwCl (fl [mO q (nI kp) (nI n) th (nI at_) isF op, aW T 0 (q 1) 111 mm, aW T 0 (q 2) 111 thn, aW T 0 (q 3) 666 past, aW T 0 (q 4) 60 f, aW T 0 (q 5) 27 told, aW T 0 (q 6) 3 wh]) _ := flP_sub hP2 [0, 1, 2, 3, 4, 5, 6] rfl
  have hDc4 : va_D A (fl [mO q (nI kp) (nI n) th (nI at_) isF op, aW T 0 (q 1) 111 mm, aW T 0 (q 2) 111 thn, aW T 0 (q 3) 666 past, aW T 0 (q 4) 60 f, aW T 0 (q 5) 27 told, aW T 0 (q 6) 3 wh]) := flD_sub hD2 [0, 1, 2, 3, 4, 5, 6] (by decide) rfl
  refine cl_i (br := [oW T o g2, w2]) (va_runV (As := []) (rest := []) ⟨hx, hb, hml, hown, hts⟩ (c_X6_undo l D T q kp n th at_ isF op mm thn past f told wh (hkp6) _) (mkV hts okX6_undo kw_711 kw_712 kw_713 ⟨rfl, rfl, Nat.le_of_ble_eq_true rfl, Nat.le_of_ble_eq_true rfl⟩) (pv_rw hK hPc4 hDc4 (q0 := 0) rfl rfl rfl) rfl rfl hl3.1 rfl (lv_room (Nat.le_of_ble_eq_true rfl)) dL_law_818 ⟨by show _ ≤ 604008; omega, by show _ ≤ 7284081; omega⟩) hP2 hD2 hS2 hA [7, 8] [0, 1, 2, 3, 4, 5, 6] rfl (by decide) (fun r_818 u_818 H5 locs5 hq_818 hP5 hD5 hS5 => ?_)
  clear hP2 hD2 hS2 hPc4 hDc4
  obtain ⟨th2_818, now2_818, past2_818, kp2_818⟩ := u_818
  have hP5 : va_P D vwCl (fl [oW T o g2, w2, mO q (nI kp2_818) (nI n) th2_818 (nI at_) isF op, aW T 0 (q 1) 111 now2_818, aW T 0 (q 2) 111 thn, aW T 0 (q 3) 666 past2_818, aW T 0 (q 4) 60 f, aW T 0 (q 5) 27 told, aW T 0 (q 6) 3 wh]) _ := hP5
  have hD5 : va_D A (fl [oW T o g2, w2, mO q (nI kp2_818) (nI n) th2_818 (nI at_) isF op, aW T 0 (q 1) 111 now2_818, aW T 0 (q 2) 111 thn, aW T 0 (q 3) 666 past2_818, aW T 0 (q 4) 60 f, aW T 0 (q 5) 27 told, aW T 0 (q 6) 3 wh]) := hD5
  have hq_818 : (r_818, th2_818, now2_818, past2_818, kp2_818) = undoP mm past kp := hq_818
  have hP6 : va_P D vwCl (fl [oW T o g2, mO q (nI kp2_818) (nI n) th2_818 (nI at_) isF op, aW T 0 (q 1) 111 now2_818, aW T 0 (q 2) 111 thn, aW T 0 (q 3) 666 past2_818, aW T 0 (q 4) 60 f, aW T 0 (q 5) 27 told, aW T 0 (q 6) 3 wh, w2]) _ := flP_sub hP5 [0, 2, 3, 4, 5, 6, 7, 8, 1] rfl
  have hD6 : va_D A (fl [oW T o g2, mO q (nI kp2_818) (nI n) th2_818 (nI at_) isF op, aW T 0 (q 1) 111 now2_818, aW T 0 (q 2) 111 thn, aW T 0 (q 3) 666 past2_818, aW T 0 (q 4) 60 f, aW T 0 (q 5) 27 told, aW T 0 (q 6) 3 wh, w2]) := flD_sub hD5 [0, 2, 3, 4, 5, 6, 7, 8, 1] (by decide) rfl
  have hS6 := hS5
  clear hP5 hS5 hD5
  rw [← hq_818] at hw
  have hw1 : r_w = th2_818 := hw.1
  have hw2 : r_w = nI 0 → g2 0 = r_818.toInt64 := hw.2.1
  have hI2 : XINV T xa w2 now2_818 past2_818 kp2_818 f n (96 * k + 96) := hw.2.2
  refine lv_istore (lv' := [(6, .int r_818), (5, .int r_w), (0, .ref b), (1, .ref xa), (2, .ref (q 0)), (3, .ref o), (4, .int (nI (3 * k)))]) hx hb dL_law_821 hl3 (by decide) rfl (fun ls7 hl7 => ?_)
  clear hl3
  refine lv_aload_n hx hb dL_law_823 rfl (lv_at hl7 4 rfl) ?_
  have hPc8 : va_P D vwCl (fl [mO q (nI kp2_818) (nI n) th2_818 (nI at_) isF op]) _ := hP6.sub [1] rfl
  refine cr_i (va_runV (As := []) (rest := []) ⟨hx, hb, hml, hown, hts⟩ (c_X6_thrown l D T q kp2_818 n th2_818 at_ isF op ) (mkV hts okX6_thrown kw_707 kw_708 kw_709 ⟨rfl, rfl, Nat.le_of_ble_eq_true rfl, Nat.le_of_ble_eq_true rfl⟩) (pv_ro hK hPc8 (q0 := 0) rfl rfl rfl) rfl rfl hl7.1 rfl (lv_room (Nat.le_of_ble_eq_true rfl)) dL_law_824 ⟨by show _ ≤ 604008; omega, by show _ ≤ 7284081; omega⟩) hP6 hS6 (fun r_824 H9 locs9 hq_824 hP9 hS9 => ?_)
  clear hP6 hS6 hPc8
  have hD9 := hD6
  clear hD6
  have hq_824 : r_824 = th2_818 := hq_824
  subst hq_824
  refine lv_iload hx hb dL_law_827 (lv_at hl7 1 rfl) ?_
  refine lv_icmp_eq (tgt := 834) hx hb dL_law_829 (by decide) (fun c10 => ?_) (fun c10 => absurd (hw1.symm) c10)
  refine lv_iload hx hb dL_law_834 (lv_at hl7 1 rfl) ?_
  refine lv_if_ne (tgt := 851) hx hb dL_law_836 (by decide) (fun c_836 => ?_) (fun c_836 => ?_)
  · skip
    refine lv_goto (tgt := 1363) hx hb dL_law_851 (by decide) ?_
    refine W.widen (k := 160 + 3 * k + 3) (n := 2200 + 18 * k + 18) (by omega) (by omega) ?_
    exact KK w2 g2 r_824 at_ isF op thn told wh now2_818 past2_818 f kp2_818 n hI2 _ _ hP9 hD9 hS9 _ (lv_sub hl7 [2, 3, 4, 5, 6] rfl)
  · skip
    refine lv_aload_n hx hb dL_law_839 rfl (lv_at hl7 5 rfl) ?_
    refine lv_iconst (v := nI 0) hx hb dL_law_840 (by decide) ?_
    refine r_lald hx hb hK hP9 0 (f := g2) rfl 0 (by decide) dL_law_841 (by decide) ?_
    refine lv_iload hx hb dL_law_842 (lv_at hl7 0 rfl) ?_
    refine lv_i2l hx hb dL_law_844 rfl ?_
    refine W.lcmp hx hb dL_law_845 ?_
    refine tp_i (y := nI 0) (by rw [hw2 c_836]; exact lgc_self _) ?_
    refine n_if_eq (tgt := 851) hx hb (by omega) dL_law_846 (by decide) (fun c12 => ?_) (fun c12 => absurd (by decide) c12)
    refine lv_goto (tgt := 1363) hx hb dL_law_851 (by decide) ?_
    refine W.widen (k := 160 + 3 * k + 3) (n := 2200 + 18 * k + 18) (by omega) (by omega) ?_
    exact KK w2 g2 r_824 at_ isF op thn told wh now2_818 past2_818 f kp2_818 n hI2 _ _ hP9 hD9 hS9 _ (lv_sub hl7 [2, 3, 4, 5, 6] rfl)
set_option maxHeartbeats 4000000 in
set_option maxRecDepth 100000 in
theorem law_street {pX : Program} {l : Launch} {eX : Env} {sX : State} {mX : MethodId} {bX : List Frame} {mtX : Method} {cX : Code} {D : va_G} {T : TI} {A : Nat → Prop} {b L : Nat} {xs : Nat → Int32} {xa o : Nat} {q : Nat → Nat} {TG : State → Prop} (hCX : LCX pX l sX mX cX D T A b L xs) (k : Nat) (hk : 3 * k + 3 ≤ L) (KK : LWP pX l eX sX mX bX mtX cX D T A b xa o q TG (96 * k + 96) (160 + 3 * k + 3) (2200 + 18 * k + 18) k 1363) : LWP pX l eX sX mX bX mtX cX D T A b xa o q TG (96 * k) (160 + 3 * k) (2200 + 18 * k) k 854 := by
  obtain ⟨hx, hb, hml, hown, hts, hXs0, hls0, hns0, hK, hST, hA, hl, hL15⟩ := hCX
  intro w g th at_ isF op thn told wh mm past f kp n hI H0 locs0 hP0 hD0 hS0 ls0 hl0
  obtain ⟨hokS, hkp6, hn60⟩ := hI.okS
  refine lv_aload_n hx hb dL_law_854 rfl (lv_at hl0 1 rfl) ?_
  refine lv_aload_n hx hb dL_law_855 rfl (lv_at hl0 0 rfl) ?_
  refine lv_iload hx hb dL_law_856 (lv_at hl0 4 rfl) ?_
  refine lv_iconst (v := nI 1) hx hb dL_law_858 (by decide) ?_
  refine lv_iadd hx hb dL_law_859 ?_
  refine tp_i (y := nI (3 * k + 1)) (nI_add _ _) ?_
  refine r_sld hx hb hXs0 hls0 hns0 hS0 (3 * k + 1) dL_law_860 (by omega) ?_
  refine lv_aload_n hx hb dL_law_861 rfl (lv_at hl0 0 rfl) ?_
  refine lv_iload hx hb dL_law_862 (lv_at hl0 4 rfl) ?_
  refine lv_iconst (v := nI 2) hx hb dL_law_864 (by decide) ?_
  refine lv_iadd hx hb dL_law_865 ?_
  refine tp_i (y := nI (3 * k + 2)) (nI_add _ _) ?_
  refine r_sld hx hb hXs0 hls0 hns0 hS0 (3 * k + 2) dL_law_866 (by omega) ?_
  refine lv_aload_n hx hb dL_law_867 rfl (lv_at hl0 3 rfl) ?_
  have hPc1 : va_P D vwCl (fl [oW T o g, w]) _ := flP_sub hP0 [0, 8] rfl
  have hDc1 : va_D A (fl [oW T o g, w]) := flD_sub hD0 [0, 8] (by decide) rfl
  refine clx_i (br := [mO q (nI kp) (nI n) th (nI at_) isF op, aW T 0 (q 1) 111 mm, aW T 0 (q 2) 111 thn, aW T 0 (q 3) 666 past, aW T 0 (q 4) 60 f, aW T 0 (q 5) 27 told, aW T 0 (q 6) 3 wh]) (vx_runSX (As := [.ref xa, .int (xs (3 * k + 1)), .int (xs (3 * k + 2)), .ref o]) (rest := []) ⟨hx, hb, hml, hown, hts⟩ (c_L_street l D T hl hI (by omega) o g (xs (3 * k + 1)) (xs (3 * k + 2)) _) (mkSW (n := 4) hts kcw_street kw_0 kw_629 kw_630 ⟨by decide, by decide⟩ (by decide +kernel) ⟨rfl, rfl, Nat.le_of_ble_eq_true rfl, Nat.le_of_ble_eq_true rfl⟩) (ps_x hK hST hS0 hPc1 hDc1 (vA_c (br := [mO q (nI kp) (nI n) th (nI at_) isF op, aW T 0 (q 1) 111 mm, aW T 0 (q 2) 111 thn, aW T 0 (q 3) 666 past, aW T 0 (q 4) 60 f, aW T 0 (q 5) 27 told, aW T 0 (q 6) 3 wh]) hP0 hD0 hS0 hA (isR := [1, 2, 3, 4, 5, 6, 7]) (isC := [0, 8]) rfl (by decide))) rfl rfl hl0.1 rfl (lv_room (Nat.le_of_ble_eq_true rfl)) dL_law_868 ⟨by show _ ≤ 604008; omega, by show _ ≤ 7284081; omega⟩) hP0 hD0 hS0 hA [1, 2, 3, 4, 5, 6, 7] [0, 8] rfl (by decide) (fun E ce q9 _ux Hx lx hqx hPx hDx hSx h1 h2 h3 => absurd hqx (by simp)) (fun r_w u_w H2 locs2 hw hP2 hD2 hS2 => ?_)
  clear hP0 hD0 hS0 hPc1 hDc1
  obtain ⟨w2, g2⟩ := u_w
  have hP2 : va_P D vwCl (fl [mO q (nI kp) (nI n) th (nI at_) isF op, aW T 0 (q 1) 111 mm, aW T 0 (q 2) 111 thn, aW T 0 (q 3) 666 past, aW T 0 (q 4) 60 f, aW T 0 (q 5) 27 told, aW T 0 (q 6) 3 wh, oW T o g2, w2]) _ := hP2
  have hD2 : va_D A (fl [mO q (nI kp) (nI n) th (nI at_) isF op, aW T 0 (q 1) 111 mm, aW T 0 (q 2) 111 thn, aW T 0 (q 3) 666 past, aW T 0 (q 4) 60 f, aW T 0 (q 5) 27 told, aW T 0 (q 6) 3 wh, oW T o g2, w2]) := hD2
  refine lv_istore (lv' := [(5, .int r_w), (0, .ref b), (1, .ref xa), (2, .ref (q 0)), (3, .ref o), (4, .int (nI (3 * k)))]) hx hb dL_law_871 hl0 (by decide) rfl (fun ls3 hl3 => ?_)
  clear hl0
  refine lv_aload_n hx hb dL_law_873 rfl (lv_at hl3 3 rfl) ?_
  refine lv_aload_n hx hb dL_law_874 rfl (lv_at hl3 1 rfl) ?_
  refine lv_iload hx hb dL_law_875 (lv_at hl3 5 rfl) ?_
  refine lv_iconst (v := nI 1) hx hb dL_law_877 (by decide) ?_
  refine lv_iadd hx hb dL_law_878 ?_
  refine tp_i (y := nI (3 * k + 1)) (nI_add _ _) ?_
  refine r_sld hx hb hXs0 hls0 hns0 hS2 (3 * k + 1) dL_law_879 (by omega) ?_
  refine lv_aload_n hx hb dL_law_880 rfl (lv_at hl3 1 rfl) ?_
  refine lv_iload hx hb dL_law_881 (lv_at hl3 5 rfl) ?_
  refine lv_iconst (v := nI 2) hx hb dL_law_883 (by decide) ?_
  refine lv_iadd hx hb dL_law_884 ?_
  refine tp_i (y := nI (3 * k + 2)) (nI_add _ _) ?_
  refine r_sld hx hb hXs0 hls0 hns0 hS2 (3 * k + 2) dL_law_885 (by omega) ?_
  have hPc4 : va_P D vwCl (fl [mO q (nI kp) (nI n) th (nI at_) isF op, aW T 0 (q 1) 111 mm]) _ := flP_sub hP2 [0, 1] rfl
  have hDc4 : va_D A (fl [mO q (nI kp) (nI n) th (nI at_) isF op, aW T 0 (q 1) 111 mm]) := flD_sub hD2 [0, 1] (by decide) rfl
  refine cl_i (br := [aW T 0 (q 2) 111 thn, aW T 0 (q 3) 666 past, aW T 0 (q 4) 60 f, aW T 0 (q 5) 27 told, aW T 0 (q 6) 3 wh, oW T o g2, w2]) (va_runV (As := [.int (xs (3 * k + 1)), .int (xs (3 * k + 2))]) (rest := []) ⟨hx, hb, hml, hown, hts⟩ (c_X6_street l D T q kp n th at_ isF op mm (xs (3 * k + 1)) (xs (3 * k + 2))  _) (mkV hts okX6_street kw_844 kw_845 kw_846 ⟨rfl, rfl, Nat.le_of_ble_eq_true rfl, Nat.le_of_ble_eq_true rfl⟩) (pv_rw hK hPc4 hDc4 (q0 := 0) rfl rfl rfl) rfl rfl hl3.1 rfl (lv_room (Nat.le_of_ble_eq_true rfl)) dL_law_886 ⟨by show _ ≤ 604008; omega, by show _ ≤ 7284081; omega⟩) hP2 hD2 hS2 hA [2, 3, 4, 5, 6, 7, 8] [0, 1] rfl (by decide) (fun r_886 th2_886 H5 locs5 hq_886 hP5 hD5 hS5 => ?_)
  clear hP2 hD2 hS2 hPc4 hDc4
  have hP5 : va_P D vwCl (fl [aW T 0 (q 2) 111 thn, aW T 0 (q 3) 666 past, aW T 0 (q 4) 60 f, aW T 0 (q 5) 27 told, aW T 0 (q 6) 3 wh, oW T o g2, w2, mO q (nI kp) (nI n) th2_886 (nI at_) isF op, aW T 0 (q 1) 111 mm]) _ := hP5
  have hD5 : va_D A (fl [aW T 0 (q 2) 111 thn, aW T 0 (q 3) 666 past, aW T 0 (q 4) 60 f, aW T 0 (q 5) 27 told, aW T 0 (q 6) 3 wh, oW T o g2, w2, mO q (nI kp) (nI n) th2_886 (nI at_) isF op, aW T 0 (q 1) 111 mm]) := hD5
  have hq_886 : (r_886, th2_886) = streetP (xs (3 * k + 1)) (xs (3 * k + 2)) mm := hq_886
  have hP6 : va_P D vwCl (fl [aW T 0 (q 2) 111 thn, aW T 0 (q 3) 666 past, aW T 0 (q 4) 60 f, aW T 0 (q 5) 27 told, aW T 0 (q 6) 3 wh, oW T o g2, mO q (nI kp) (nI n) th2_886 (nI at_) isF op, aW T 0 (q 1) 111 mm, w2]) _ := flP_sub hP5 [0, 1, 2, 3, 4, 5, 7, 8, 6] rfl
  have hD6 : va_D A (fl [aW T 0 (q 2) 111 thn, aW T 0 (q 3) 666 past, aW T 0 (q 4) 60 f, aW T 0 (q 5) 27 told, aW T 0 (q 6) 3 wh, oW T o g2, mO q (nI kp) (nI n) th2_886 (nI at_) isF op, aW T 0 (q 1) 111 mm, w2]) := flD_sub hD5 [0, 1, 2, 3, 4, 5, 7, 8, 6] (by decide) rfl
  have hS6 := hS5
  clear hP5 hS5 hD5
  rw [← hq_886] at hw
  have hw1 : r_w = th2_886 := hw.1
  have hw2 : r_w = nI 0 → g2 0 = r_886.toInt64 := hw.2.1
  have hI2 : XINV T xa w2 mm past kp f n (96 * k + 96) := hw.2.2
  refine lv_istore (lv' := [(6, .int r_886), (5, .int r_w), (0, .ref b), (1, .ref xa), (2, .ref (q 0)), (3, .ref o), (4, .int (nI (3 * k)))]) hx hb dL_law_889 hl3 (by decide) rfl (fun ls7 hl7 => ?_)
  clear hl3
  refine lv_aload_n hx hb dL_law_891 rfl (lv_at hl7 4 rfl) ?_
  have hPc8 : va_P D vwCl (fl [mO q (nI kp) (nI n) th2_886 (nI at_) isF op]) _ := hP6.sub [6] rfl
  refine cr_i (va_runV (As := []) (rest := []) ⟨hx, hb, hml, hown, hts⟩ (c_X6_thrown l D T q kp n th2_886 at_ isF op ) (mkV hts okX6_thrown kw_707 kw_708 kw_709 ⟨rfl, rfl, Nat.le_of_ble_eq_true rfl, Nat.le_of_ble_eq_true rfl⟩) (pv_ro hK hPc8 (q0 := 0) rfl rfl rfl) rfl rfl hl7.1 rfl (lv_room (Nat.le_of_ble_eq_true rfl)) dL_law_892 ⟨by show _ ≤ 604008; omega, by show _ ≤ 7284081; omega⟩) hP6 hS6 (fun r_892 H9 locs9 hq_892 hP9 hS9 => ?_)
  clear hP6 hS6 hPc8
  have hD9 := hD6
  clear hD6
  have hq_892 : r_892 = th2_886 := hq_892
  subst hq_892
  refine lv_iload hx hb dL_law_895 (lv_at hl7 1 rfl) ?_
  refine lv_icmp_eq (tgt := 902) hx hb dL_law_897 (by decide) (fun c10 => ?_) (fun c10 => absurd (hw1.symm) c10)
  refine lv_iload hx hb dL_law_902 (lv_at hl7 1 rfl) ?_
  refine lv_if_ne (tgt := 919) hx hb dL_law_904 (by decide) (fun c_904 => ?_) (fun c_904 => ?_)
  · skip
    refine lv_goto (tgt := 1363) hx hb dL_law_919 (by decide) ?_
    have hP12 : va_P D vwCl (fl [oW T o g2, mO q (nI kp) (nI n) r_892 (nI at_) isF op, aW T 0 (q 1) 111 mm, aW T 0 (q 2) 111 thn, aW T 0 (q 3) 666 past, aW T 0 (q 4) 60 f, aW T 0 (q 5) 27 told, aW T 0 (q 6) 3 wh, w2]) _ := flP_sub hP9 [5, 6, 7, 0, 1, 2, 3, 4, 8] rfl
    have hD12 : va_D A (fl [oW T o g2, mO q (nI kp) (nI n) r_892 (nI at_) isF op, aW T 0 (q 1) 111 mm, aW T 0 (q 2) 111 thn, aW T 0 (q 3) 666 past, aW T 0 (q 4) 60 f, aW T 0 (q 5) 27 told, aW T 0 (q 6) 3 wh, w2]) := flD_sub hD9 [5, 6, 7, 0, 1, 2, 3, 4, 8] (by decide) rfl
    have hS12 := hS9
    clear hP9 hS9 hD9
    refine W.widen (k := 160 + 3 * k + 3) (n := 2200 + 18 * k + 18) (by omega) (by omega) ?_
    exact KK w2 g2 r_892 at_ isF op thn told wh mm past f kp n hI2 _ _ hP12 hD12 hS12 _ (lv_sub hl7 [2, 3, 4, 5, 6] rfl)
  · skip
    refine lv_aload_n hx hb dL_law_907 rfl (lv_at hl7 5 rfl) ?_
    refine lv_iconst (v := nI 0) hx hb dL_law_908 (by decide) ?_
    refine r_lald hx hb hK hP9 5 (f := g2) rfl 0 (by decide) dL_law_909 (by decide) ?_
    refine lv_iload hx hb dL_law_910 (lv_at hl7 0 rfl) ?_
    refine lv_i2l hx hb dL_law_912 rfl ?_
    refine W.lcmp hx hb dL_law_913 ?_
    refine tp_i (y := nI 0) (by rw [hw2 c_904]; exact lgc_self _) ?_
    refine n_if_eq (tgt := 919) hx hb (by omega) dL_law_914 (by decide) (fun c13 => ?_) (fun c13 => absurd (by decide) c13)
    refine lv_goto (tgt := 1363) hx hb dL_law_919 (by decide) ?_
    have hP14 : va_P D vwCl (fl [oW T o g2, mO q (nI kp) (nI n) r_892 (nI at_) isF op, aW T 0 (q 1) 111 mm, aW T 0 (q 2) 111 thn, aW T 0 (q 3) 666 past, aW T 0 (q 4) 60 f, aW T 0 (q 5) 27 told, aW T 0 (q 6) 3 wh, w2]) _ := flP_sub hP9 [5, 6, 7, 0, 1, 2, 3, 4, 8] rfl
    have hD14 : va_D A (fl [oW T o g2, mO q (nI kp) (nI n) r_892 (nI at_) isF op, aW T 0 (q 1) 111 mm, aW T 0 (q 2) 111 thn, aW T 0 (q 3) 666 past, aW T 0 (q 4) 60 f, aW T 0 (q 5) 27 told, aW T 0 (q 6) 3 wh, w2]) := flD_sub hD9 [5, 6, 7, 0, 1, 2, 3, 4, 8] (by decide) rfl
    have hS14 := hS9
    clear hP9 hS9 hD9
    refine W.widen (k := 160 + 3 * k + 3) (n := 2200 + 18 * k + 18) (by omega) (by omega) ?_
    exact KK w2 g2 r_892 at_ isF op thn told wh mm past f kp n hI2 _ _ hP14 hD14 hS14 _ (lv_sub hl7 [2, 3, 4, 5, 6] rfl)
set_option maxHeartbeats 4000000 in
set_option maxRecDepth 100000 in
theorem law_round {pX : Program} {l : Launch} {eX : Env} {sX : State} {mX : MethodId} {bX : List Frame} {mtX : Method} {cX : Code} {D : va_G} {T : TI} {A : Nat → Prop} {b L : Nat} {xs : Nat → Int32} {xa o : Nat} {q : Nat → Nat} {TG : State → Prop} (hCX : LCX pX l sX mX cX D T A b L xs) (k : Nat) (hk : 3 * k + 3 ≤ L) (KK : LWP pX l eX sX mX bX mtX cX D T A b xa o q TG (96 * k + 96) (160 + 3 * k + 3) (2200 + 18 * k + 18) k 1363) : LWP pX l eX sX mX bX mtX cX D T A b xa o q TG (96 * k) (160 + 3 * k) (2200 + 18 * k) k 922 := by
  obtain ⟨hx, hb, hml, hown, hts, hXs0, hls0, hns0, hK, hST, hA, hl, hL15⟩ := hCX
  intro w g th at_ isF op thn told wh mm past f kp n hI H0 locs0 hP0 hD0 hS0 ls0 hl0
  obtain ⟨hokS, hkp6, hn60⟩ := hI.okS
  refine lv_aload_n hx hb dL_law_922 rfl (lv_at hl0 1 rfl) ?_
  refine lv_aload_n hx hb dL_law_923 rfl (lv_at hl0 0 rfl) ?_
  refine lv_iload hx hb dL_law_924 (lv_at hl0 4 rfl) ?_
  refine lv_iconst (v := nI 1) hx hb dL_law_926 (by decide) ?_
  refine lv_iadd hx hb dL_law_927 ?_
  refine tp_i (y := nI (3 * k + 1)) (nI_add _ _) ?_
  refine r_sld hx hb hXs0 hls0 hns0 hS0 (3 * k + 1) dL_law_928 (by omega) ?_
  refine lv_aload_n hx hb dL_law_929 rfl (lv_at hl0 0 rfl) ?_
  refine lv_iload hx hb dL_law_930 (lv_at hl0 4 rfl) ?_
  refine lv_iconst (v := nI 2) hx hb dL_law_932 (by decide) ?_
  refine lv_iadd hx hb dL_law_933 ?_
  refine tp_i (y := nI (3 * k + 2)) (nI_add _ _) ?_
  refine r_sld hx hb hXs0 hls0 hns0 hS0 (3 * k + 2) dL_law_934 (by omega) ?_
  refine lv_aload_n hx hb dL_law_935 rfl (lv_at hl0 3 rfl) ?_
  have hPc1 : va_P D vwCl (fl [oW T o g, w]) _ := flP_sub hP0 [0, 8] rfl
  have hDc1 : va_D A (fl [oW T o g, w]) := flD_sub hD0 [0, 8] (by decide) rfl
  refine clx_i (br := [mO q (nI kp) (nI n) th (nI at_) isF op, aW T 0 (q 1) 111 mm, aW T 0 (q 2) 111 thn, aW T 0 (q 3) 666 past, aW T 0 (q 4) 60 f, aW T 0 (q 5) 27 told, aW T 0 (q 6) 3 wh]) (vx_runSX (As := [.ref xa, .int (xs (3 * k + 1)), .int (xs (3 * k + 2)), .ref o]) (rest := []) ⟨hx, hb, hml, hown, hts⟩ (c_L_round l D T hl hI (by omega) o g (xs (3 * k + 1)) (xs (3 * k + 2)) _) (mkSW (n := 4) hts kcw_round kw_0 kw_633 kw_634 ⟨by decide, by decide⟩ (by decide +kernel) ⟨rfl, rfl, Nat.le_of_ble_eq_true rfl, Nat.le_of_ble_eq_true rfl⟩) (ps_x hK hST hS0 hPc1 hDc1 (vA_c (br := [mO q (nI kp) (nI n) th (nI at_) isF op, aW T 0 (q 1) 111 mm, aW T 0 (q 2) 111 thn, aW T 0 (q 3) 666 past, aW T 0 (q 4) 60 f, aW T 0 (q 5) 27 told, aW T 0 (q 6) 3 wh]) hP0 hD0 hS0 hA (isR := [1, 2, 3, 4, 5, 6, 7]) (isC := [0, 8]) rfl (by decide))) rfl rfl hl0.1 rfl (lv_room (Nat.le_of_ble_eq_true rfl)) dL_law_936 ⟨by show _ ≤ 604008; omega, by show _ ≤ 7284081; omega⟩) hP0 hD0 hS0 hA [1, 2, 3, 4, 5, 6, 7] [0, 8] rfl (by decide) (fun E ce q9 _ux Hx lx hqx hPx hDx hSx h1 h2 h3 => absurd hqx (by simp)) (fun r_w u_w H2 locs2 hw hP2 hD2 hS2 => ?_)
  clear hP0 hD0 hS0 hPc1 hDc1
  obtain ⟨w2, g2⟩ := u_w
  have hP2 : va_P D vwCl (fl [mO q (nI kp) (nI n) th (nI at_) isF op, aW T 0 (q 1) 111 mm, aW T 0 (q 2) 111 thn, aW T 0 (q 3) 666 past, aW T 0 (q 4) 60 f, aW T 0 (q 5) 27 told, aW T 0 (q 6) 3 wh, oW T o g2, w2]) _ := hP2
  have hD2 : va_D A (fl [mO q (nI kp) (nI n) th (nI at_) isF op, aW T 0 (q 1) 111 mm, aW T 0 (q 2) 111 thn, aW T 0 (q 3) 666 past, aW T 0 (q 4) 60 f, aW T 0 (q 5) 27 told, aW T 0 (q 6) 3 wh, oW T o g2, w2]) := hD2
  refine lv_istore (lv' := [(5, .int r_w), (0, .ref b), (1, .ref xa), (2, .ref (q 0)), (3, .ref o), (4, .int (nI (3 * k)))]) hx hb dL_law_939 hl0 (by decide) rfl (fun ls3 hl3 => ?_)
  clear hl0
  refine lv_aload_n hx hb dL_law_941 rfl (lv_at hl3 3 rfl) ?_
  refine lv_aload_n hx hb dL_law_942 rfl (lv_at hl3 1 rfl) ?_
  refine lv_iload hx hb dL_law_943 (lv_at hl3 5 rfl) ?_
  refine lv_iconst (v := nI 1) hx hb dL_law_945 (by decide) ?_
  refine lv_iadd hx hb dL_law_946 ?_
  refine tp_i (y := nI (3 * k + 1)) (nI_add _ _) ?_
  refine r_sld hx hb hXs0 hls0 hns0 hS2 (3 * k + 1) dL_law_947 (by omega) ?_
  refine lv_aload_n hx hb dL_law_948 rfl (lv_at hl3 1 rfl) ?_
  refine lv_iload hx hb dL_law_949 (lv_at hl3 5 rfl) ?_
  refine lv_iconst (v := nI 2) hx hb dL_law_951 (by decide) ?_
  refine lv_iadd hx hb dL_law_952 ?_
  refine tp_i (y := nI (3 * k + 2)) (nI_add _ _) ?_
  refine r_sld hx hb hXs0 hls0 hns0 hS2 (3 * k + 2) dL_law_953 (by omega) ?_
  have hPc4 : va_P D vwCl (fl [mO q (nI kp) (nI n) th (nI at_) isF op, aW T 0 (q 1) 111 mm]) _ := flP_sub hP2 [0, 1] rfl
  have hDc4 : va_D A (fl [mO q (nI kp) (nI n) th (nI at_) isF op, aW T 0 (q 1) 111 mm]) := flD_sub hD2 [0, 1] (by decide) rfl
  refine cl_i (br := [aW T 0 (q 2) 111 thn, aW T 0 (q 3) 666 past, aW T 0 (q 4) 60 f, aW T 0 (q 5) 27 told, aW T 0 (q 6) 3 wh, oW T o g2, w2]) (va_runV (As := [.int (xs (3 * k + 1)), .int (xs (3 * k + 2))]) (rest := []) ⟨hx, hb, hml, hown, hts⟩ (c_X6_round l D T q kp n th at_ isF op mm (xs (3 * k + 1)) (xs (3 * k + 2)) (hokS.okM) _) (mkV hts okX6_round kw_852 kw_853 kw_854 ⟨rfl, rfl, Nat.le_of_ble_eq_true rfl, Nat.le_of_ble_eq_true rfl⟩) (pv_rw hK hPc4 hDc4 (q0 := 0) rfl rfl rfl) rfl rfl hl3.1 rfl (lv_room (Nat.le_of_ble_eq_true rfl)) dL_law_954 ⟨by show _ ≤ 604008; omega, by show _ ≤ 7284081; omega⟩) hP2 hD2 hS2 hA [2, 3, 4, 5, 6, 7, 8] [0, 1] rfl (by decide) (fun r_954 th2_954 H5 locs5 hq_954 hP5 hD5 hS5 => ?_)
  clear hP2 hD2 hS2 hPc4 hDc4
  have hP5 : va_P D vwCl (fl [aW T 0 (q 2) 111 thn, aW T 0 (q 3) 666 past, aW T 0 (q 4) 60 f, aW T 0 (q 5) 27 told, aW T 0 (q 6) 3 wh, oW T o g2, w2, mO q (nI kp) (nI n) th2_954 (nI at_) isF op, aW T 0 (q 1) 111 mm]) _ := hP5
  have hD5 : va_D A (fl [aW T 0 (q 2) 111 thn, aW T 0 (q 3) 666 past, aW T 0 (q 4) 60 f, aW T 0 (q 5) 27 told, aW T 0 (q 6) 3 wh, oW T o g2, w2, mO q (nI kp) (nI n) th2_954 (nI at_) isF op, aW T 0 (q 1) 111 mm]) := hD5
  have hq_954 : (r_954, th2_954) = roundP (xs (3 * k + 1)) (xs (3 * k + 2)) mm := hq_954
  have hP6 : va_P D vwCl (fl [aW T 0 (q 2) 111 thn, aW T 0 (q 3) 666 past, aW T 0 (q 4) 60 f, aW T 0 (q 5) 27 told, aW T 0 (q 6) 3 wh, oW T o g2, mO q (nI kp) (nI n) th2_954 (nI at_) isF op, aW T 0 (q 1) 111 mm, w2]) _ := flP_sub hP5 [0, 1, 2, 3, 4, 5, 7, 8, 6] rfl
  have hD6 : va_D A (fl [aW T 0 (q 2) 111 thn, aW T 0 (q 3) 666 past, aW T 0 (q 4) 60 f, aW T 0 (q 5) 27 told, aW T 0 (q 6) 3 wh, oW T o g2, mO q (nI kp) (nI n) th2_954 (nI at_) isF op, aW T 0 (q 1) 111 mm, w2]) := flD_sub hD5 [0, 1, 2, 3, 4, 5, 7, 8, 6] (by decide) rfl
  have hS6 := hS5
  clear hP5 hS5 hD5
  rw [← hq_954] at hw
  have hw1 : r_w = th2_954 := hw.1
  have hw2 : r_w = nI 0 → g2 0 = r_954.toInt64 := hw.2.1
  have hI2 : XINV T xa w2 mm past kp f n (96 * k + 96) := hw.2.2
  refine lv_istore (lv' := [(6, .int r_954), (5, .int r_w), (0, .ref b), (1, .ref xa), (2, .ref (q 0)), (3, .ref o), (4, .int (nI (3 * k)))]) hx hb dL_law_957 hl3 (by decide) rfl (fun ls7 hl7 => ?_)
  clear hl3
  refine lv_aload_n hx hb dL_law_959 rfl (lv_at hl7 4 rfl) ?_
  have hPc8 : va_P D vwCl (fl [mO q (nI kp) (nI n) th2_954 (nI at_) isF op]) _ := hP6.sub [6] rfl
  refine cr_i (va_runV (As := []) (rest := []) ⟨hx, hb, hml, hown, hts⟩ (c_X6_thrown l D T q kp n th2_954 at_ isF op ) (mkV hts okX6_thrown kw_707 kw_708 kw_709 ⟨rfl, rfl, Nat.le_of_ble_eq_true rfl, Nat.le_of_ble_eq_true rfl⟩) (pv_ro hK hPc8 (q0 := 0) rfl rfl rfl) rfl rfl hl7.1 rfl (lv_room (Nat.le_of_ble_eq_true rfl)) dL_law_960 ⟨by show _ ≤ 604008; omega, by show _ ≤ 7284081; omega⟩) hP6 hS6 (fun r_960 H9 locs9 hq_960 hP9 hS9 => ?_)
  clear hP6 hS6 hPc8
  have hD9 := hD6
  clear hD6
  have hq_960 : r_960 = th2_954 := hq_960
  subst hq_960
  refine lv_iload hx hb dL_law_963 (lv_at hl7 1 rfl) ?_
  refine lv_icmp_eq (tgt := 970) hx hb dL_law_965 (by decide) (fun c10 => ?_) (fun c10 => absurd (hw1.symm) c10)
  refine lv_iload hx hb dL_law_970 (lv_at hl7 1 rfl) ?_
  refine lv_if_ne (tgt := 987) hx hb dL_law_972 (by decide) (fun c_972 => ?_) (fun c_972 => ?_)
  · skip
    refine lv_goto (tgt := 1363) hx hb dL_law_987 (by decide) ?_
    have hP12 : va_P D vwCl (fl [oW T o g2, mO q (nI kp) (nI n) r_960 (nI at_) isF op, aW T 0 (q 1) 111 mm, aW T 0 (q 2) 111 thn, aW T 0 (q 3) 666 past, aW T 0 (q 4) 60 f, aW T 0 (q 5) 27 told, aW T 0 (q 6) 3 wh, w2]) _ := flP_sub hP9 [5, 6, 7, 0, 1, 2, 3, 4, 8] rfl
    have hD12 : va_D A (fl [oW T o g2, mO q (nI kp) (nI n) r_960 (nI at_) isF op, aW T 0 (q 1) 111 mm, aW T 0 (q 2) 111 thn, aW T 0 (q 3) 666 past, aW T 0 (q 4) 60 f, aW T 0 (q 5) 27 told, aW T 0 (q 6) 3 wh, w2]) := flD_sub hD9 [5, 6, 7, 0, 1, 2, 3, 4, 8] (by decide) rfl
    have hS12 := hS9
    clear hP9 hS9 hD9
    refine W.widen (k := 160 + 3 * k + 3) (n := 2200 + 18 * k + 18) (by omega) (by omega) ?_
    exact KK w2 g2 r_960 at_ isF op thn told wh mm past f kp n hI2 _ _ hP12 hD12 hS12 _ (lv_sub hl7 [2, 3, 4, 5, 6] rfl)
  · skip
    refine lv_aload_n hx hb dL_law_975 rfl (lv_at hl7 5 rfl) ?_
    refine lv_iconst (v := nI 0) hx hb dL_law_976 (by decide) ?_
    refine r_lald hx hb hK hP9 5 (f := g2) rfl 0 (by decide) dL_law_977 (by decide) ?_
    refine lv_iload hx hb dL_law_978 (lv_at hl7 0 rfl) ?_
    refine lv_i2l hx hb dL_law_980 rfl ?_
    refine W.lcmp hx hb dL_law_981 ?_
    refine tp_i (y := nI 0) (by rw [hw2 c_972]; exact lgc_self _) ?_
    refine n_if_eq (tgt := 987) hx hb (by omega) dL_law_982 (by decide) (fun c13 => ?_) (fun c13 => absurd (by decide) c13)
    refine lv_goto (tgt := 1363) hx hb dL_law_987 (by decide) ?_
    have hP14 : va_P D vwCl (fl [oW T o g2, mO q (nI kp) (nI n) r_960 (nI at_) isF op, aW T 0 (q 1) 111 mm, aW T 0 (q 2) 111 thn, aW T 0 (q 3) 666 past, aW T 0 (q 4) 60 f, aW T 0 (q 5) 27 told, aW T 0 (q 6) 3 wh, w2]) _ := flP_sub hP9 [5, 6, 7, 0, 1, 2, 3, 4, 8] rfl
    have hD14 : va_D A (fl [oW T o g2, mO q (nI kp) (nI n) r_960 (nI at_) isF op, aW T 0 (q 1) 111 mm, aW T 0 (q 2) 111 thn, aW T 0 (q 3) 666 past, aW T 0 (q 4) 60 f, aW T 0 (q 5) 27 told, aW T 0 (q 6) 3 wh, w2]) := flD_sub hD9 [5, 6, 7, 0, 1, 2, 3, 4, 8] (by decide) rfl
    have hS14 := hS9
    clear hP9 hS9 hD9
    refine W.widen (k := 160 + 3 * k + 3) (n := 2200 + 18 * k + 18) (by omega) (by omega) ?_
    exact KK w2 g2 r_960 at_ isF op thn told wh mm past f kp n hI2 _ _ hP14 hD14 hS14 _ (lv_sub hl7 [2, 3, 4, 5, 6] rfl)
set_option maxHeartbeats 4000000 in
set_option maxRecDepth 100000 in
theorem law_count {pX : Program} {l : Launch} {eX : Env} {sX : State} {mX : MethodId} {bX : List Frame} {mtX : Method} {cX : Code} {D : va_G} {T : TI} {A : Nat → Prop} {b L : Nat} {xs : Nat → Int32} {xa o : Nat} {q : Nat → Nat} {TG : State → Prop} (hCX : LCX pX l sX mX cX D T A b L xs) (k : Nat) (hk : 3 * k + 3 ≤ L) (KK : LWP pX l eX sX mX bX mtX cX D T A b xa o q TG (96 * k + 96) (160 + 3 * k + 3) (2200 + 18 * k + 18) k 1363) : LWP pX l eX sX mX bX mtX cX D T A b xa o q TG (96 * k) (160 + 3 * k) (2200 + 18 * k) k 990 := by
  obtain ⟨hx, hb, hml, hown, hts, hXs0, hls0, hns0, hK, hST, hA, hl, hL15⟩ := hCX
  intro w g th at_ isF op thn told wh mm past f kp n hI H0 locs0 hP0 hD0 hS0 ls0 hl0
  obtain ⟨hokS, hkp6, hn60⟩ := hI.okS
  refine lv_aload_n hx hb dL_law_990 rfl (lv_at hl0 1 rfl) ?_
  refine lv_aload_n hx hb dL_law_991 rfl (lv_at hl0 0 rfl) ?_
  refine lv_iload hx hb dL_law_992 (lv_at hl0 4 rfl) ?_
  refine lv_iconst (v := nI 1) hx hb dL_law_994 (by decide) ?_
  refine lv_iadd hx hb dL_law_995 ?_
  refine tp_i (y := nI (3 * k + 1)) (nI_add _ _) ?_
  refine r_sld hx hb hXs0 hls0 hns0 hS0 (3 * k + 1) dL_law_996 (by omega) ?_
  refine lv_aload_n hx hb dL_law_997 rfl (lv_at hl0 3 rfl) ?_
  have hPc1 : va_P D vwCl (fl [oW T o g, w]) _ := flP_sub hP0 [0, 8] rfl
  have hDc1 : va_D A (fl [oW T o g, w]) := flD_sub hD0 [0, 8] (by decide) rfl
  refine clx_i (br := [mO q (nI kp) (nI n) th (nI at_) isF op, aW T 0 (q 1) 111 mm, aW T 0 (q 2) 111 thn, aW T 0 (q 3) 666 past, aW T 0 (q 4) 60 f, aW T 0 (q 5) 27 told, aW T 0 (q 6) 3 wh]) (vx_runSX (As := [.ref xa, .int (xs (3 * k + 1)), .ref o]) (rest := []) ⟨hx, hb, hml, hown, hts⟩ (c_L_count l D T hl hI (by omega) o g (xs (3 * k + 1)) _) (mkSW (n := 3) hts kcw_count kw_0 kw_641 kw_642 ⟨by decide, by decide⟩ (by decide +kernel) ⟨rfl, rfl, Nat.le_of_ble_eq_true rfl, Nat.le_of_ble_eq_true rfl⟩) (ps_x hK hST hS0 hPc1 hDc1 (vA_c (br := [mO q (nI kp) (nI n) th (nI at_) isF op, aW T 0 (q 1) 111 mm, aW T 0 (q 2) 111 thn, aW T 0 (q 3) 666 past, aW T 0 (q 4) 60 f, aW T 0 (q 5) 27 told, aW T 0 (q 6) 3 wh]) hP0 hD0 hS0 hA (isR := [1, 2, 3, 4, 5, 6, 7]) (isC := [0, 8]) rfl (by decide))) rfl rfl hl0.1 rfl (lv_room (Nat.le_of_ble_eq_true rfl)) dL_law_998 ⟨by show _ ≤ 604008; omega, by show _ ≤ 7284081; omega⟩) hP0 hD0 hS0 hA [1, 2, 3, 4, 5, 6, 7] [0, 8] rfl (by decide) (fun E ce q9 _ux Hx lx hqx hPx hDx hSx h1 h2 h3 => absurd hqx (by simp)) (fun r_w u_w H2 locs2 hw hP2 hD2 hS2 => ?_)
  clear hP0 hD0 hS0 hPc1 hDc1
  obtain ⟨w2, g2⟩ := u_w
  have hP2 : va_P D vwCl (fl [mO q (nI kp) (nI n) th (nI at_) isF op, aW T 0 (q 1) 111 mm, aW T 0 (q 2) 111 thn, aW T 0 (q 3) 666 past, aW T 0 (q 4) 60 f, aW T 0 (q 5) 27 told, aW T 0 (q 6) 3 wh, oW T o g2, w2]) _ := hP2
  have hD2 : va_D A (fl [mO q (nI kp) (nI n) th (nI at_) isF op, aW T 0 (q 1) 111 mm, aW T 0 (q 2) 111 thn, aW T 0 (q 3) 666 past, aW T 0 (q 4) 60 f, aW T 0 (q 5) 27 told, aW T 0 (q 6) 3 wh, oW T o g2, w2]) := hD2
  refine lv_istore (lv' := [(5, .int r_w), (0, .ref b), (1, .ref xa), (2, .ref (q 0)), (3, .ref o), (4, .int (nI (3 * k)))]) hx hb dL_law_1001 hl0 (by decide) rfl (fun ls3 hl3 => ?_)
  clear hl0
  refine lv_aload_n hx hb dL_law_1003 rfl (lv_at hl3 3 rfl) ?_
  refine lv_aload_n hx hb dL_law_1004 rfl (lv_at hl3 1 rfl) ?_
  refine lv_iload hx hb dL_law_1005 (lv_at hl3 5 rfl) ?_
  refine lv_iconst (v := nI 1) hx hb dL_law_1007 (by decide) ?_
  refine lv_iadd hx hb dL_law_1008 ?_
  refine tp_i (y := nI (3 * k + 1)) (nI_add _ _) ?_
  refine r_sld hx hb hXs0 hls0 hns0 hS2 (3 * k + 1) dL_law_1009 (by omega) ?_
  have hPc4 : va_P D vwCl (fl [mO q (nI kp) (nI n) th (nI at_) isF op, aW T 0 (q 1) 111 mm]) _ := flP_sub hP2 [0, 1] rfl
  have hDc4 : va_D A (fl [mO q (nI kp) (nI n) th (nI at_) isF op, aW T 0 (q 1) 111 mm]) := flD_sub hD2 [0, 1] (by decide) rfl
  refine cl_i (br := [aW T 0 (q 2) 111 thn, aW T 0 (q 3) 666 past, aW T 0 (q 4) 60 f, aW T 0 (q 5) 27 told, aW T 0 (q 6) 3 wh, oW T o g2, w2]) (va_runV (As := [.int (xs (3 * k + 1))]) (rest := []) ⟨hx, hb, hml, hown, hts⟩ (c_X6_count l D T q kp n th at_ isF op mm (xs (3 * k + 1))  _) (mkV hts okX6_count kw_856 kw_857 kw_858 ⟨rfl, rfl, Nat.le_of_ble_eq_true rfl, Nat.le_of_ble_eq_true rfl⟩) (pv_rw hK hPc4 hDc4 (q0 := 0) rfl rfl rfl) rfl rfl hl3.1 rfl (lv_room (Nat.le_of_ble_eq_true rfl)) dL_law_1010 ⟨by show _ ≤ 604008; omega, by show _ ≤ 7284081; omega⟩) hP2 hD2 hS2 hA [2, 3, 4, 5, 6, 7, 8] [0, 1] rfl (by decide) (fun r_1010 th2_1010 H5 locs5 hq_1010 hP5 hD5 hS5 => ?_)
  clear hP2 hD2 hS2 hPc4 hDc4
  have hP5 : va_P D vwCl (fl [aW T 0 (q 2) 111 thn, aW T 0 (q 3) 666 past, aW T 0 (q 4) 60 f, aW T 0 (q 5) 27 told, aW T 0 (q 6) 3 wh, oW T o g2, w2, mO q (nI kp) (nI n) th2_1010 (nI at_) isF op, aW T 0 (q 1) 111 mm]) _ := hP5
  have hD5 : va_D A (fl [aW T 0 (q 2) 111 thn, aW T 0 (q 3) 666 past, aW T 0 (q 4) 60 f, aW T 0 (q 5) 27 told, aW T 0 (q 6) 3 wh, oW T o g2, w2, mO q (nI kp) (nI n) th2_1010 (nI at_) isF op, aW T 0 (q 1) 111 mm]) := hD5
  have hq_1010 : (r_1010, th2_1010) = countP (xs (3 * k + 1)) mm kp := hq_1010
  have hP6 : va_P D vwCl (fl [aW T 0 (q 2) 111 thn, aW T 0 (q 3) 666 past, aW T 0 (q 4) 60 f, aW T 0 (q 5) 27 told, aW T 0 (q 6) 3 wh, oW T o g2, mO q (nI kp) (nI n) th2_1010 (nI at_) isF op, aW T 0 (q 1) 111 mm, w2]) _ := flP_sub hP5 [0, 1, 2, 3, 4, 5, 7, 8, 6] rfl
  have hD6 : va_D A (fl [aW T 0 (q 2) 111 thn, aW T 0 (q 3) 666 past, aW T 0 (q 4) 60 f, aW T 0 (q 5) 27 told, aW T 0 (q 6) 3 wh, oW T o g2, mO q (nI kp) (nI n) th2_1010 (nI at_) isF op, aW T 0 (q 1) 111 mm, w2]) := flD_sub hD5 [0, 1, 2, 3, 4, 5, 7, 8, 6] (by decide) rfl
  have hS6 := hS5
  clear hP5 hS5 hD5
  rw [← hq_1010] at hw
  have hw1 : r_w = th2_1010 := hw.1
  have hw2 : r_w = nI 0 → g2 0 = r_1010.toInt64 := hw.2.1
  have hI2 : XINV T xa w2 mm past kp f n (96 * k + 96) := hw.2.2
  refine lv_istore (lv' := [(6, .int r_1010), (5, .int r_w), (0, .ref b), (1, .ref xa), (2, .ref (q 0)), (3, .ref o), (4, .int (nI (3 * k)))]) hx hb dL_law_1013 hl3 (by decide) rfl (fun ls7 hl7 => ?_)
  clear hl3
  refine lv_aload_n hx hb dL_law_1015 rfl (lv_at hl7 4 rfl) ?_
  have hPc8 : va_P D vwCl (fl [mO q (nI kp) (nI n) th2_1010 (nI at_) isF op]) _ := hP6.sub [6] rfl
  refine cr_i (va_runV (As := []) (rest := []) ⟨hx, hb, hml, hown, hts⟩ (c_X6_thrown l D T q kp n th2_1010 at_ isF op ) (mkV hts okX6_thrown kw_707 kw_708 kw_709 ⟨rfl, rfl, Nat.le_of_ble_eq_true rfl, Nat.le_of_ble_eq_true rfl⟩) (pv_ro hK hPc8 (q0 := 0) rfl rfl rfl) rfl rfl hl7.1 rfl (lv_room (Nat.le_of_ble_eq_true rfl)) dL_law_1016 ⟨by show _ ≤ 604008; omega, by show _ ≤ 7284081; omega⟩) hP6 hS6 (fun r_1016 H9 locs9 hq_1016 hP9 hS9 => ?_)
  clear hP6 hS6 hPc8
  have hD9 := hD6
  clear hD6
  have hq_1016 : r_1016 = th2_1010 := hq_1016
  subst hq_1016
  refine lv_iload hx hb dL_law_1019 (lv_at hl7 1 rfl) ?_
  refine lv_icmp_eq (tgt := 1026) hx hb dL_law_1021 (by decide) (fun c10 => ?_) (fun c10 => absurd (hw1.symm) c10)
  refine lv_iload hx hb dL_law_1026 (lv_at hl7 1 rfl) ?_
  refine lv_if_ne (tgt := 1043) hx hb dL_law_1028 (by decide) (fun c_1028 => ?_) (fun c_1028 => ?_)
  · skip
    refine lv_goto (tgt := 1363) hx hb dL_law_1043 (by decide) ?_
    have hP12 : va_P D vwCl (fl [oW T o g2, mO q (nI kp) (nI n) r_1016 (nI at_) isF op, aW T 0 (q 1) 111 mm, aW T 0 (q 2) 111 thn, aW T 0 (q 3) 666 past, aW T 0 (q 4) 60 f, aW T 0 (q 5) 27 told, aW T 0 (q 6) 3 wh, w2]) _ := flP_sub hP9 [5, 6, 7, 0, 1, 2, 3, 4, 8] rfl
    have hD12 : va_D A (fl [oW T o g2, mO q (nI kp) (nI n) r_1016 (nI at_) isF op, aW T 0 (q 1) 111 mm, aW T 0 (q 2) 111 thn, aW T 0 (q 3) 666 past, aW T 0 (q 4) 60 f, aW T 0 (q 5) 27 told, aW T 0 (q 6) 3 wh, w2]) := flD_sub hD9 [5, 6, 7, 0, 1, 2, 3, 4, 8] (by decide) rfl
    have hS12 := hS9
    clear hP9 hS9 hD9
    refine W.widen (k := 160 + 3 * k + 3) (n := 2200 + 18 * k + 18) (by omega) (by omega) ?_
    exact KK w2 g2 r_1016 at_ isF op thn told wh mm past f kp n hI2 _ _ hP12 hD12 hS12 _ (lv_sub hl7 [2, 3, 4, 5, 6] rfl)
  · skip
    refine lv_aload_n hx hb dL_law_1031 rfl (lv_at hl7 5 rfl) ?_
    refine lv_iconst (v := nI 0) hx hb dL_law_1032 (by decide) ?_
    refine r_lald hx hb hK hP9 5 (f := g2) rfl 0 (by decide) dL_law_1033 (by decide) ?_
    refine lv_iload hx hb dL_law_1034 (lv_at hl7 0 rfl) ?_
    refine lv_i2l hx hb dL_law_1036 rfl ?_
    refine W.lcmp hx hb dL_law_1037 ?_
    refine tp_i (y := nI 0) (by rw [hw2 c_1028]; exact lgc_self _) ?_
    refine n_if_eq (tgt := 1043) hx hb (by omega) dL_law_1038 (by decide) (fun c13 => ?_) (fun c13 => absurd (by decide) c13)
    refine lv_goto (tgt := 1363) hx hb dL_law_1043 (by decide) ?_
    have hP14 : va_P D vwCl (fl [oW T o g2, mO q (nI kp) (nI n) r_1016 (nI at_) isF op, aW T 0 (q 1) 111 mm, aW T 0 (q 2) 111 thn, aW T 0 (q 3) 666 past, aW T 0 (q 4) 60 f, aW T 0 (q 5) 27 told, aW T 0 (q 6) 3 wh, w2]) _ := flP_sub hP9 [5, 6, 7, 0, 1, 2, 3, 4, 8] rfl
    have hD14 : va_D A (fl [oW T o g2, mO q (nI kp) (nI n) r_1016 (nI at_) isF op, aW T 0 (q 1) 111 mm, aW T 0 (q 2) 111 thn, aW T 0 (q 3) 666 past, aW T 0 (q 4) 60 f, aW T 0 (q 5) 27 told, aW T 0 (q 6) 3 wh, w2]) := flD_sub hD9 [5, 6, 7, 0, 1, 2, 3, 4, 8] (by decide) rfl
    have hS14 := hS9
    clear hP9 hS9 hD9
    refine W.widen (k := 160 + 3 * k + 3) (n := 2200 + 18 * k + 18) (by omega) (by omega) ?_
    exact KK w2 g2 r_1016 at_ isF op thn told wh mm past f kp n hI2 _ _ hP14 hD14 hS14 _ (lv_sub hl7 [2, 3, 4, 5, 6] rfl)
set_option maxHeartbeats 4000000 in
set_option maxRecDepth 100000 in
theorem law_setting {pX : Program} {l : Launch} {eX : Env} {sX : State} {mX : MethodId} {bX : List Frame} {mtX : Method} {cX : Code} {D : va_G} {T : TI} {A : Nat → Prop} {b L : Nat} {xs : Nat → Int32} {xa o : Nat} {q : Nat → Nat} {TG : State → Prop} (hCX : LCX pX l sX mX cX D T A b L xs) (k : Nat) (hk : 3 * k + 3 ≤ L) (KK : LWP pX l eX sX mX bX mtX cX D T A b xa o q TG (96 * k + 96) (160 + 3 * k + 3) (2200 + 18 * k + 18) k 1363) : LWP pX l eX sX mX bX mtX cX D T A b xa o q TG (96 * k) (160 + 3 * k) (2200 + 18 * k) k 1046 := by
  obtain ⟨hx, hb, hml, hown, hts, hXs0, hls0, hns0, hK, hST, hA, hl, hL15⟩ := hCX
  intro w g th at_ isF op thn told wh mm past f kp n hI H0 locs0 hP0 hD0 hS0 ls0 hl0
  obtain ⟨hokS, hkp6, hn60⟩ := hI.okS
  refine lv_aload_n hx hb dL_law_1046 rfl (lv_at hl0 1 rfl) ?_
  refine lv_aload_n hx hb dL_law_1047 rfl (lv_at hl0 0 rfl) ?_
  refine lv_iload hx hb dL_law_1048 (lv_at hl0 4 rfl) ?_
  refine lv_iconst (v := nI 1) hx hb dL_law_1050 (by decide) ?_
  refine lv_iadd hx hb dL_law_1051 ?_
  refine tp_i (y := nI (3 * k + 1)) (nI_add _ _) ?_
  refine r_sld hx hb hXs0 hls0 hns0 hS0 (3 * k + 1) dL_law_1052 (by omega) ?_
  refine lv_aload_n hx hb dL_law_1053 rfl (lv_at hl0 3 rfl) ?_
  have hPc1 : va_P D vwCl (fl [oW T o g, w]) _ := flP_sub hP0 [0, 8] rfl
  have hDc1 : va_D A (fl [oW T o g, w]) := flD_sub hD0 [0, 8] (by decide) rfl
  refine clx_i (br := [mO q (nI kp) (nI n) th (nI at_) isF op, aW T 0 (q 1) 111 mm, aW T 0 (q 2) 111 thn, aW T 0 (q 3) 666 past, aW T 0 (q 4) 60 f, aW T 0 (q 5) 27 told, aW T 0 (q 6) 3 wh]) (vx_runSX (As := [.ref xa, .int (xs (3 * k + 1)), .ref o]) (rest := []) ⟨hx, hb, hml, hown, hts⟩ (c_L_setting l D T hl hI (by omega) o g (xs (3 * k + 1)) _) (mkSW (n := 3) hts kcw_setting kw_0 kw_645 kw_646 ⟨by decide, by decide⟩ (by decide +kernel) ⟨rfl, rfl, Nat.le_of_ble_eq_true rfl, Nat.le_of_ble_eq_true rfl⟩) (ps_x hK hST hS0 hPc1 hDc1 (vA_c (br := [mO q (nI kp) (nI n) th (nI at_) isF op, aW T 0 (q 1) 111 mm, aW T 0 (q 2) 111 thn, aW T 0 (q 3) 666 past, aW T 0 (q 4) 60 f, aW T 0 (q 5) 27 told, aW T 0 (q 6) 3 wh]) hP0 hD0 hS0 hA (isR := [1, 2, 3, 4, 5, 6, 7]) (isC := [0, 8]) rfl (by decide))) rfl rfl hl0.1 rfl (lv_room (Nat.le_of_ble_eq_true rfl)) dL_law_1054 ⟨by show _ ≤ 604008; omega, by show _ ≤ 7284081; omega⟩) hP0 hD0 hS0 hA [1, 2, 3, 4, 5, 6, 7] [0, 8] rfl (by decide) (fun E ce q9 _ux Hx lx hqx hPx hDx hSx h1 h2 h3 => absurd hqx (by simp)) (fun r_w u_w H2 locs2 hw hP2 hD2 hS2 => ?_)
  clear hP0 hD0 hS0 hPc1 hDc1
  obtain ⟨w2, g2⟩ := u_w
  have hP2 : va_P D vwCl (fl [mO q (nI kp) (nI n) th (nI at_) isF op, aW T 0 (q 1) 111 mm, aW T 0 (q 2) 111 thn, aW T 0 (q 3) 666 past, aW T 0 (q 4) 60 f, aW T 0 (q 5) 27 told, aW T 0 (q 6) 3 wh, oW T o g2, w2]) _ := hP2
  have hD2 : va_D A (fl [mO q (nI kp) (nI n) th (nI at_) isF op, aW T 0 (q 1) 111 mm, aW T 0 (q 2) 111 thn, aW T 0 (q 3) 666 past, aW T 0 (q 4) 60 f, aW T 0 (q 5) 27 told, aW T 0 (q 6) 3 wh, oW T o g2, w2]) := hD2
  refine lv_istore (lv' := [(5, .int r_w), (0, .ref b), (1, .ref xa), (2, .ref (q 0)), (3, .ref o), (4, .int (nI (3 * k)))]) hx hb dL_law_1057 hl0 (by decide) rfl (fun ls3 hl3 => ?_)
  clear hl0
  refine lv_aload_n hx hb dL_law_1059 rfl (lv_at hl3 3 rfl) ?_
  refine lv_aload_n hx hb dL_law_1060 rfl (lv_at hl3 1 rfl) ?_
  refine lv_iload hx hb dL_law_1061 (lv_at hl3 5 rfl) ?_
  refine lv_iconst (v := nI 1) hx hb dL_law_1063 (by decide) ?_
  refine lv_iadd hx hb dL_law_1064 ?_
  refine tp_i (y := nI (3 * k + 1)) (nI_add _ _) ?_
  refine r_sld hx hb hXs0 hls0 hns0 hS2 (3 * k + 1) dL_law_1065 (by omega) ?_
  have hPc4 : va_P D vwCl (fl [mO q (nI kp) (nI n) th (nI at_) isF op, aW T 0 (q 1) 111 mm]) _ := flP_sub hP2 [0, 1] rfl
  have hDc4 : va_D A (fl [mO q (nI kp) (nI n) th (nI at_) isF op, aW T 0 (q 1) 111 mm]) := flD_sub hD2 [0, 1] (by decide) rfl
  refine cl_i (br := [aW T 0 (q 2) 111 thn, aW T 0 (q 3) 666 past, aW T 0 (q 4) 60 f, aW T 0 (q 5) 27 told, aW T 0 (q 6) 3 wh, oW T o g2, w2]) (va_runV (As := [.int (xs (3 * k + 1))]) (rest := []) ⟨hx, hb, hml, hown, hts⟩ (c_X6_setting l D T q kp n th at_ isF op mm (xs (3 * k + 1))  _) (mkV hts okX6_setting kw_867 kw_868 kw_869 ⟨rfl, rfl, Nat.le_of_ble_eq_true rfl, Nat.le_of_ble_eq_true rfl⟩) (pv_rw hK hPc4 hDc4 (q0 := 0) rfl rfl rfl) rfl rfl hl3.1 rfl (lv_room (Nat.le_of_ble_eq_true rfl)) dL_law_1066 ⟨by show _ ≤ 604008; omega, by show _ ≤ 7284081; omega⟩) hP2 hD2 hS2 hA [2, 3, 4, 5, 6, 7, 8] [0, 1] rfl (by decide) (fun r_1066 th2_1066 H5 locs5 hq_1066 hP5 hD5 hS5 => ?_)
  clear hP2 hD2 hS2 hPc4 hDc4
  have hP5 : va_P D vwCl (fl [aW T 0 (q 2) 111 thn, aW T 0 (q 3) 666 past, aW T 0 (q 4) 60 f, aW T 0 (q 5) 27 told, aW T 0 (q 6) 3 wh, oW T o g2, w2, mO q (nI kp) (nI n) th2_1066 (nI at_) isF op, aW T 0 (q 1) 111 mm]) _ := hP5
  have hD5 : va_D A (fl [aW T 0 (q 2) 111 thn, aW T 0 (q 3) 666 past, aW T 0 (q 4) 60 f, aW T 0 (q 5) 27 told, aW T 0 (q 6) 3 wh, oW T o g2, w2, mO q (nI kp) (nI n) th2_1066 (nI at_) isF op, aW T 0 (q 1) 111 mm]) := hD5
  have hq_1066 : (r_1066, th2_1066) = settingP (xs (3 * k + 1)) mm := hq_1066
  have hP6 : va_P D vwCl (fl [aW T 0 (q 2) 111 thn, aW T 0 (q 3) 666 past, aW T 0 (q 4) 60 f, aW T 0 (q 5) 27 told, aW T 0 (q 6) 3 wh, oW T o g2, mO q (nI kp) (nI n) th2_1066 (nI at_) isF op, aW T 0 (q 1) 111 mm, w2]) _ := flP_sub hP5 [0, 1, 2, 3, 4, 5, 7, 8, 6] rfl
  have hD6 : va_D A (fl [aW T 0 (q 2) 111 thn, aW T 0 (q 3) 666 past, aW T 0 (q 4) 60 f, aW T 0 (q 5) 27 told, aW T 0 (q 6) 3 wh, oW T o g2, mO q (nI kp) (nI n) th2_1066 (nI at_) isF op, aW T 0 (q 1) 111 mm, w2]) := flD_sub hD5 [0, 1, 2, 3, 4, 5, 7, 8, 6] (by decide) rfl
  have hS6 := hS5
  clear hP5 hS5 hD5
  rw [← hq_1066] at hw
  have hw1 : r_w = th2_1066 := hw.1
  have hw2 : r_w = nI 0 → g2 0 = r_1066.toInt64 := hw.2.1
  have hI2 : XINV T xa w2 mm past kp f n (96 * k + 96) := hw.2.2
  refine lv_istore (lv' := [(6, .int r_1066), (5, .int r_w), (0, .ref b), (1, .ref xa), (2, .ref (q 0)), (3, .ref o), (4, .int (nI (3 * k)))]) hx hb dL_law_1069 hl3 (by decide) rfl (fun ls7 hl7 => ?_)
  clear hl3
  refine lv_aload_n hx hb dL_law_1071 rfl (lv_at hl7 4 rfl) ?_
  have hPc8 : va_P D vwCl (fl [mO q (nI kp) (nI n) th2_1066 (nI at_) isF op]) _ := hP6.sub [6] rfl
  refine cr_i (va_runV (As := []) (rest := []) ⟨hx, hb, hml, hown, hts⟩ (c_X6_thrown l D T q kp n th2_1066 at_ isF op ) (mkV hts okX6_thrown kw_707 kw_708 kw_709 ⟨rfl, rfl, Nat.le_of_ble_eq_true rfl, Nat.le_of_ble_eq_true rfl⟩) (pv_ro hK hPc8 (q0 := 0) rfl rfl rfl) rfl rfl hl7.1 rfl (lv_room (Nat.le_of_ble_eq_true rfl)) dL_law_1072 ⟨by show _ ≤ 604008; omega, by show _ ≤ 7284081; omega⟩) hP6 hS6 (fun r_1072 H9 locs9 hq_1072 hP9 hS9 => ?_)
  clear hP6 hS6 hPc8
  have hD9 := hD6
  clear hD6
  have hq_1072 : r_1072 = th2_1066 := hq_1072
  subst hq_1072
  refine lv_iload hx hb dL_law_1075 (lv_at hl7 1 rfl) ?_
  refine lv_icmp_eq (tgt := 1082) hx hb dL_law_1077 (by decide) (fun c10 => ?_) (fun c10 => absurd (hw1.symm) c10)
  refine lv_iload hx hb dL_law_1082 (lv_at hl7 1 rfl) ?_
  refine lv_if_ne (tgt := 1099) hx hb dL_law_1084 (by decide) (fun c_1084 => ?_) (fun c_1084 => ?_)
  · skip
    refine lv_goto (tgt := 1363) hx hb dL_law_1099 (by decide) ?_
    have hP12 : va_P D vwCl (fl [oW T o g2, mO q (nI kp) (nI n) r_1072 (nI at_) isF op, aW T 0 (q 1) 111 mm, aW T 0 (q 2) 111 thn, aW T 0 (q 3) 666 past, aW T 0 (q 4) 60 f, aW T 0 (q 5) 27 told, aW T 0 (q 6) 3 wh, w2]) _ := flP_sub hP9 [5, 6, 7, 0, 1, 2, 3, 4, 8] rfl
    have hD12 : va_D A (fl [oW T o g2, mO q (nI kp) (nI n) r_1072 (nI at_) isF op, aW T 0 (q 1) 111 mm, aW T 0 (q 2) 111 thn, aW T 0 (q 3) 666 past, aW T 0 (q 4) 60 f, aW T 0 (q 5) 27 told, aW T 0 (q 6) 3 wh, w2]) := flD_sub hD9 [5, 6, 7, 0, 1, 2, 3, 4, 8] (by decide) rfl
    have hS12 := hS9
    clear hP9 hS9 hD9
    refine W.widen (k := 160 + 3 * k + 3) (n := 2200 + 18 * k + 18) (by omega) (by omega) ?_
    exact KK w2 g2 r_1072 at_ isF op thn told wh mm past f kp n hI2 _ _ hP12 hD12 hS12 _ (lv_sub hl7 [2, 3, 4, 5, 6] rfl)
  · skip
    refine lv_aload_n hx hb dL_law_1087 rfl (lv_at hl7 5 rfl) ?_
    refine lv_iconst (v := nI 0) hx hb dL_law_1088 (by decide) ?_
    refine r_lald hx hb hK hP9 5 (f := g2) rfl 0 (by decide) dL_law_1089 (by decide) ?_
    refine lv_iload hx hb dL_law_1090 (lv_at hl7 0 rfl) ?_
    refine lv_i2l hx hb dL_law_1092 rfl ?_
    refine W.lcmp hx hb dL_law_1093 ?_
    refine tp_i (y := nI 0) (by rw [hw2 c_1084]; exact lgc_self _) ?_
    refine n_if_eq (tgt := 1099) hx hb (by omega) dL_law_1094 (by decide) (fun c13 => ?_) (fun c13 => absurd (by decide) c13)
    refine lv_goto (tgt := 1363) hx hb dL_law_1099 (by decide) ?_
    have hP14 : va_P D vwCl (fl [oW T o g2, mO q (nI kp) (nI n) r_1072 (nI at_) isF op, aW T 0 (q 1) 111 mm, aW T 0 (q 2) 111 thn, aW T 0 (q 3) 666 past, aW T 0 (q 4) 60 f, aW T 0 (q 5) 27 told, aW T 0 (q 6) 3 wh, w2]) _ := flP_sub hP9 [5, 6, 7, 0, 1, 2, 3, 4, 8] rfl
    have hD14 : va_D A (fl [oW T o g2, mO q (nI kp) (nI n) r_1072 (nI at_) isF op, aW T 0 (q 1) 111 mm, aW T 0 (q 2) 111 thn, aW T 0 (q 3) 666 past, aW T 0 (q 4) 60 f, aW T 0 (q 5) 27 told, aW T 0 (q 6) 3 wh, w2]) := flD_sub hD9 [5, 6, 7, 0, 1, 2, 3, 4, 8] (by decide) rfl
    have hS14 := hS9
    clear hP9 hS9 hD9
    refine W.widen (k := 160 + 3 * k + 3) (n := 2200 + 18 * k + 18) (by omega) (by omega) ?_
    exact KK w2 g2 r_1072 at_ isF op thn told wh mm past f kp n hI2 _ _ hP14 hD14 hS14 _ (lv_sub hl7 [2, 3, 4, 5, 6] rfl)
set_option maxHeartbeats 4000000 in
set_option maxRecDepth 100000 in
theorem law_waits {pX : Program} {l : Launch} {eX : Env} {sX : State} {mX : MethodId} {bX : List Frame} {mtX : Method} {cX : Code} {D : va_G} {T : TI} {A : Nat → Prop} {b L : Nat} {xs : Nat → Int32} {xa o : Nat} {q : Nat → Nat} {TG : State → Prop} (hCX : LCX pX l sX mX cX D T A b L xs) (k : Nat) (hk : 3 * k + 3 ≤ L) (KK : LWP pX l eX sX mX bX mtX cX D T A b xa o q TG (96 * k + 96) (160 + 3 * k + 3) (2200 + 18 * k + 18) k 1363) : LWP pX l eX sX mX bX mtX cX D T A b xa o q TG (96 * k) (160 + 3 * k) (2200 + 18 * k) k 1102 := by
  obtain ⟨hx, hb, hml, hown, hts, hXs0, hls0, hns0, hK, hST, hA, hl, hL15⟩ := hCX
  intro w g th at_ isF op thn told wh mm past f kp n hI H0 locs0 hP0 hD0 hS0 ls0 hl0
  obtain ⟨hokS, hkp6, hn60⟩ := hI.okS
  refine lv_aload_n hx hb dL_law_1102 rfl (lv_at hl0 1 rfl) ?_
  refine lv_aload_n hx hb dL_law_1103 rfl (lv_at hl0 0 rfl) ?_
  refine lv_iload hx hb dL_law_1104 (lv_at hl0 4 rfl) ?_
  refine lv_iconst (v := nI 1) hx hb dL_law_1106 (by decide) ?_
  refine lv_iadd hx hb dL_law_1107 ?_
  refine tp_i (y := nI (3 * k + 1)) (nI_add _ _) ?_
  refine r_sld hx hb hXs0 hls0 hns0 hS0 (3 * k + 1) dL_law_1108 (by omega) ?_
  refine lv_aload_n hx hb dL_law_1109 rfl (lv_at hl0 3 rfl) ?_
  have hPc1 : va_P D vwCl (fl [oW T o g, w]) _ := flP_sub hP0 [0, 8] rfl
  have hDc1 : va_D A (fl [oW T o g, w]) := flD_sub hD0 [0, 8] (by decide) rfl
  refine clx_i (br := [mO q (nI kp) (nI n) th (nI at_) isF op, aW T 0 (q 1) 111 mm, aW T 0 (q 2) 111 thn, aW T 0 (q 3) 666 past, aW T 0 (q 4) 60 f, aW T 0 (q 5) 27 told, aW T 0 (q 6) 3 wh]) (vx_runSX (As := [.ref xa, .int (xs (3 * k + 1)), .ref o]) (rest := []) ⟨hx, hb, hml, hown, hts⟩ (c_L_waits l D T hl hI (by omega) o g (xs (3 * k + 1)) _) (mkSW (n := 3) hts kcw_waits kw_0 kw_652 kw_653 ⟨by decide, by decide⟩ (by decide +kernel) ⟨rfl, rfl, Nat.le_of_ble_eq_true rfl, Nat.le_of_ble_eq_true rfl⟩) (ps_x hK hST hS0 hPc1 hDc1 (vA_c (br := [mO q (nI kp) (nI n) th (nI at_) isF op, aW T 0 (q 1) 111 mm, aW T 0 (q 2) 111 thn, aW T 0 (q 3) 666 past, aW T 0 (q 4) 60 f, aW T 0 (q 5) 27 told, aW T 0 (q 6) 3 wh]) hP0 hD0 hS0 hA (isR := [1, 2, 3, 4, 5, 6, 7]) (isC := [0, 8]) rfl (by decide))) rfl rfl hl0.1 rfl (lv_room (Nat.le_of_ble_eq_true rfl)) dL_law_1110 ⟨by show _ ≤ 604008; omega, by show _ ≤ 7284081; omega⟩) hP0 hD0 hS0 hA [1, 2, 3, 4, 5, 6, 7] [0, 8] rfl (by decide) (fun E ce q9 _ux Hx lx hqx hPx hDx hSx h1 h2 h3 => absurd hqx (by simp)) (fun r_w u_w H2 locs2 hw hP2 hD2 hS2 => ?_)
  clear hP0 hD0 hS0 hPc1 hDc1
  obtain ⟨w2, g2⟩ := u_w
  have hP2 : va_P D vwCl (fl [mO q (nI kp) (nI n) th (nI at_) isF op, aW T 0 (q 1) 111 mm, aW T 0 (q 2) 111 thn, aW T 0 (q 3) 666 past, aW T 0 (q 4) 60 f, aW T 0 (q 5) 27 told, aW T 0 (q 6) 3 wh, oW T o g2, w2]) _ := hP2
  have hD2 : va_D A (fl [mO q (nI kp) (nI n) th (nI at_) isF op, aW T 0 (q 1) 111 mm, aW T 0 (q 2) 111 thn, aW T 0 (q 3) 666 past, aW T 0 (q 4) 60 f, aW T 0 (q 5) 27 told, aW T 0 (q 6) 3 wh, oW T o g2, w2]) := hD2
  refine lv_istore (lv' := [(5, .int r_w), (0, .ref b), (1, .ref xa), (2, .ref (q 0)), (3, .ref o), (4, .int (nI (3 * k)))]) hx hb dL_law_1113 hl0 (by decide) rfl (fun ls3 hl3 => ?_)
  clear hl0
  refine lv_aload_n hx hb dL_law_1115 rfl (lv_at hl3 3 rfl) ?_
  refine lv_aload_n hx hb dL_law_1116 rfl (lv_at hl3 1 rfl) ?_
  refine lv_iload hx hb dL_law_1117 (lv_at hl3 5 rfl) ?_
  refine lv_iconst (v := nI 1) hx hb dL_law_1119 (by decide) ?_
  refine lv_iadd hx hb dL_law_1120 ?_
  refine tp_i (y := nI (3 * k + 1)) (nI_add _ _) ?_
  refine r_sld hx hb hXs0 hls0 hns0 hS2 (3 * k + 1) dL_law_1121 (by omega) ?_
  have hPc4 : va_P D vwCl (fl [mO q (nI kp) (nI n) th (nI at_) isF op, aW T 0 (q 1) 111 mm, aW T 0 (q 6) 3 wh]) _ := flP_sub hP2 [0, 1, 6] rfl
  have hDc4 : va_D A (fl [mO q (nI kp) (nI n) th (nI at_) isF op, aW T 0 (q 1) 111 mm, aW T 0 (q 6) 3 wh]) := flD_sub hD2 [0, 1, 6] (by decide) rfl
  refine cl_i (br := [aW T 0 (q 2) 111 thn, aW T 0 (q 3) 666 past, aW T 0 (q 4) 60 f, aW T 0 (q 5) 27 told, oW T o g2, w2]) (va_runV (As := [.int (xs (3 * k + 1))]) (rest := []) ⟨hx, hb, hml, hown, hts⟩ (c_X6_waits l D T q kp n th at_ isF op mm wh (xs (3 * k + 1)) (hokS.okM) _) (mkV hts okX6_waits kw_871 kw_872 kw_873 ⟨rfl, rfl, Nat.le_of_ble_eq_true rfl, Nat.le_of_ble_eq_true rfl⟩) (pv_rw hK hPc4 hDc4 (q0 := 0) rfl rfl rfl) rfl rfl hl3.1 rfl (lv_room (Nat.le_of_ble_eq_true rfl)) dL_law_1122 ⟨by show _ ≤ 604008; omega, by show _ ≤ 7284081; omega⟩) hP2 hD2 hS2 hA [2, 3, 4, 5, 7, 8] [0, 1, 6] rfl (by decide) (fun r_1122 u_1122 H5 locs5 hq_1122 hP5 hD5 hS5 => ?_)
  clear hP2 hD2 hS2 hPc4 hDc4
  obtain ⟨th2_1122, op2_1122, wh2_1122⟩ := u_1122
  have hP5 : va_P D vwCl (fl [aW T 0 (q 2) 111 thn, aW T 0 (q 3) 666 past, aW T 0 (q 4) 60 f, aW T 0 (q 5) 27 told, oW T o g2, w2, mO q (nI kp) (nI n) th2_1122 (nI at_) isF op2_1122, aW T 0 (q 1) 111 mm, aW T 0 (q 6) 3 wh2_1122]) _ := hP5
  have hD5 : va_D A (fl [aW T 0 (q 2) 111 thn, aW T 0 (q 3) 666 past, aW T 0 (q 4) 60 f, aW T 0 (q 5) 27 told, oW T o g2, w2, mO q (nI kp) (nI n) th2_1122 (nI at_) isF op2_1122, aW T 0 (q 1) 111 mm, aW T 0 (q 6) 3 wh2_1122]) := hD5
  have hq_1122 : (r_1122, th2_1122) = waitsP (xs (3 * k + 1)) mm wh := hq_1122
  have hP6 : va_P D vwCl (fl [aW T 0 (q 2) 111 thn, aW T 0 (q 3) 666 past, aW T 0 (q 4) 60 f, aW T 0 (q 5) 27 told, oW T o g2, mO q (nI kp) (nI n) th2_1122 (nI at_) isF op2_1122, aW T 0 (q 1) 111 mm, aW T 0 (q 6) 3 wh2_1122, w2]) _ := flP_sub hP5 [0, 1, 2, 3, 4, 6, 7, 8, 5] rfl
  have hD6 : va_D A (fl [aW T 0 (q 2) 111 thn, aW T 0 (q 3) 666 past, aW T 0 (q 4) 60 f, aW T 0 (q 5) 27 told, oW T o g2, mO q (nI kp) (nI n) th2_1122 (nI at_) isF op2_1122, aW T 0 (q 1) 111 mm, aW T 0 (q 6) 3 wh2_1122, w2]) := flD_sub hD5 [0, 1, 2, 3, 4, 6, 7, 8, 5] (by decide) rfl
  have hS6 := hS5
  clear hP5 hS5 hD5
  have hq9 := hq_1122.trans (waitsP_wh _ _ _ (fun _ => 0))
  rw [← hq9] at hw
  have hw1 : r_w = th2_1122 := hw.1
  have hw2 : r_w = nI 0 → g2 0 = r_1122.toInt64 := hw.2.1
  have hI2 : XINV T xa w2 mm past kp f n (96 * k + 96) := hw.2.2
  refine lv_istore (lv' := [(6, .int r_1122), (5, .int r_w), (0, .ref b), (1, .ref xa), (2, .ref (q 0)), (3, .ref o), (4, .int (nI (3 * k)))]) hx hb dL_law_1125 hl3 (by decide) rfl (fun ls7 hl7 => ?_)
  clear hl3
  refine lv_aload_n hx hb dL_law_1127 rfl (lv_at hl7 4 rfl) ?_
  have hPc8 : va_P D vwCl (fl [mO q (nI kp) (nI n) th2_1122 (nI at_) isF op2_1122]) _ := hP6.sub [5] rfl
  refine cr_i (va_runV (As := []) (rest := []) ⟨hx, hb, hml, hown, hts⟩ (c_X6_thrown l D T q kp n th2_1122 at_ isF op2_1122 ) (mkV hts okX6_thrown kw_707 kw_708 kw_709 ⟨rfl, rfl, Nat.le_of_ble_eq_true rfl, Nat.le_of_ble_eq_true rfl⟩) (pv_ro hK hPc8 (q0 := 0) rfl rfl rfl) rfl rfl hl7.1 rfl (lv_room (Nat.le_of_ble_eq_true rfl)) dL_law_1128 ⟨by show _ ≤ 604008; omega, by show _ ≤ 7284081; omega⟩) hP6 hS6 (fun r_1128 H9 locs9 hq_1128 hP9 hS9 => ?_)
  clear hP6 hS6 hPc8
  have hD9 := hD6
  clear hD6
  have hq_1128 : r_1128 = th2_1122 := hq_1128
  subst hq_1128
  refine lv_iload hx hb dL_law_1131 (lv_at hl7 1 rfl) ?_
  refine lv_icmp_eq (tgt := 1138) hx hb dL_law_1133 (by decide) (fun c10 => ?_) (fun c10 => absurd (hw1.symm) c10)
  refine lv_iload hx hb dL_law_1138 (lv_at hl7 1 rfl) ?_
  refine lv_if_ne (tgt := 1155) hx hb dL_law_1140 (by decide) (fun c_1140 => ?_) (fun c_1140 => ?_)
  · skip
    refine lv_goto (tgt := 1363) hx hb dL_law_1155 (by decide) ?_
    have hP12 : va_P D vwCl (fl [oW T o g2, mO q (nI kp) (nI n) r_1128 (nI at_) isF op2_1122, aW T 0 (q 1) 111 mm, aW T 0 (q 2) 111 thn, aW T 0 (q 3) 666 past, aW T 0 (q 4) 60 f, aW T 0 (q 5) 27 told, aW T 0 (q 6) 3 wh2_1122, w2]) _ := flP_sub hP9 [4, 5, 6, 0, 1, 2, 3, 7, 8] rfl
    have hD12 : va_D A (fl [oW T o g2, mO q (nI kp) (nI n) r_1128 (nI at_) isF op2_1122, aW T 0 (q 1) 111 mm, aW T 0 (q 2) 111 thn, aW T 0 (q 3) 666 past, aW T 0 (q 4) 60 f, aW T 0 (q 5) 27 told, aW T 0 (q 6) 3 wh2_1122, w2]) := flD_sub hD9 [4, 5, 6, 0, 1, 2, 3, 7, 8] (by decide) rfl
    have hS12 := hS9
    clear hP9 hS9 hD9
    refine W.widen (k := 160 + 3 * k + 3) (n := 2200 + 18 * k + 18) (by omega) (by omega) ?_
    exact KK w2 g2 r_1128 at_ isF op2_1122 thn told wh2_1122 mm past f kp n hI2 _ _ hP12 hD12 hS12 _ (lv_sub hl7 [2, 3, 4, 5, 6] rfl)
  · skip
    refine lv_aload_n hx hb dL_law_1143 rfl (lv_at hl7 5 rfl) ?_
    refine lv_iconst (v := nI 0) hx hb dL_law_1144 (by decide) ?_
    refine r_lald hx hb hK hP9 4 (f := g2) rfl 0 (by decide) dL_law_1145 (by decide) ?_
    refine lv_iload hx hb dL_law_1146 (lv_at hl7 0 rfl) ?_
    refine lv_i2l hx hb dL_law_1148 rfl ?_
    refine W.lcmp hx hb dL_law_1149 ?_
    refine tp_i (y := nI 0) (by rw [hw2 c_1140]; exact lgc_self _) ?_
    refine n_if_eq (tgt := 1155) hx hb (by omega) dL_law_1150 (by decide) (fun c13 => ?_) (fun c13 => absurd (by decide) c13)
    refine lv_goto (tgt := 1363) hx hb dL_law_1155 (by decide) ?_
    have hP14 : va_P D vwCl (fl [oW T o g2, mO q (nI kp) (nI n) r_1128 (nI at_) isF op2_1122, aW T 0 (q 1) 111 mm, aW T 0 (q 2) 111 thn, aW T 0 (q 3) 666 past, aW T 0 (q 4) 60 f, aW T 0 (q 5) 27 told, aW T 0 (q 6) 3 wh2_1122, w2]) _ := flP_sub hP9 [4, 5, 6, 0, 1, 2, 3, 7, 8] rfl
    have hD14 : va_D A (fl [oW T o g2, mO q (nI kp) (nI n) r_1128 (nI at_) isF op2_1122, aW T 0 (q 1) 111 mm, aW T 0 (q 2) 111 thn, aW T 0 (q 3) 666 past, aW T 0 (q 4) 60 f, aW T 0 (q 5) 27 told, aW T 0 (q 6) 3 wh2_1122, w2]) := flD_sub hD9 [4, 5, 6, 0, 1, 2, 3, 7, 8] (by decide) rfl
    have hS14 := hS9
    clear hP9 hS9 hD9
    refine W.widen (k := 160 + 3 * k + 3) (n := 2200 + 18 * k + 18) (by omega) (by omega) ?_
    exact KK w2 g2 r_1128 at_ isF op2_1122 thn told wh2_1122 mm past f kp n hI2 _ _ hP14 hD14 hS14 _ (lv_sub hl7 [2, 3, 4, 5, 6] rfl)
set_option maxHeartbeats 4000000 in
set_option maxRecDepth 100000 in
theorem law_ifPassed {pX : Program} {l : Launch} {eX : Env} {sX : State} {mX : MethodId} {bX : List Frame} {mtX : Method} {cX : Code} {D : va_G} {T : TI} {A : Nat → Prop} {b L : Nat} {xs : Nat → Int32} {xa o : Nat} {q : Nat → Nat} {TG : State → Prop} (hCX : LCX pX l sX mX cX D T A b L xs) (k : Nat) (hk : 3 * k + 3 ≤ L) (KK : LWP pX l eX sX mX bX mtX cX D T A b xa o q TG (96 * k + 96) (160 + 3 * k + 3) (2200 + 18 * k + 18) k 1363) : LWP pX l eX sX mX bX mtX cX D T A b xa o q TG (96 * k) (160 + 3 * k) (2200 + 18 * k) k 1158 := by
  obtain ⟨hx, hb, hml, hown, hts, hXs0, hls0, hns0, hK, hST, hA, hl, hL15⟩ := hCX
  intro w g th at_ isF op thn told wh mm past f kp n hI H0 locs0 hP0 hD0 hS0 ls0 hl0
  obtain ⟨hokS, hkp6, hn60⟩ := hI.okS
  refine lv_aload_n hx hb dL_law_1158 rfl (lv_at hl0 1 rfl) ?_
  refine lv_aload_n hx hb dL_law_1159 rfl (lv_at hl0 0 rfl) ?_
  refine lv_iload hx hb dL_law_1160 (lv_at hl0 4 rfl) ?_
  refine lv_iconst (v := nI 1) hx hb dL_law_1162 (by decide) ?_
  refine lv_iadd hx hb dL_law_1163 ?_
  refine tp_i (y := nI (3 * k + 1)) (nI_add _ _) ?_
  refine r_sld hx hb hXs0 hls0 hns0 hS0 (3 * k + 1) dL_law_1164 (by omega) ?_
  refine lv_aload_n hx hb dL_law_1165 rfl (lv_at hl0 0 rfl) ?_
  refine lv_iload hx hb dL_law_1166 (lv_at hl0 4 rfl) ?_
  refine lv_iconst (v := nI 2) hx hb dL_law_1168 (by decide) ?_
  refine lv_iadd hx hb dL_law_1169 ?_
  refine tp_i (y := nI (3 * k + 2)) (nI_add _ _) ?_
  refine r_sld hx hb hXs0 hls0 hns0 hS0 (3 * k + 2) dL_law_1170 (by omega) ?_
  refine lv_aload_n hx hb dL_law_1171 rfl (lv_at hl0 3 rfl) ?_
  have hPc1 : va_P D vwCl (fl [oW T o g, w]) _ := flP_sub hP0 [0, 8] rfl
  have hDc1 : va_D A (fl [oW T o g, w]) := flD_sub hD0 [0, 8] (by decide) rfl
  refine clx_i (br := [mO q (nI kp) (nI n) th (nI at_) isF op, aW T 0 (q 1) 111 mm, aW T 0 (q 2) 111 thn, aW T 0 (q 3) 666 past, aW T 0 (q 4) 60 f, aW T 0 (q 5) 27 told, aW T 0 (q 6) 3 wh]) (vx_runSX (As := [.ref xa, .int (xs (3 * k + 1)), .int (xs (3 * k + 2)), .ref o]) (rest := []) ⟨hx, hb, hml, hown, hts⟩ (c_L_ifPassed l D T hl hI (by omega) o g (xs (3 * k + 1)) (xs (3 * k + 2)) _) (mkSW (n := 4) hts kcw_ifPassed kw_0 kw_656 kw_657 ⟨by decide, by decide⟩ (by decide +kernel) ⟨rfl, rfl, Nat.le_of_ble_eq_true rfl, Nat.le_of_ble_eq_true rfl⟩) (ps_x hK hST hS0 hPc1 hDc1 (vA_c (br := [mO q (nI kp) (nI n) th (nI at_) isF op, aW T 0 (q 1) 111 mm, aW T 0 (q 2) 111 thn, aW T 0 (q 3) 666 past, aW T 0 (q 4) 60 f, aW T 0 (q 5) 27 told, aW T 0 (q 6) 3 wh]) hP0 hD0 hS0 hA (isR := [1, 2, 3, 4, 5, 6, 7]) (isC := [0, 8]) rfl (by decide))) rfl rfl hl0.1 rfl (lv_room (Nat.le_of_ble_eq_true rfl)) dL_law_1172 ⟨by show _ ≤ 604008; omega, by show _ ≤ 7284081; omega⟩) hP0 hD0 hS0 hA [1, 2, 3, 4, 5, 6, 7] [0, 8] rfl (by decide) (fun E ce q9 _ux Hx lx hqx hPx hDx hSx h1 h2 h3 => absurd hqx (by simp)) (fun r_w u_w H2 locs2 hw hP2 hD2 hS2 => ?_)
  clear hP0 hD0 hS0 hPc1 hDc1
  obtain ⟨w2, g2⟩ := u_w
  have hP2 : va_P D vwCl (fl [mO q (nI kp) (nI n) th (nI at_) isF op, aW T 0 (q 1) 111 mm, aW T 0 (q 2) 111 thn, aW T 0 (q 3) 666 past, aW T 0 (q 4) 60 f, aW T 0 (q 5) 27 told, aW T 0 (q 6) 3 wh, oW T o g2, w2]) _ := hP2
  have hD2 : va_D A (fl [mO q (nI kp) (nI n) th (nI at_) isF op, aW T 0 (q 1) 111 mm, aW T 0 (q 2) 111 thn, aW T 0 (q 3) 666 past, aW T 0 (q 4) 60 f, aW T 0 (q 5) 27 told, aW T 0 (q 6) 3 wh, oW T o g2, w2]) := hD2
  refine lv_istore (lv' := [(5, .int r_w), (0, .ref b), (1, .ref xa), (2, .ref (q 0)), (3, .ref o), (4, .int (nI (3 * k)))]) hx hb dL_law_1175 hl0 (by decide) rfl (fun ls3 hl3 => ?_)
  clear hl0
  refine lv_aload_n hx hb dL_law_1177 rfl (lv_at hl3 3 rfl) ?_
  refine lv_aload_n hx hb dL_law_1178 rfl (lv_at hl3 1 rfl) ?_
  refine lv_iload hx hb dL_law_1179 (lv_at hl3 5 rfl) ?_
  refine lv_iconst (v := nI 1) hx hb dL_law_1181 (by decide) ?_
  refine lv_iadd hx hb dL_law_1182 ?_
  refine tp_i (y := nI (3 * k + 1)) (nI_add _ _) ?_
  refine r_sld hx hb hXs0 hls0 hns0 hS2 (3 * k + 1) dL_law_1183 (by omega) ?_
  refine lv_aload_n hx hb dL_law_1184 rfl (lv_at hl3 1 rfl) ?_
  refine lv_iload hx hb dL_law_1185 (lv_at hl3 5 rfl) ?_
  refine lv_iconst (v := nI 2) hx hb dL_law_1187 (by decide) ?_
  refine lv_iadd hx hb dL_law_1188 ?_
  refine tp_i (y := nI (3 * k + 2)) (nI_add _ _) ?_
  refine r_sld hx hb hXs0 hls0 hns0 hS2 (3 * k + 2) dL_law_1189 (by omega) ?_
  have hPc4 : va_P D vwCl (fl [mO q (nI kp) (nI n) th (nI at_) isF op, aW T 0 (q 1) 111 mm, aW T 0 (q 2) 111 thn, aW T 0 (q 6) 3 wh]) _ := flP_sub hP2 [0, 1, 2, 6] rfl
  have hDc4 : va_D A (fl [mO q (nI kp) (nI n) th (nI at_) isF op, aW T 0 (q 1) 111 mm, aW T 0 (q 2) 111 thn, aW T 0 (q 6) 3 wh]) := flD_sub hD2 [0, 1, 2, 6] (by decide) rfl
  refine cl_i (br := [aW T 0 (q 3) 666 past, aW T 0 (q 4) 60 f, aW T 0 (q 5) 27 told, oW T o g2, w2]) (va_runV (As := [.int (xs (3 * k + 1)), .int (xs (3 * k + 2))]) (rest := []) ⟨hx, hb, hml, hown, hts⟩ (c_X6_ifPassed l D T q kp n th at_ isF op mm thn wh (xs (3 * k + 1)) (xs (3 * k + 2)) (hokS) _) (mkV hts okX6_ifPassed kw_875 kw_876 kw_877 ⟨rfl, rfl, Nat.le_of_ble_eq_true rfl, Nat.le_of_ble_eq_true rfl⟩) (pv_rw hK hPc4 hDc4 (q0 := 0) rfl rfl rfl) rfl rfl hl3.1 rfl (lv_room (Nat.le_of_ble_eq_true rfl)) dL_law_1190 ⟨by show _ ≤ 604008; omega, by show _ ≤ 7284081; omega⟩) hP2 hD2 hS2 hA [3, 4, 5, 7, 8] [0, 1, 2, 6] rfl (by decide) (fun r_1190 u_1190 H5 locs5 hq_1190 hP5 hD5 hS5 => ?_)
  clear hP2 hD2 hS2 hPc4 hDc4
  obtain ⟨th2_1190, op2_1190, thn2_1190, wh2_1190⟩ := u_1190
  have hP5 : va_P D vwCl (fl [aW T 0 (q 3) 666 past, aW T 0 (q 4) 60 f, aW T 0 (q 5) 27 told, oW T o g2, w2, mO q (nI kp) (nI n) th2_1190 (nI at_) isF op2_1190, aW T 0 (q 1) 111 mm, aW T 0 (q 2) 111 thn2_1190, aW T 0 (q 6) 3 wh2_1190]) _ := hP5
  have hD5 : va_D A (fl [aW T 0 (q 3) 666 past, aW T 0 (q 4) 60 f, aW T 0 (q 5) 27 told, oW T o g2, w2, mO q (nI kp) (nI n) th2_1190 (nI at_) isF op2_1190, aW T 0 (q 1) 111 mm, aW T 0 (q 2) 111 thn2_1190, aW T 0 (q 6) 3 wh2_1190]) := hD5
  have hq_1190 : (r_1190, th2_1190) = ifPassedP (xs (3 * k + 1)) (xs (3 * k + 2)) (va_cpy mm thn 0 0 111) mm := hq_1190
  have hP6 : va_P D vwCl (fl [aW T 0 (q 3) 666 past, aW T 0 (q 4) 60 f, aW T 0 (q 5) 27 told, oW T o g2, mO q (nI kp) (nI n) th2_1190 (nI at_) isF op2_1190, aW T 0 (q 1) 111 mm, aW T 0 (q 2) 111 thn2_1190, aW T 0 (q 6) 3 wh2_1190, w2]) _ := flP_sub hP5 [0, 1, 2, 3, 5, 6, 7, 8, 4] rfl
  have hD6 : va_D A (fl [aW T 0 (q 3) 666 past, aW T 0 (q 4) 60 f, aW T 0 (q 5) 27 told, oW T o g2, mO q (nI kp) (nI n) th2_1190 (nI at_) isF op2_1190, aW T 0 (q 1) 111 mm, aW T 0 (q 2) 111 thn2_1190, aW T 0 (q 6) 3 wh2_1190, w2]) := flD_sub hD5 [0, 1, 2, 3, 5, 6, 7, 8, 4] (by decide) rfl
  have hS6 := hS5
  clear hP5 hS5 hD5
  have hq9 := hq_1190.trans (ifPassedP_m hokS _ _ _)
  rw [← hq9] at hw
  have hw1 : r_w = th2_1190 := hw.1
  have hw2 : r_w = nI 0 → g2 0 = r_1190.toInt64 := hw.2.1
  have hI2 : XINV T xa w2 mm past kp f n (96 * k + 96) := hw.2.2
  refine lv_istore (lv' := [(6, .int r_1190), (5, .int r_w), (0, .ref b), (1, .ref xa), (2, .ref (q 0)), (3, .ref o), (4, .int (nI (3 * k)))]) hx hb dL_law_1193 hl3 (by decide) rfl (fun ls7 hl7 => ?_)
  clear hl3
  refine lv_aload_n hx hb dL_law_1195 rfl (lv_at hl7 4 rfl) ?_
  have hPc8 : va_P D vwCl (fl [mO q (nI kp) (nI n) th2_1190 (nI at_) isF op2_1190]) _ := hP6.sub [4] rfl
  refine cr_i (va_runV (As := []) (rest := []) ⟨hx, hb, hml, hown, hts⟩ (c_X6_thrown l D T q kp n th2_1190 at_ isF op2_1190 ) (mkV hts okX6_thrown kw_707 kw_708 kw_709 ⟨rfl, rfl, Nat.le_of_ble_eq_true rfl, Nat.le_of_ble_eq_true rfl⟩) (pv_ro hK hPc8 (q0 := 0) rfl rfl rfl) rfl rfl hl7.1 rfl (lv_room (Nat.le_of_ble_eq_true rfl)) dL_law_1196 ⟨by show _ ≤ 604008; omega, by show _ ≤ 7284081; omega⟩) hP6 hS6 (fun r_1196 H9 locs9 hq_1196 hP9 hS9 => ?_)
  clear hP6 hS6 hPc8
  have hD9 := hD6
  clear hD6
  have hq_1196 : r_1196 = th2_1190 := hq_1196
  subst hq_1196
  refine lv_iload hx hb dL_law_1199 (lv_at hl7 1 rfl) ?_
  refine lv_icmp_eq (tgt := 1206) hx hb dL_law_1201 (by decide) (fun c10 => ?_) (fun c10 => absurd (hw1.symm) c10)
  refine lv_iload hx hb dL_law_1206 (lv_at hl7 1 rfl) ?_
  refine lv_if_ne (tgt := 1223) hx hb dL_law_1208 (by decide) (fun c_1208 => ?_) (fun c_1208 => ?_)
  · skip
    refine lv_goto (tgt := 1363) hx hb dL_law_1223 (by decide) ?_
    have hP12 : va_P D vwCl (fl [oW T o g2, mO q (nI kp) (nI n) r_1196 (nI at_) isF op2_1190, aW T 0 (q 1) 111 mm, aW T 0 (q 2) 111 thn2_1190, aW T 0 (q 3) 666 past, aW T 0 (q 4) 60 f, aW T 0 (q 5) 27 told, aW T 0 (q 6) 3 wh2_1190, w2]) _ := flP_sub hP9 [3, 4, 5, 6, 0, 1, 2, 7, 8] rfl
    have hD12 : va_D A (fl [oW T o g2, mO q (nI kp) (nI n) r_1196 (nI at_) isF op2_1190, aW T 0 (q 1) 111 mm, aW T 0 (q 2) 111 thn2_1190, aW T 0 (q 3) 666 past, aW T 0 (q 4) 60 f, aW T 0 (q 5) 27 told, aW T 0 (q 6) 3 wh2_1190, w2]) := flD_sub hD9 [3, 4, 5, 6, 0, 1, 2, 7, 8] (by decide) rfl
    have hS12 := hS9
    clear hP9 hS9 hD9
    refine W.widen (k := 160 + 3 * k + 3) (n := 2200 + 18 * k + 18) (by omega) (by omega) ?_
    exact KK w2 g2 r_1196 at_ isF op2_1190 thn2_1190 told wh2_1190 mm past f kp n hI2 _ _ hP12 hD12 hS12 _ (lv_sub hl7 [2, 3, 4, 5, 6] rfl)
  · skip
    refine lv_aload_n hx hb dL_law_1211 rfl (lv_at hl7 5 rfl) ?_
    refine lv_iconst (v := nI 0) hx hb dL_law_1212 (by decide) ?_
    refine r_lald hx hb hK hP9 3 (f := g2) rfl 0 (by decide) dL_law_1213 (by decide) ?_
    refine lv_iload hx hb dL_law_1214 (lv_at hl7 0 rfl) ?_
    refine lv_i2l hx hb dL_law_1216 rfl ?_
    refine W.lcmp hx hb dL_law_1217 ?_
    refine tp_i (y := nI 0) (by rw [hw2 c_1208]; exact lgc_self _) ?_
    refine n_if_eq (tgt := 1223) hx hb (by omega) dL_law_1218 (by decide) (fun c13 => ?_) (fun c13 => absurd (by decide) c13)
    refine lv_goto (tgt := 1363) hx hb dL_law_1223 (by decide) ?_
    have hP14 : va_P D vwCl (fl [oW T o g2, mO q (nI kp) (nI n) r_1196 (nI at_) isF op2_1190, aW T 0 (q 1) 111 mm, aW T 0 (q 2) 111 thn2_1190, aW T 0 (q 3) 666 past, aW T 0 (q 4) 60 f, aW T 0 (q 5) 27 told, aW T 0 (q 6) 3 wh2_1190, w2]) _ := flP_sub hP9 [3, 4, 5, 6, 0, 1, 2, 7, 8] rfl
    have hD14 : va_D A (fl [oW T o g2, mO q (nI kp) (nI n) r_1196 (nI at_) isF op2_1190, aW T 0 (q 1) 111 mm, aW T 0 (q 2) 111 thn2_1190, aW T 0 (q 3) 666 past, aW T 0 (q 4) 60 f, aW T 0 (q 5) 27 told, aW T 0 (q 6) 3 wh2_1190, w2]) := flD_sub hD9 [3, 4, 5, 6, 0, 1, 2, 7, 8] (by decide) rfl
    have hS14 := hS9
    clear hP9 hS9 hD9
    refine W.widen (k := 160 + 3 * k + 3) (n := 2200 + 18 * k + 18) (by omega) (by omega) ?_
    exact KK w2 g2 r_1196 at_ isF op2_1190 thn2_1190 told wh2_1190 mm past f kp n hI2 _ _ hP14 hD14 hS14 _ (lv_sub hl7 [2, 3, 4, 5, 6] rfl)
set_option maxHeartbeats 4000000 in
set_option maxRecDepth 100000 in
theorem law_leastPressure {pX : Program} {l : Launch} {eX : Env} {sX : State} {mX : MethodId} {bX : List Frame} {mtX : Method} {cX : Code} {D : va_G} {T : TI} {A : Nat → Prop} {b L : Nat} {xs : Nat → Int32} {xa o : Nat} {q : Nat → Nat} {TG : State → Prop} (hCX : LCX pX l sX mX cX D T A b L xs) (k : Nat) (hk : 3 * k + 3 ≤ L) (KK : LWP pX l eX sX mX bX mtX cX D T A b xa o q TG (96 * k + 96) (160 + 3 * k + 3) (2200 + 18 * k + 18) k 1363) : LWP pX l eX sX mX bX mtX cX D T A b xa o q TG (96 * k) (160 + 3 * k) (2200 + 18 * k) k 1252 := by
  obtain ⟨hx, hb, hml, hown, hts, hXs0, hls0, hns0, hK, hST, hA, hl, hL15⟩ := hCX
  intro w g th at_ isF op thn told wh mm past f kp n hI H0 locs0 hP0 hD0 hS0 ls0 hl0
  obtain ⟨hokS, hkp6, hn60⟩ := hI.okS
  refine lv_aload_n hx hb dL_law_1252 rfl (lv_at hl0 1 rfl) ?_
  refine lv_aload_n hx hb dL_law_1253 rfl (lv_at hl0 0 rfl) ?_
  refine lv_iload hx hb dL_law_1254 (lv_at hl0 4 rfl) ?_
  refine lv_iconst (v := nI 1) hx hb dL_law_1256 (by decide) ?_
  refine lv_iadd hx hb dL_law_1257 ?_
  refine tp_i (y := nI (3 * k + 1)) (nI_add _ _) ?_
  refine r_sld hx hb hXs0 hls0 hns0 hS0 (3 * k + 1) dL_law_1258 (by omega) ?_
  refine lv_aload_n hx hb dL_law_1259 rfl (lv_at hl0 3 rfl) ?_
  have hPc1 : va_P D vwCl (fl [oW T o g, w]) _ := flP_sub hP0 [0, 8] rfl
  have hDc1 : va_D A (fl [oW T o g, w]) := flD_sub hD0 [0, 8] (by decide) rfl
  refine clx_i (br := [mO q (nI kp) (nI n) th (nI at_) isF op, aW T 0 (q 1) 111 mm, aW T 0 (q 2) 111 thn, aW T 0 (q 3) 666 past, aW T 0 (q 4) 60 f, aW T 0 (q 5) 27 told, aW T 0 (q 6) 3 wh]) (vx_runSX (As := [.ref xa, .int (xs (3 * k + 1)), .ref o]) (rest := []) ⟨hx, hb, hml, hown, hts⟩ (c_L_leastPressure l D T hl hI (by omega) o g (xs (3 * k + 1)) _) (mkSW (n := 3) hts kcw_leastPressure kw_0 kw_660 kw_661 ⟨by decide, by decide⟩ (by decide +kernel) ⟨rfl, rfl, Nat.le_of_ble_eq_true rfl, Nat.le_of_ble_eq_true rfl⟩) (ps_x hK hST hS0 hPc1 hDc1 (vA_c (br := [mO q (nI kp) (nI n) th (nI at_) isF op, aW T 0 (q 1) 111 mm, aW T 0 (q 2) 111 thn, aW T 0 (q 3) 666 past, aW T 0 (q 4) 60 f, aW T 0 (q 5) 27 told, aW T 0 (q 6) 3 wh]) hP0 hD0 hS0 hA (isR := [1, 2, 3, 4, 5, 6, 7]) (isC := [0, 8]) rfl (by decide))) rfl rfl hl0.1 rfl (lv_room (Nat.le_of_ble_eq_true rfl)) dL_law_1260 ⟨by show _ ≤ 604008; omega, by show _ ≤ 7284081; omega⟩) hP0 hD0 hS0 hA [1, 2, 3, 4, 5, 6, 7] [0, 8] rfl (by decide) (fun E ce q9 _ux Hx lx hqx hPx hDx hSx h1 h2 h3 => absurd hqx (by simp)) (fun r_w u_w H2 locs2 hw hP2 hD2 hS2 => ?_)
  clear hP0 hD0 hS0 hPc1 hDc1
  obtain ⟨w2, g2⟩ := u_w
  have hP2 : va_P D vwCl (fl [mO q (nI kp) (nI n) th (nI at_) isF op, aW T 0 (q 1) 111 mm, aW T 0 (q 2) 111 thn, aW T 0 (q 3) 666 past, aW T 0 (q 4) 60 f, aW T 0 (q 5) 27 told, aW T 0 (q 6) 3 wh, oW T o g2, w2]) _ := hP2
  have hD2 : va_D A (fl [mO q (nI kp) (nI n) th (nI at_) isF op, aW T 0 (q 1) 111 mm, aW T 0 (q 2) 111 thn, aW T 0 (q 3) 666 past, aW T 0 (q 4) 60 f, aW T 0 (q 5) 27 told, aW T 0 (q 6) 3 wh, oW T o g2, w2]) := hD2
  refine lv_istore (lv' := [(5, .int r_w), (0, .ref b), (1, .ref xa), (2, .ref (q 0)), (3, .ref o), (4, .int (nI (3 * k)))]) hx hb dL_law_1263 hl0 (by decide) rfl (fun ls3 hl3 => ?_)
  clear hl0
  refine lv_aload_n hx hb dL_law_1265 rfl (lv_at hl3 3 rfl) ?_
  refine lv_aload_n hx hb dL_law_1266 rfl (lv_at hl3 1 rfl) ?_
  refine lv_iload hx hb dL_law_1267 (lv_at hl3 5 rfl) ?_
  refine lv_iconst (v := nI 1) hx hb dL_law_1269 (by decide) ?_
  refine lv_iadd hx hb dL_law_1270 ?_
  refine tp_i (y := nI (3 * k + 1)) (nI_add _ _) ?_
  refine r_sld hx hb hXs0 hls0 hns0 hS2 (3 * k + 1) dL_law_1271 (by omega) ?_
  have hPc4 : va_P D vwCl (fl [mO q (nI kp) (nI n) th (nI at_) isF op, aW T 0 (q 1) 111 mm, aW T 0 (q 2) 111 thn]) _ := flP_sub hP2 [0, 1, 2] rfl
  have hDc4 : va_D A (fl [mO q (nI kp) (nI n) th (nI at_) isF op, aW T 0 (q 1) 111 mm, aW T 0 (q 2) 111 thn]) := flD_sub hD2 [0, 1, 2] (by decide) rfl
  refine cl_i (br := [aW T 0 (q 3) 666 past, aW T 0 (q 4) 60 f, aW T 0 (q 5) 27 told, aW T 0 (q 6) 3 wh, oW T o g2, w2]) (va_runV (As := [.int (xs (3 * k + 1))]) (rest := []) ⟨hx, hb, hml, hown, hts⟩ (c_X6_leastPressure l D T q kp n th at_ isF op mm thn (xs (3 * k + 1))  _) (mkV hts okX6_leastPressure kw_899 kw_900 kw_901 ⟨rfl, rfl, Nat.le_of_ble_eq_true rfl, Nat.le_of_ble_eq_true rfl⟩) (pv_rw hK hPc4 hDc4 (q0 := 0) rfl rfl rfl) rfl rfl hl3.1 rfl (lv_room (Nat.le_of_ble_eq_true rfl)) dL_law_1272 ⟨by show _ ≤ 604008; omega, by show _ ≤ 7284081; omega⟩) hP2 hD2 hS2 hA [3, 4, 5, 6, 7, 8] [0, 1, 2] rfl (by decide) (fun r_1272 u_1272 H5 locs5 hq_1272 hP5 hD5 hS5 => ?_)
  clear hP2 hD2 hS2 hPc4 hDc4
  obtain ⟨th2_1272, thn2_1272⟩ := u_1272
  have hP5 : va_P D vwCl (fl [aW T 0 (q 3) 666 past, aW T 0 (q 4) 60 f, aW T 0 (q 5) 27 told, aW T 0 (q 6) 3 wh, oW T o g2, w2, mO q (nI kp) (nI n) th2_1272 (nI at_) isF op, aW T 0 (q 1) 111 mm, aW T 0 (q 2) 111 thn2_1272]) _ := hP5
  have hD5 : va_D A (fl [aW T 0 (q 3) 666 past, aW T 0 (q 4) 60 f, aW T 0 (q 5) 27 told, aW T 0 (q 6) 3 wh, oW T o g2, w2, mO q (nI kp) (nI n) th2_1272 (nI at_) isF op, aW T 0 (q 1) 111 mm, aW T 0 (q 2) 111 thn2_1272]) := hD5
  have hq_1272 : (r_1272, th2_1272) = leastP (xs (3 * k + 1)) mm := hq_1272
  have hP6 : va_P D vwCl (fl [aW T 0 (q 3) 666 past, aW T 0 (q 4) 60 f, aW T 0 (q 5) 27 told, aW T 0 (q 6) 3 wh, oW T o g2, mO q (nI kp) (nI n) th2_1272 (nI at_) isF op, aW T 0 (q 1) 111 mm, aW T 0 (q 2) 111 thn2_1272, w2]) _ := flP_sub hP5 [0, 1, 2, 3, 4, 6, 7, 8, 5] rfl
  have hD6 : va_D A (fl [aW T 0 (q 3) 666 past, aW T 0 (q 4) 60 f, aW T 0 (q 5) 27 told, aW T 0 (q 6) 3 wh, oW T o g2, mO q (nI kp) (nI n) th2_1272 (nI at_) isF op, aW T 0 (q 1) 111 mm, aW T 0 (q 2) 111 thn2_1272, w2]) := flD_sub hD5 [0, 1, 2, 3, 4, 6, 7, 8, 5] (by decide) rfl
  have hS6 := hS5
  clear hP5 hS5 hD5
  rw [← hq_1272] at hw
  have hw1 : r_w = th2_1272 := hw.1
  have hw2 : r_w = nI 0 → g2 0 = r_1272.toInt64 := hw.2.1
  have hI2 : XINV T xa w2 mm past kp f n (96 * k + 96) := hw.2.2
  refine lv_istore (lv' := [(6, .int r_1272), (5, .int r_w), (0, .ref b), (1, .ref xa), (2, .ref (q 0)), (3, .ref o), (4, .int (nI (3 * k)))]) hx hb dL_law_1275 hl3 (by decide) rfl (fun ls7 hl7 => ?_)
  clear hl3
  refine lv_aload_n hx hb dL_law_1277 rfl (lv_at hl7 4 rfl) ?_
  have hPc8 : va_P D vwCl (fl [mO q (nI kp) (nI n) th2_1272 (nI at_) isF op]) _ := hP6.sub [5] rfl
  refine cr_i (va_runV (As := []) (rest := []) ⟨hx, hb, hml, hown, hts⟩ (c_X6_thrown l D T q kp n th2_1272 at_ isF op ) (mkV hts okX6_thrown kw_707 kw_708 kw_709 ⟨rfl, rfl, Nat.le_of_ble_eq_true rfl, Nat.le_of_ble_eq_true rfl⟩) (pv_ro hK hPc8 (q0 := 0) rfl rfl rfl) rfl rfl hl7.1 rfl (lv_room (Nat.le_of_ble_eq_true rfl)) dL_law_1278 ⟨by show _ ≤ 604008; omega, by show _ ≤ 7284081; omega⟩) hP6 hS6 (fun r_1278 H9 locs9 hq_1278 hP9 hS9 => ?_)
  clear hP6 hS6 hPc8
  have hD9 := hD6
  clear hD6
  have hq_1278 : r_1278 = th2_1272 := hq_1278
  subst hq_1278
  refine lv_iload hx hb dL_law_1281 (lv_at hl7 1 rfl) ?_
  refine lv_icmp_eq (tgt := 1288) hx hb dL_law_1283 (by decide) (fun c10 => ?_) (fun c10 => absurd (hw1.symm) c10)
  refine lv_iload hx hb dL_law_1288 (lv_at hl7 1 rfl) ?_
  refine lv_if_ne (tgt := 1305) hx hb dL_law_1290 (by decide) (fun c_1290 => ?_) (fun c_1290 => ?_)
  · skip
    refine lv_goto (tgt := 1363) hx hb dL_law_1305 (by decide) ?_
    have hP12 : va_P D vwCl (fl [oW T o g2, mO q (nI kp) (nI n) r_1278 (nI at_) isF op, aW T 0 (q 1) 111 mm, aW T 0 (q 2) 111 thn2_1272, aW T 0 (q 3) 666 past, aW T 0 (q 4) 60 f, aW T 0 (q 5) 27 told, aW T 0 (q 6) 3 wh, w2]) _ := flP_sub hP9 [4, 5, 6, 7, 0, 1, 2, 3, 8] rfl
    have hD12 : va_D A (fl [oW T o g2, mO q (nI kp) (nI n) r_1278 (nI at_) isF op, aW T 0 (q 1) 111 mm, aW T 0 (q 2) 111 thn2_1272, aW T 0 (q 3) 666 past, aW T 0 (q 4) 60 f, aW T 0 (q 5) 27 told, aW T 0 (q 6) 3 wh, w2]) := flD_sub hD9 [4, 5, 6, 7, 0, 1, 2, 3, 8] (by decide) rfl
    have hS12 := hS9
    clear hP9 hS9 hD9
    refine W.widen (k := 160 + 3 * k + 3) (n := 2200 + 18 * k + 18) (by omega) (by omega) ?_
    exact KK w2 g2 r_1278 at_ isF op thn2_1272 told wh mm past f kp n hI2 _ _ hP12 hD12 hS12 _ (lv_sub hl7 [2, 3, 4, 5, 6] rfl)
  · skip
    refine lv_aload_n hx hb dL_law_1293 rfl (lv_at hl7 5 rfl) ?_
    refine lv_iconst (v := nI 0) hx hb dL_law_1294 (by decide) ?_
    refine r_lald hx hb hK hP9 4 (f := g2) rfl 0 (by decide) dL_law_1295 (by decide) ?_
    refine lv_iload hx hb dL_law_1296 (lv_at hl7 0 rfl) ?_
    refine lv_i2l hx hb dL_law_1298 rfl ?_
    refine W.lcmp hx hb dL_law_1299 ?_
    refine tp_i (y := nI 0) (by rw [hw2 c_1290]; exact lgc_self _) ?_
    refine n_if_eq (tgt := 1305) hx hb (by omega) dL_law_1300 (by decide) (fun c13 => ?_) (fun c13 => absurd (by decide) c13)
    refine lv_goto (tgt := 1363) hx hb dL_law_1305 (by decide) ?_
    have hP14 : va_P D vwCl (fl [oW T o g2, mO q (nI kp) (nI n) r_1278 (nI at_) isF op, aW T 0 (q 1) 111 mm, aW T 0 (q 2) 111 thn2_1272, aW T 0 (q 3) 666 past, aW T 0 (q 4) 60 f, aW T 0 (q 5) 27 told, aW T 0 (q 6) 3 wh, w2]) _ := flP_sub hP9 [4, 5, 6, 7, 0, 1, 2, 3, 8] rfl
    have hD14 : va_D A (fl [oW T o g2, mO q (nI kp) (nI n) r_1278 (nI at_) isF op, aW T 0 (q 1) 111 mm, aW T 0 (q 2) 111 thn2_1272, aW T 0 (q 3) 666 past, aW T 0 (q 4) 60 f, aW T 0 (q 5) 27 told, aW T 0 (q 6) 3 wh, w2]) := flD_sub hD9 [4, 5, 6, 7, 0, 1, 2, 3, 8] (by decide) rfl
    have hS14 := hS9
    clear hP9 hS9 hD9
    refine W.widen (k := 160 + 3 * k + 3) (n := 2200 + 18 * k + 18) (by omega) (by omega) ?_
    exact KK w2 g2 r_1278 at_ isF op thn2_1272 told wh mm past f kp n hI2 _ _ hP14 hD14 hS14 _ (lv_sub hl7 [2, 3, 4, 5, 6] rfl)
