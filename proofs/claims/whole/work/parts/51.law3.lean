theorem XINV.le {T : TI} {xa : Nat} {w : va_W} {mm past : Nat → Int32} {kp : Nat} {f : Nat → Int32} {n K K2 : Nat} (h : XINV T xa w mm past kp f n K) (hk : K ≤ K2) : XINV T xa w mm past kp f n K2 := by
  obtain ⟨qn, c, L, qt, ct, Lt, qh, wk, dr, re, ya, yb, F, gq, cs, Ls, ga, gb, pl, ps, e, hS, hH, hn, hps, hC⟩ := h
  exact ⟨qn, c, L, qt, ct, Lt, qh, wk, dr, re, ya, yb, F, gq, cs, Ls, ga, gb, pl, ps, e, hS, hH, hn, hps, hC.le hk⟩
theorem XINV.cmp {T : TI} {xa : Nat} {w : va_W} {mm past : Nat → Int32} {kp : Nat} {f : Nat → Int32} {n K : Nat} (h : XINV T xa w mm past kp f n K) : cmpM mm K := by
  obtain ⟨qn, c, L, qt, ct, Lt, qh, wk, dr, re, ya, yb, F, gq, cs, Ls, ga, gb, pl, ps, e, hS, hH, hn, hps, hC⟩ := h
  exact hC.1
theorem inR_sim {c : Nat → Nat → Int32} {L : Nat → Nat} {m : Nat → Int32} (h : Sim c L m) : inR m = nI (0 + L 0 + L 1 + L 2) := by
  unfold inR
  rw [show m 84 = nI (L 0) from h.2.2.2.1.1 0 (by omega), show m 93 = nI (L 1) from h.2.2.2.1.1 1 (by omega), show m 102 = nI (L 2) from h.2.2.2.1.1 2 (by omega), nI_add, nI_add, Nat.zero_add]
theorem rounds_fin {T : TI} {xa : Nat} {wb : va_W} {mm past : Nat → Int32} {kp : Nat} {f : Nat → Int32} {n K : Nat} {r : Int32} {u : va_W × (Nat → Int64)} (hI : XINV T xa wb mm past kp f n K) (hw : WQr T xa K mm past kp f n r u) : ∃ (c : Nat → Nat → Int32) (L : Nat → Nat), Sim c L mm ∧ ∀ (r6 th2 : Int32) (now2 past2 told2 : Nat → Int32) (kp2 ty2 : Nat),
    ((cmB f 0 n = false → r6 = nI 0 ∧ th2 = nI 1 ∧ now2 = mm ∧ past2 = past ∧ kp2 = kp ∧ ty2 = n) ∧ (cmB f 0 n = true → now2 = rdN mm told2 27 ∧ (∀ k, k < 3 → RT told2 c L (gvP (gvI f c L n)).1 (gvP (gvI f c L n)).2 k) ∧ r6 = inR now2 ∧ th2 = nI 0 ∧ past2 = svP mm past kp ∧ kp2 = svK kp ∧ ty2 = 0)) →
    r = th2 ∧ (r = nI 0 → u.2 0 = r6.toInt64) ∧ XINV T xa u.1 now2 past2 kp2 f ty2 (K + 96) := by
  rcases hw with ⟨h0, v, hv, hc, c, L, hS, hr, hF⟩ | ⟨h1, hc, hI2⟩
  · refine ⟨c, L, hS, fun r6 th2 now2 past2 told2 kp2 ty2 hq => ?_⟩
    obtain ⟨e1, e2, e3, e4, e5, e6, e7⟩ := hq.2 hc
    have hS2 := sim_rdN hS hc e2
    subst e1
    subst e5
    subst e6
    subst e7
    refine ⟨h0.trans e4.symm, fun _ => ?_, hF _ hS2 (cmp_rdN (hI.cmp.le (by omega)))⟩
    rw [hv, hr, e3, inR_sim hS2]
  · obtain ⟨⟨c, L, hS⟩, -⟩ := hI.okS
    refine ⟨c, L, hS, fun r6 th2 now2 past2 told2 kp2 ty2 hq => ?_⟩
    obtain ⟨e1, e2, e3, e4, e5, e6⟩ := hq.1 hc
    subst e3
    subst e4
    subst e5
    subst e6
    exact ⟨h1.trans e2.symm, fun q => absurd (h1.symm.trans q) (by decide), hI2⟩
set_option maxHeartbeats 4000000 in
set_option maxRecDepth 100000 in
theorem law_valve {pX : Program} {l : Launch} {eX : Env} {sX : State} {mX : MethodId} {bX : List Frame} {mtX : Method} {cX : Code} {D : va_G} {T : TI} {A : Nat → Prop} {b L : Nat} {xs : Nat → Int32} {xa o : Nat} {q : Nat → Nat} {TG : State → Prop} (hCX : LCX pX l sX mX cX D T A b L xs) (k : Nat) (hk : 3 * k + 3 ≤ L) (KK : LWP pX l eX sX mX bX mtX cX D T A b xa o q TG (96 * k + 96) (160 + 3 * k + 3) (2200 + 18 * k + 18) k 1363) : LWP pX l eX sX mX bX mtX cX D T A b xa o q TG (96 * k) (160 + 3 * k) (2200 + 18 * k) k 216 := by
  obtain ⟨hx, hb, hml, hown, hts, hXs0, hls0, hns0, hK, hST, hA, hl, hL15⟩ := hCX
  intro w g th at_ isF op thn told wh mm past f kp n hI H0 locs0 hP0 hD0 hS0 ls0 hl0
  obtain ⟨hokS, hkp6, hn60⟩ := hI.okS
  refine lv_aload_n hx hb dL_law_216 rfl (lv_at hl0 1 rfl) ?_
  refine lv_aload_n hx hb dL_law_217 rfl (lv_at hl0 0 rfl) ?_
  refine lv_iload hx hb dL_law_218 (lv_at hl0 4 rfl) ?_
  refine lv_iconst (v := nI 1) hx hb dL_law_220 (by decide) ?_
  refine lv_iadd hx hb dL_law_221 ?_
  refine tp_i (y := nI (3 * k + 1)) (nI_add _ _) ?_
  refine r_sld hx hb hXs0 hls0 hns0 hS0 (3 * k + 1) dL_law_222 (by omega) ?_
  refine lv_aload_n hx hb dL_law_223 rfl (lv_at hl0 0 rfl) ?_
  refine lv_iload hx hb dL_law_224 (lv_at hl0 4 rfl) ?_
  refine lv_iconst (v := nI 2) hx hb dL_law_226 (by decide) ?_
  refine lv_iadd hx hb dL_law_227 ?_
  refine tp_i (y := nI (3 * k + 2)) (nI_add _ _) ?_
  refine r_sld hx hb hXs0 hls0 hns0 hS0 (3 * k + 2) dL_law_228 (by omega) ?_
  refine lv_if_eq (tgt := 236) hx hb dL_law_229 (by decide) (fun c_229 => ?_) (fun c_229 => ?_)
  · skip
    refine lv_iconst (v := nI 0) hx hb dL_law_236 (by decide) ?_
    refine lv_aload_n hx hb dL_law_237 rfl (lv_at hl0 3 rfl) ?_
    have hPc2 : va_P D vwCl (fl [oW T o g, w]) _ := flP_sub hP0 [0, 8] rfl
    have hDc2 : va_D A (fl [oW T o g, w]) := flD_sub hD0 [0, 8] (by decide) rfl
    refine clx_i (br := [mO q (nI kp) (nI n) th (nI at_) isF op, aW T 0 (q 1) 111 mm, aW T 0 (q 2) 111 thn, aW T 0 (q 3) 666 past, aW T 0 (q 4) 60 f, aW T 0 (q 5) 27 told, aW T 0 (q 6) 3 wh]) (vx_runSX (As := [.ref xa, .int (xs (3 * k + 1)), .int (nI 0), .ref o]) (rest := []) ⟨hx, hb, hml, hown, hts⟩ (c_L_valve l D T hl hI (by omega) o g (xs (3 * k + 1)) false _) (mkSW (n := 4) hts kcw_valve kw_0 kw_506 kw_507 ⟨by decide, by decide⟩ (by decide +kernel) ⟨rfl, rfl, Nat.le_of_ble_eq_true rfl, Nat.le_of_ble_eq_true rfl⟩) (ps_x hK hST hS0 hPc2 hDc2 (vA_c (br := [mO q (nI kp) (nI n) th (nI at_) isF op, aW T 0 (q 1) 111 mm, aW T 0 (q 2) 111 thn, aW T 0 (q 3) 666 past, aW T 0 (q 4) 60 f, aW T 0 (q 5) 27 told, aW T 0 (q 6) 3 wh]) hP0 hD0 hS0 hA (isR := [1, 2, 3, 4, 5, 6, 7]) (isC := [0, 8]) rfl (by decide))) rfl rfl hl0.1 rfl (lv_room (Nat.le_of_ble_eq_true rfl)) dL_law_238 ⟨by show _ ≤ 604008; omega, by show _ ≤ 7284081; omega⟩) hP0 hD0 hS0 hA [1, 2, 3, 4, 5, 6, 7] [0, 8] rfl (by decide) (fun E ce q9 _ux Hx lx hqx hPx hDx hSx h1 h2 h3 => absurd hqx (by simp)) (fun r_w u_w H3 locs3 hw hP3 hD3 hS3 => ?_)
    clear hP0 hD0 hS0 hPc2 hDc2
    obtain ⟨w2, g2⟩ := u_w
    have hP3 : va_P D vwCl (fl [mO q (nI kp) (nI n) th (nI at_) isF op, aW T 0 (q 1) 111 mm, aW T 0 (q 2) 111 thn, aW T 0 (q 3) 666 past, aW T 0 (q 4) 60 f, aW T 0 (q 5) 27 told, aW T 0 (q 6) 3 wh, oW T o g2, w2]) _ := hP3
    have hD3 : va_D A (fl [mO q (nI kp) (nI n) th (nI at_) isF op, aW T 0 (q 1) 111 mm, aW T 0 (q 2) 111 thn, aW T 0 (q 3) 666 past, aW T 0 (q 4) 60 f, aW T 0 (q 5) 27 told, aW T 0 (q 6) 3 wh, oW T o g2, w2]) := hD3
    refine lv_istore (lv' := [(5, .int r_w), (0, .ref b), (1, .ref xa), (2, .ref (q 0)), (3, .ref o), (4, .int (nI (3 * k)))]) hx hb dL_law_241 hl0 (by decide) rfl (fun ls4 hl4 => ?_)
    clear hl0
    refine lv_aload_n hx hb dL_law_243 rfl (lv_at hl4 3 rfl) ?_
    refine lv_aload_n hx hb dL_law_244 rfl (lv_at hl4 1 rfl) ?_
    refine lv_iload hx hb dL_law_245 (lv_at hl4 5 rfl) ?_
    refine lv_iconst (v := nI 1) hx hb dL_law_247 (by decide) ?_
    refine lv_iadd hx hb dL_law_248 ?_
    refine tp_i (y := nI (3 * k + 1)) (nI_add _ _) ?_
    refine r_sld hx hb hXs0 hls0 hns0 hS3 (3 * k + 1) dL_law_249 (by omega) ?_
    refine lv_aload_n hx hb dL_law_250 rfl (lv_at hl4 1 rfl) ?_
    refine lv_iload hx hb dL_law_251 (lv_at hl4 5 rfl) ?_
    refine lv_iconst (v := nI 2) hx hb dL_law_253 (by decide) ?_
    refine lv_iadd hx hb dL_law_254 ?_
    refine tp_i (y := nI (3 * k + 2)) (nI_add _ _) ?_
    refine r_sld hx hb hXs0 hls0 hns0 hS3 (3 * k + 2) dL_law_255 (by omega) ?_
    refine lv_if_eq (tgt := 263) hx hb dL_law_256 (by decide) (fun c5 => ?_) (fun c5 => absurd (c_229) c5)
    refine lv_iconst (v := nI 0) hx hb dL_law_263 (by decide) ?_
    have hPc6 : va_P D vwCl (fl [mO q (nI kp) (nI n) th (nI at_) isF op, aW T 0 (q 1) 111 mm, aW T 0 (q 2) 111 thn, aW T 0 (q 3) 666 past, aW T 0 (q 4) 60 f, aW T 0 (q 5) 27 told, aW T 0 (q 6) 3 wh]) _ := flP_sub hP3 [0, 1, 2, 3, 4, 5, 6] rfl
    have hDc6 : va_D A (fl [mO q (nI kp) (nI n) th (nI at_) isF op, aW T 0 (q 1) 111 mm, aW T 0 (q 2) 111 thn, aW T 0 (q 3) 666 past, aW T 0 (q 4) 60 f, aW T 0 (q 5) 27 told, aW T 0 (q 6) 3 wh]) := flD_sub hD3 [0, 1, 2, 3, 4, 5, 6] (by decide) rfl
    refine cl_i (br := [oW T o g2, w2]) (va_runV (As := [.int (xs (3 * k + 1)), .int (nI 0)]) (rest := []) ⟨hx, hb, hml, hown, hts⟩ (c_X6_valve l D T q kp n th at_ isF op mm thn past f told wh (xs (3 * k + 1)) false (hkp6) _) (mkV hts okX6_valve kw_737 kw_738 kw_739 ⟨rfl, rfl, Nat.le_of_ble_eq_true rfl, Nat.le_of_ble_eq_true rfl⟩) (pv_rw hK hPc6 hDc6 (q0 := 0) rfl rfl rfl) rfl rfl hl4.1 rfl (lv_room (Nat.le_of_ble_eq_true rfl)) dL_law_264 ⟨by show _ ≤ 604008; omega, by show _ ≤ 7284081; omega⟩) hP3 hD3 hS3 hA [7, 8] [0, 1, 2, 3, 4, 5, 6] rfl (by decide) (fun r_264 u_264 H7 locs7 hq_264 hP7 hD7 hS7 => ?_)
    clear hP3 hD3 hS3 hPc6 hDc6
    obtain ⟨th2_264, now2_264, past2_264, kp2_264⟩ := u_264
    have hP7 : va_P D vwCl (fl [oW T o g2, w2, mO q (nI kp2_264) (nI n) th2_264 (nI at_) isF op, aW T 0 (q 1) 111 now2_264, aW T 0 (q 2) 111 thn, aW T 0 (q 3) 666 past2_264, aW T 0 (q 4) 60 f, aW T 0 (q 5) 27 told, aW T 0 (q 6) 3 wh]) _ := hP7
    have hD7 : va_D A (fl [oW T o g2, w2, mO q (nI kp2_264) (nI n) th2_264 (nI at_) isF op, aW T 0 (q 1) 111 now2_264, aW T 0 (q 2) 111 thn, aW T 0 (q 3) 666 past2_264, aW T 0 (q 4) 60 f, aW T 0 (q 5) 27 told, aW T 0 (q 6) 3 wh]) := hD7
    have hq_264 : (r_264, th2_264, now2_264, past2_264, kp2_264) = valveP (xs (3 * k + 1)) false mm past kp := hq_264
    have hP8 : va_P D vwCl (fl [oW T o g2, mO q (nI kp2_264) (nI n) th2_264 (nI at_) isF op, aW T 0 (q 1) 111 now2_264, aW T 0 (q 2) 111 thn, aW T 0 (q 3) 666 past2_264, aW T 0 (q 4) 60 f, aW T 0 (q 5) 27 told, aW T 0 (q 6) 3 wh, w2]) _ := flP_sub hP7 [0, 2, 3, 4, 5, 6, 7, 8, 1] rfl
    have hD8 : va_D A (fl [oW T o g2, mO q (nI kp2_264) (nI n) th2_264 (nI at_) isF op, aW T 0 (q 1) 111 now2_264, aW T 0 (q 2) 111 thn, aW T 0 (q 3) 666 past2_264, aW T 0 (q 4) 60 f, aW T 0 (q 5) 27 told, aW T 0 (q 6) 3 wh, w2]) := flD_sub hD7 [0, 2, 3, 4, 5, 6, 7, 8, 1] (by decide) rfl
    have hS8 := hS7
    clear hP7 hS7 hD7
    rw [← hq_264] at hw
    have hw1 : r_w = th2_264 := hw.1
    have hw2 : r_w = nI 0 → g2 0 = r_264.toInt64 := hw.2.1
    have hI2 : XINV T xa w2 now2_264 past2_264 kp2_264 f n (96 * k + 96) := hw.2.2
    refine lv_istore (lv' := [(6, .int r_264), (5, .int r_w), (0, .ref b), (1, .ref xa), (2, .ref (q 0)), (3, .ref o), (4, .int (nI (3 * k)))]) hx hb dL_law_267 hl4 (by decide) rfl (fun ls9 hl9 => ?_)
    clear hl4
    refine lv_aload_n hx hb dL_law_269 rfl (lv_at hl9 4 rfl) ?_
    have hPc10 : va_P D vwCl (fl [mO q (nI kp2_264) (nI n) th2_264 (nI at_) isF op]) _ := hP8.sub [1] rfl
    refine cr_i (va_runV (As := []) (rest := []) ⟨hx, hb, hml, hown, hts⟩ (c_X6_thrown l D T q kp2_264 n th2_264 at_ isF op ) (mkV hts okX6_thrown kw_707 kw_708 kw_709 ⟨rfl, rfl, Nat.le_of_ble_eq_true rfl, Nat.le_of_ble_eq_true rfl⟩) (pv_ro hK hPc10 (q0 := 0) rfl rfl rfl) rfl rfl hl9.1 rfl (lv_room (Nat.le_of_ble_eq_true rfl)) dL_law_270 ⟨by show _ ≤ 604008; omega, by show _ ≤ 7284081; omega⟩) hP8 hS8 (fun r_270 H11 locs11 hq_270 hP11 hS11 => ?_)
    clear hP8 hS8 hPc10
    have hD11 := hD8
    clear hD8
    have hq_270 : r_270 = th2_264 := hq_270
    subst hq_270
    refine lv_iload hx hb dL_law_273 (lv_at hl9 1 rfl) ?_
    refine lv_icmp_eq (tgt := 280) hx hb dL_law_275 (by decide) (fun c12 => ?_) (fun c12 => absurd (hw1.symm) c12)
    refine lv_iload hx hb dL_law_280 (lv_at hl9 1 rfl) ?_
    refine lv_if_ne (tgt := 297) hx hb dL_law_282 (by decide) (fun c_282 => ?_) (fun c_282 => ?_)
    · skip
      refine lv_goto (tgt := 1363) hx hb dL_law_297 (by decide) ?_
      refine W.widen (k := 160 + 3 * k + 3) (n := 2200 + 18 * k + 18) (by omega) (by omega) ?_
      exact KK w2 g2 r_270 at_ isF op thn told wh now2_264 past2_264 f kp2_264 n hI2 _ _ hP11 hD11 hS11 _ (lv_sub hl9 [2, 3, 4, 5, 6] rfl)
    · skip
      refine lv_aload_n hx hb dL_law_285 rfl (lv_at hl9 5 rfl) ?_
      refine lv_iconst (v := nI 0) hx hb dL_law_286 (by decide) ?_
      refine r_lald hx hb hK hP11 0 (f := g2) rfl 0 (by decide) dL_law_287 (by decide) ?_
      refine lv_iload hx hb dL_law_288 (lv_at hl9 0 rfl) ?_
      refine lv_i2l hx hb dL_law_290 rfl ?_
      refine W.lcmp hx hb dL_law_291 ?_
      refine tp_i (y := nI 0) (by rw [hw2 c_282]; exact lgc_self _) ?_
      refine n_if_eq (tgt := 297) hx hb (by omega) dL_law_292 (by decide) (fun c14 => ?_) (fun c14 => absurd (by decide) c14)
      refine lv_goto (tgt := 1363) hx hb dL_law_297 (by decide) ?_
      refine W.widen (k := 160 + 3 * k + 3) (n := 2200 + 18 * k + 18) (by omega) (by omega) ?_
      exact KK w2 g2 r_270 at_ isF op thn told wh now2_264 past2_264 f kp2_264 n hI2 _ _ hP11 hD11 hS11 _ (lv_sub hl9 [2, 3, 4, 5, 6] rfl)
  · skip
    refine lv_iconst (v := nI 1) hx hb dL_law_232 (by decide) ?_
    refine lv_goto (tgt := 237) hx hb dL_law_233 (by decide) ?_
    refine lv_aload_n hx hb dL_law_237 rfl (lv_at hl0 3 rfl) ?_
    have hPc15 : va_P D vwCl (fl [oW T o g, w]) _ := flP_sub hP0 [0, 8] rfl
    have hDc15 : va_D A (fl [oW T o g, w]) := flD_sub hD0 [0, 8] (by decide) rfl
    refine clx_i (br := [mO q (nI kp) (nI n) th (nI at_) isF op, aW T 0 (q 1) 111 mm, aW T 0 (q 2) 111 thn, aW T 0 (q 3) 666 past, aW T 0 (q 4) 60 f, aW T 0 (q 5) 27 told, aW T 0 (q 6) 3 wh]) (vx_runSX (As := [.ref xa, .int (xs (3 * k + 1)), .int (nI 1), .ref o]) (rest := []) ⟨hx, hb, hml, hown, hts⟩ (c_L_valve l D T hl hI (by omega) o g (xs (3 * k + 1)) true _) (mkSW (n := 4) hts kcw_valve kw_0 kw_506 kw_507 ⟨by decide, by decide⟩ (by decide +kernel) ⟨rfl, rfl, Nat.le_of_ble_eq_true rfl, Nat.le_of_ble_eq_true rfl⟩) (ps_x hK hST hS0 hPc15 hDc15 (vA_c (br := [mO q (nI kp) (nI n) th (nI at_) isF op, aW T 0 (q 1) 111 mm, aW T 0 (q 2) 111 thn, aW T 0 (q 3) 666 past, aW T 0 (q 4) 60 f, aW T 0 (q 5) 27 told, aW T 0 (q 6) 3 wh]) hP0 hD0 hS0 hA (isR := [1, 2, 3, 4, 5, 6, 7]) (isC := [0, 8]) rfl (by decide))) rfl rfl hl0.1 rfl (lv_room (Nat.le_of_ble_eq_true rfl)) dL_law_238 ⟨by show _ ≤ 604008; omega, by show _ ≤ 7284081; omega⟩) hP0 hD0 hS0 hA [1, 2, 3, 4, 5, 6, 7] [0, 8] rfl (by decide) (fun E ce q9 _ux Hx lx hqx hPx hDx hSx h1 h2 h3 => absurd hqx (by simp)) (fun r_w u_w H16 locs16 hw hP16 hD16 hS16 => ?_)
    clear hP0 hD0 hS0 hPc15 hDc15
    obtain ⟨w2, g2⟩ := u_w
    have hP16 : va_P D vwCl (fl [mO q (nI kp) (nI n) th (nI at_) isF op, aW T 0 (q 1) 111 mm, aW T 0 (q 2) 111 thn, aW T 0 (q 3) 666 past, aW T 0 (q 4) 60 f, aW T 0 (q 5) 27 told, aW T 0 (q 6) 3 wh, oW T o g2, w2]) _ := hP16
    have hD16 : va_D A (fl [mO q (nI kp) (nI n) th (nI at_) isF op, aW T 0 (q 1) 111 mm, aW T 0 (q 2) 111 thn, aW T 0 (q 3) 666 past, aW T 0 (q 4) 60 f, aW T 0 (q 5) 27 told, aW T 0 (q 6) 3 wh, oW T o g2, w2]) := hD16
    refine lv_istore (lv' := [(5, .int r_w), (0, .ref b), (1, .ref xa), (2, .ref (q 0)), (3, .ref o), (4, .int (nI (3 * k)))]) hx hb dL_law_241 hl0 (by decide) rfl (fun ls17 hl17 => ?_)
    clear hl0
    refine lv_aload_n hx hb dL_law_243 rfl (lv_at hl17 3 rfl) ?_
    refine lv_aload_n hx hb dL_law_244 rfl (lv_at hl17 1 rfl) ?_
    refine lv_iload hx hb dL_law_245 (lv_at hl17 5 rfl) ?_
    refine lv_iconst (v := nI 1) hx hb dL_law_247 (by decide) ?_
    refine lv_iadd hx hb dL_law_248 ?_
    refine tp_i (y := nI (3 * k + 1)) (nI_add _ _) ?_
    refine r_sld hx hb hXs0 hls0 hns0 hS16 (3 * k + 1) dL_law_249 (by omega) ?_
    refine lv_aload_n hx hb dL_law_250 rfl (lv_at hl17 1 rfl) ?_
    refine lv_iload hx hb dL_law_251 (lv_at hl17 5 rfl) ?_
    refine lv_iconst (v := nI 2) hx hb dL_law_253 (by decide) ?_
    refine lv_iadd hx hb dL_law_254 ?_
    refine tp_i (y := nI (3 * k + 2)) (nI_add _ _) ?_
    refine r_sld hx hb hXs0 hls0 hns0 hS16 (3 * k + 2) dL_law_255 (by omega) ?_
    refine lv_if_eq (tgt := 263) hx hb dL_law_256 (by decide) (fun c18 => absurd c18 (c_229)) (fun c18 => ?_)
    refine lv_iconst (v := nI 1) hx hb dL_law_259 (by decide) ?_
    refine lv_goto (tgt := 264) hx hb dL_law_260 (by decide) ?_
    have hPc19 : va_P D vwCl (fl [mO q (nI kp) (nI n) th (nI at_) isF op, aW T 0 (q 1) 111 mm, aW T 0 (q 2) 111 thn, aW T 0 (q 3) 666 past, aW T 0 (q 4) 60 f, aW T 0 (q 5) 27 told, aW T 0 (q 6) 3 wh]) _ := flP_sub hP16 [0, 1, 2, 3, 4, 5, 6] rfl
    have hDc19 : va_D A (fl [mO q (nI kp) (nI n) th (nI at_) isF op, aW T 0 (q 1) 111 mm, aW T 0 (q 2) 111 thn, aW T 0 (q 3) 666 past, aW T 0 (q 4) 60 f, aW T 0 (q 5) 27 told, aW T 0 (q 6) 3 wh]) := flD_sub hD16 [0, 1, 2, 3, 4, 5, 6] (by decide) rfl
    refine cl_i (br := [oW T o g2, w2]) (va_runV (As := [.int (xs (3 * k + 1)), .int (nI 1)]) (rest := []) ⟨hx, hb, hml, hown, hts⟩ (c_X6_valve l D T q kp n th at_ isF op mm thn past f told wh (xs (3 * k + 1)) true (hkp6) _) (mkV hts okX6_valve kw_737 kw_738 kw_739 ⟨rfl, rfl, Nat.le_of_ble_eq_true rfl, Nat.le_of_ble_eq_true rfl⟩) (pv_rw hK hPc19 hDc19 (q0 := 0) rfl rfl rfl) rfl rfl hl17.1 rfl (lv_room (Nat.le_of_ble_eq_true rfl)) dL_law_264 ⟨by show _ ≤ 604008; omega, by show _ ≤ 7284081; omega⟩) hP16 hD16 hS16 hA [7, 8] [0, 1, 2, 3, 4, 5, 6] rfl (by decide) (fun r_264 u_264 H20 locs20 hq_264 hP20 hD20 hS20 => ?_)
    clear hP16 hD16 hS16 hPc19 hDc19
    obtain ⟨th2_264, now2_264, past2_264, kp2_264⟩ := u_264
    have hP20 : va_P D vwCl (fl [oW T o g2, w2, mO q (nI kp2_264) (nI n) th2_264 (nI at_) isF op, aW T 0 (q 1) 111 now2_264, aW T 0 (q 2) 111 thn, aW T 0 (q 3) 666 past2_264, aW T 0 (q 4) 60 f, aW T 0 (q 5) 27 told, aW T 0 (q 6) 3 wh]) _ := hP20
    have hD20 : va_D A (fl [oW T o g2, w2, mO q (nI kp2_264) (nI n) th2_264 (nI at_) isF op, aW T 0 (q 1) 111 now2_264, aW T 0 (q 2) 111 thn, aW T 0 (q 3) 666 past2_264, aW T 0 (q 4) 60 f, aW T 0 (q 5) 27 told, aW T 0 (q 6) 3 wh]) := hD20
    have hq_264 : (r_264, th2_264, now2_264, past2_264, kp2_264) = valveP (xs (3 * k + 1)) true mm past kp := hq_264
    have hP21 : va_P D vwCl (fl [oW T o g2, mO q (nI kp2_264) (nI n) th2_264 (nI at_) isF op, aW T 0 (q 1) 111 now2_264, aW T 0 (q 2) 111 thn, aW T 0 (q 3) 666 past2_264, aW T 0 (q 4) 60 f, aW T 0 (q 5) 27 told, aW T 0 (q 6) 3 wh, w2]) _ := flP_sub hP20 [0, 2, 3, 4, 5, 6, 7, 8, 1] rfl
    have hD21 : va_D A (fl [oW T o g2, mO q (nI kp2_264) (nI n) th2_264 (nI at_) isF op, aW T 0 (q 1) 111 now2_264, aW T 0 (q 2) 111 thn, aW T 0 (q 3) 666 past2_264, aW T 0 (q 4) 60 f, aW T 0 (q 5) 27 told, aW T 0 (q 6) 3 wh, w2]) := flD_sub hD20 [0, 2, 3, 4, 5, 6, 7, 8, 1] (by decide) rfl
    have hS21 := hS20
    clear hP20 hS20 hD20
    rw [← hq_264] at hw
    have hw1 : r_w = th2_264 := hw.1
    have hw2 : r_w = nI 0 → g2 0 = r_264.toInt64 := hw.2.1
    have hI2 : XINV T xa w2 now2_264 past2_264 kp2_264 f n (96 * k + 96) := hw.2.2
    refine lv_istore (lv' := [(6, .int r_264), (5, .int r_w), (0, .ref b), (1, .ref xa), (2, .ref (q 0)), (3, .ref o), (4, .int (nI (3 * k)))]) hx hb dL_law_267 hl17 (by decide) rfl (fun ls22 hl22 => ?_)
    clear hl17
    refine lv_aload_n hx hb dL_law_269 rfl (lv_at hl22 4 rfl) ?_
    have hPc23 : va_P D vwCl (fl [mO q (nI kp2_264) (nI n) th2_264 (nI at_) isF op]) _ := hP21.sub [1] rfl
    refine cr_i (va_runV (As := []) (rest := []) ⟨hx, hb, hml, hown, hts⟩ (c_X6_thrown l D T q kp2_264 n th2_264 at_ isF op ) (mkV hts okX6_thrown kw_707 kw_708 kw_709 ⟨rfl, rfl, Nat.le_of_ble_eq_true rfl, Nat.le_of_ble_eq_true rfl⟩) (pv_ro hK hPc23 (q0 := 0) rfl rfl rfl) rfl rfl hl22.1 rfl (lv_room (Nat.le_of_ble_eq_true rfl)) dL_law_270 ⟨by show _ ≤ 604008; omega, by show _ ≤ 7284081; omega⟩) hP21 hS21 (fun r_270 H24 locs24 hq_270 hP24 hS24 => ?_)
    clear hP21 hS21 hPc23
    have hD24 := hD21
    clear hD21
    have hq_270 : r_270 = th2_264 := hq_270
    subst hq_270
    refine lv_iload hx hb dL_law_273 (lv_at hl22 1 rfl) ?_
    refine lv_icmp_eq (tgt := 280) hx hb dL_law_275 (by decide) (fun c25 => ?_) (fun c25 => absurd (hw1.symm) c25)
    refine lv_iload hx hb dL_law_280 (lv_at hl22 1 rfl) ?_
    refine lv_if_ne (tgt := 297) hx hb dL_law_282 (by decide) (fun c_282 => ?_) (fun c_282 => ?_)
    · skip
      refine lv_goto (tgt := 1363) hx hb dL_law_297 (by decide) ?_
      refine W.widen (k := 160 + 3 * k + 3) (n := 2200 + 18 * k + 18) (by omega) (by omega) ?_
      exact KK w2 g2 r_270 at_ isF op thn told wh now2_264 past2_264 f kp2_264 n hI2 _ _ hP24 hD24 hS24 _ (lv_sub hl22 [2, 3, 4, 5, 6] rfl)
    · skip
      refine lv_aload_n hx hb dL_law_285 rfl (lv_at hl22 5 rfl) ?_
      refine lv_iconst (v := nI 0) hx hb dL_law_286 (by decide) ?_
      refine r_lald hx hb hK hP24 0 (f := g2) rfl 0 (by decide) dL_law_287 (by decide) ?_
      refine lv_iload hx hb dL_law_288 (lv_at hl22 0 rfl) ?_
      refine lv_i2l hx hb dL_law_290 rfl ?_
      refine W.lcmp hx hb dL_law_291 ?_
      refine tp_i (y := nI 0) (by rw [hw2 c_282]; exact lgc_self _) ?_
      refine n_if_eq (tgt := 297) hx hb (by omega) dL_law_292 (by decide) (fun c27 => ?_) (fun c27 => absurd (by decide) c27)
      refine lv_goto (tgt := 1363) hx hb dL_law_297 (by decide) ?_
      refine W.widen (k := 160 + 3 * k + 3) (n := 2200 + 18 * k + 18) (by omega) (by omega) ?_
      exact KK w2 g2 r_270 at_ isF op thn told wh now2_264 past2_264 f kp2_264 n hI2 _ _ hP24 hD24 hS24 _ (lv_sub hl22 [2, 3, 4, 5, 6] rfl)
set_option maxHeartbeats 4000000 in
set_option maxRecDepth 100000 in
theorem law_clearBuffer {pX : Program} {l : Launch} {eX : Env} {sX : State} {mX : MethodId} {bX : List Frame} {mtX : Method} {cX : Code} {D : va_G} {T : TI} {A : Nat → Prop} {b L : Nat} {xs : Nat → Int32} {xa o : Nat} {q : Nat → Nat} {TG : State → Prop} (hCX : LCX pX l sX mX cX D T A b L xs) (k : Nat) (hk : 3 * k + 3 ≤ L) (KK : LWP pX l eX sX mX bX mtX cX D T A b xa o q TG (96 * k + 96) (160 + 3 * k + 3) (2200 + 18 * k + 18) k 1363) : LWP pX l eX sX mX bX mtX cX D T A b xa o q TG (96 * k) (160 + 3 * k) (2200 + 18 * k) k 740 := by
  obtain ⟨hx, hb, hml, hown, hts, hXs0, hls0, hns0, hK, hST, hA, hl, hL15⟩ := hCX
  intro w g th at_ isF op thn told wh mm past f kp n hI H0 locs0 hP0 hD0 hS0 ls0 hl0
  obtain ⟨hokS, hkp6, hn60⟩ := hI.okS
  refine lv_aload_n hx hb dL_law_740 rfl (lv_at hl0 1 rfl) ?_
  obtain ⟨fs1, hfs1⟩ := hI.recv
  have hPc1 : va_P D vwCl (fl [w]) _ := flP_sub hP0 [8] rfl
  have hDc1 : va_D A (fl [w]) := flD_sub hD0 [8] (by decide) rfl
  refine clx_i (br := [oW T o g, mO q (nI kp) (nI n) th (nI at_) isF op, aW T 0 (q 1) 111 mm, aW T 0 (q 2) 111 thn, aW T 0 (q 3) 666 past, aW T 0 (q 4) 60 f, aW T 0 (q 5) 27 told, aW T 0 (q 6) 3 wh]) (vx_runV (As := []) (rest := []) ⟨hx, hb, hml, hown, hts⟩ (d_X5_clearBuffer l D T hl hI (by omega) _) (mkV hts okX5_clearBuffer kw_195 kw_196 kw_197 ⟨rfl, rfl, Nat.le_of_ble_eq_true rfl, Nat.le_of_ble_eq_true rfl⟩) (pv_x hK hST hS0 hPc1 hDc1 (vA_c (br := [oW T o g, mO q (nI kp) (nI n) th (nI at_) isF op, aW T 0 (q 1) 111 mm, aW T 0 (q 2) 111 thn, aW T 0 (q 3) 666 past, aW T 0 (q 4) 60 f, aW T 0 (q 5) 27 told, aW T 0 (q 6) 3 wh]) hP0 hD0 hS0 hA (isR := [0, 1, 2, 3, 4, 5, 6, 7]) (isC := [8]) rfl (by decide)) hfs1 (q := (RX5, TX5, 5)) rfl rfl) rfl rfl hl0.1 rfl (lv_room (Nat.le_of_ble_eq_true rfl)) dL_law_741 ⟨by show _ ≤ 604008; omega, by show _ ≤ 7284081; omega⟩) hP0 hD0 hS0 hA [0, 1, 2, 3, 4, 5, 6, 7] [8] rfl (by decide) (fun E ce q9 _ux Hx lx hqx hPx hDx hSx h1 h2 h3 => absurd hqx (by simp)) (fun r_x w2 H2 locs2 hqx hP2 hD2 hS2 => ?_)
  clear hP0 hD0 hS0 hPc1 hDc1
  have hP2 : va_P D vwCl (fl [oW T o g, mO q (nI kp) (nI n) th (nI at_) isF op, aW T 0 (q 1) 111 mm, aW T 0 (q 2) 111 thn, aW T 0 (q 3) 666 past, aW T 0 (q 4) 60 f, aW T 0 (q 5) 27 told, aW T 0 (q 6) 3 wh, w2]) _ := hP2
  have hD2 : va_D A (fl [oW T o g, mO q (nI kp) (nI n) th (nI at_) isF op, aW T 0 (q 1) 111 mm, aW T 0 (q 2) 111 thn, aW T 0 (q 3) 666 past, aW T 0 (q 4) 60 f, aW T 0 (q 5) 27 told, aW T 0 (q 6) 3 wh, w2]) := hD2
  refine lv_aload_n hx hb dL_law_744 rfl (lv_at hl0 2 rfl) ?_
  have hPc3 : va_P D vwCl (fl [mO q (nI kp) (nI n) th (nI at_) isF op, aW T 0 (q 1) 111 mm, aW T 0 (q 2) 111 thn, aW T 0 (q 3) 666 past, aW T 0 (q 4) 60 f, aW T 0 (q 5) 27 told, aW T 0 (q 6) 3 wh]) _ := flP_sub hP2 [1, 2, 3, 4, 5, 6, 7] rfl
  have hDc3 : va_D A (fl [mO q (nI kp) (nI n) th (nI at_) isF op, aW T 0 (q 1) 111 mm, aW T 0 (q 2) 111 thn, aW T 0 (q 3) 666 past, aW T 0 (q 4) 60 f, aW T 0 (q 5) 27 told, aW T 0 (q 6) 3 wh]) := flD_sub hD2 [1, 2, 3, 4, 5, 6, 7] (by decide) rfl
  refine cl_i (br := [oW T o g, w2]) (va_runV (As := []) (rest := [.int r_x]) ⟨hx, hb, hml, hown, hts⟩ (c_X6_clearBuffer l D T q kp n th at_ isF op mm thn past f told wh  _) (mkV hts okX6_clearBuffer kw_813 kw_814 kw_815 ⟨rfl, rfl, Nat.le_of_ble_eq_true rfl, Nat.le_of_ble_eq_true rfl⟩) (pv_rw hK hPc3 hDc3 (q0 := 0) rfl rfl rfl) rfl rfl hl0.1 rfl (lv_room (Nat.le_of_ble_eq_true rfl)) dL_law_745 ⟨by show _ ≤ 604008; omega, by show _ ≤ 7284081; omega⟩) hP2 hD2 hS2 hA [0, 8] [1, 2, 3, 4, 5, 6, 7] rfl (by decide) (fun r_745 u_745 H4 locs4 hq_745 hP4 hD4 hS4 => ?_)
  clear hP2 hD2 hS2 hPc3 hDc3
  obtain ⟨th2_745, ty2_745⟩ := u_745
  have hP4 : va_P D vwCl (fl [oW T o g, w2, mO q (nI kp) (nI ty2_745) th2_745 (nI at_) isF op, aW T 0 (q 1) 111 mm, aW T 0 (q 2) 111 thn, aW T 0 (q 3) 666 past, aW T 0 (q 4) 60 f, aW T 0 (q 5) 27 told, aW T 0 (q 6) 3 wh]) _ := hP4
  have hD4 : va_D A (fl [oW T o g, w2, mO q (nI kp) (nI ty2_745) th2_745 (nI at_) isF op, aW T 0 (q 1) 111 mm, aW T 0 (q 2) 111 thn, aW T 0 (q 3) 666 past, aW T 0 (q 4) 60 f, aW T 0 (q 5) 27 told, aW T 0 (q 6) 3 wh]) := hD4
  obtain ⟨hr_745, hq_745⟩ : r_745 = nI n ∧ (nI 0 = th2_745 ∧ 0 = ty2_745) := hq_745
  subst hr_745
  have hP5 : va_P D vwCl (fl [oW T o g, mO q (nI kp) (nI ty2_745) th2_745 (nI at_) isF op, aW T 0 (q 1) 111 mm, aW T 0 (q 2) 111 thn, aW T 0 (q 3) 666 past, aW T 0 (q 4) 60 f, aW T 0 (q 5) 27 told, aW T 0 (q 6) 3 wh, w2]) _ := flP_sub hP4 [0, 2, 3, 4, 5, 6, 7, 8, 1] rfl
  have hD5 : va_D A (fl [oW T o g, mO q (nI kp) (nI ty2_745) th2_745 (nI at_) isF op, aW T 0 (q 1) 111 mm, aW T 0 (q 2) 111 thn, aW T 0 (q 3) 666 past, aW T 0 (q 4) 60 f, aW T 0 (q 5) 27 told, aW T 0 (q 6) 3 wh, w2]) := flD_sub hD4 [0, 2, 3, 4, 5, 6, 7, 8, 1] (by decide) rfl
  have hS5 := hS4
  clear hP4 hS4 hD4
  have hI2 : XINV T xa w2 mm past kp f ty2_745 (96 * k + 96) := by rw [← hq_745.2]; exact hqx.2.2
  refine lv_icmp_eq (tgt := 1363) hx hb dL_law_748 (by decide) (fun c6 => ?_) (fun c6 => absurd (hqx.1) c6)
  refine W.widen (k := 160 + 3 * k + 3) (n := 2200 + 18 * k + 18) (by omega) (by omega) ?_
  exact KK w2 g th2_745 at_ isF op thn told wh mm past f kp ty2_745 hI2 _ _ hP5 hD5 hS5 _ (lv_sub hl0 [0, 1, 2, 3, 4] rfl)
set_option maxHeartbeats 4000000 in
set_option maxRecDepth 100000 in
theorem law_firstError {pX : Program} {l : Launch} {eX : Env} {sX : State} {mX : MethodId} {bX : List Frame} {mtX : Method} {cX : Code} {D : va_G} {T : TI} {A : Nat → Prop} {b L : Nat} {xs : Nat → Int32} {xa o : Nat} {q : Nat → Nat} {TG : State → Prop} (hCX : LCX pX l sX mX cX D T A b L xs) (k : Nat) (hk : 3 * k + 3 ≤ L) (KK : LWP pX l eX sX mX bX mtX cX D T A b xa o q TG (96 * k + 96) (160 + 3 * k + 3) (2200 + 18 * k + 18) k 1363) : LWP pX l eX sX mX bX mtX cX D T A b xa o q TG (96 * k) (160 + 3 * k) (2200 + 18 * k) k 753 := by
  obtain ⟨hx, hb, hml, hown, hts, hXs0, hls0, hns0, hK, hST, hA, hl, hL15⟩ := hCX
  intro w g th at_ isF op thn told wh mm past f kp n hI H0 locs0 hP0 hD0 hS0 ls0 hl0
  obtain ⟨hokS, hkp6, hn60⟩ := hI.okS
  refine lv_aload_n hx hb dL_law_753 rfl (lv_at hl0 1 rfl) ?_
  obtain ⟨fs1, hfs1⟩ := hI.recv
  have hPc1 : va_P D vwCl (fl [w]) _ := flP_sub hP0 [8] rfl
  have hDc1 : va_D A (fl [w]) := flD_sub hD0 [8] (by decide) rfl
  refine cl_i (br := [oW T o g, mO q (nI kp) (nI n) th (nI at_) isF op, aW T 0 (q 1) 111 mm, aW T 0 (q 2) 111 thn, aW T 0 (q 3) 666 past, aW T 0 (q 4) 60 f, aW T 0 (q 5) 27 told, aW T 0 (q 6) 3 wh]) (va_runV (As := []) (rest := []) ⟨hx, hb, hml, hown, hts⟩ (d_X5_firstError l D T hI (by omega) _) (mkV hts okX5_firstError kw_203 kw_204 kw_205 ⟨rfl, rfl, Nat.le_of_ble_eq_true rfl, Nat.le_of_ble_eq_true rfl⟩) (pv_rw hK hPc1 hDc1 hfs1 (q := (RX5, TX5, 5)) rfl rfl) rfl rfl hl0.1 rfl (lv_room (Nat.le_of_ble_eq_true rfl)) dL_law_754 ⟨by show _ ≤ 604008; omega, by show _ ≤ 7284081; omega⟩) hP0 hD0 hS0 hA [0, 1, 2, 3, 4, 5, 6, 7] [8] rfl (by decide) (fun r_x w2 H2 locs2 hqx hP2 hD2 hS2 => ?_)
  clear hP0 hD0 hS0 hPc1 hDc1
  have hP2 : va_P D vwCl (fl [oW T o g, mO q (nI kp) (nI n) th (nI at_) isF op, aW T 0 (q 1) 111 mm, aW T 0 (q 2) 111 thn, aW T 0 (q 3) 666 past, aW T 0 (q 4) 60 f, aW T 0 (q 5) 27 told, aW T 0 (q 6) 3 wh, w2]) _ := hP2
  have hD2 : va_D A (fl [oW T o g, mO q (nI kp) (nI n) th (nI at_) isF op, aW T 0 (q 1) 111 mm, aW T 0 (q 2) 111 thn, aW T 0 (q 3) 666 past, aW T 0 (q 4) 60 f, aW T 0 (q 5) 27 told, aW T 0 (q 6) 3 wh, w2]) := hD2
  obtain ⟨c9, L9, hs9⟩ := id hokS
  refine lv_aload_n hx hb dL_law_757 rfl (lv_at hl0 2 rfl) ?_
  have hPc3 : va_P D vwCl (fl [mO q (nI kp) (nI n) th (nI at_) isF op, aW T 0 (q 4) 60 f, aW T 0 (q 5) 27 told]) _ := flP_sub hP2 [1, 5, 6] rfl
  have hDc3 : va_D A (fl [mO q (nI kp) (nI n) th (nI at_) isF op, aW T 0 (q 4) 60 f, aW T 0 (q 5) 27 told]) := flD_sub hD2 [1, 5, 6] (by decide) rfl
  refine cl_i (br := [oW T o g, aW T 0 (q 1) 111 mm, aW T 0 (q 2) 111 thn, aW T 0 (q 3) 666 past, aW T 0 (q 6) 3 wh, w2]) (va_runV (As := []) (rest := [.int r_x]) ⟨hx, hb, hml, hown, hts⟩ (c_X6_firstError l D T q kp n th at_ isF op f told c9 L9 (hn60) (hs9.2.2.2.2.1) _) (mkV hts okX6_firstError kw_817 kw_818 kw_819 ⟨rfl, rfl, Nat.le_of_ble_eq_true rfl, Nat.le_of_ble_eq_true rfl⟩) (pv_rw hK hPc3 hDc3 (q0 := 0) rfl rfl rfl) rfl rfl hl0.1 rfl (lv_room (Nat.le_of_ble_eq_true rfl)) dL_law_758 ⟨by show _ ≤ 604008; omega, by show _ ≤ 7284081; omega⟩) hP2 hD2 hS2 hA [0, 2, 3, 4, 7, 8] [1, 5, 6] rfl (by decide) (fun r_758 u_758 H4 locs4 hq_758 hP4 hD4 hS4 => ?_)
  clear hP2 hD2 hS2 hPc3 hDc3
  obtain ⟨th2_758, at2_758, isF2_758, told2_758⟩ := u_758
  have hP4 : va_P D vwCl (fl [oW T o g, aW T 0 (q 1) 111 mm, aW T 0 (q 2) 111 thn, aW T 0 (q 3) 666 past, aW T 0 (q 6) 3 wh, w2, mO q (nI kp) (nI n) th2_758 (nI at2_758) isF2_758 op, aW T 0 (q 4) 60 f, aW T 0 (q 5) 27 told2_758]) _ := hP4
  have hD4 : va_D A (fl [oW T o g, aW T 0 (q 1) 111 mm, aW T 0 (q 2) 111 thn, aW T 0 (q 3) 666 past, aW T 0 (q 6) 3 wh, w2, mO q (nI kp) (nI n) th2_758 (nI at2_758) isF2_758 op, aW T 0 (q 4) 60 f, aW T 0 (q 5) 27 told2_758]) := hD4
  have hq_758 : r_758 = nI (erT f 0 n) ∧ th2_758 = nI 0 := hq_758
  have hP5 : va_P D vwCl (fl [oW T o g, aW T 0 (q 1) 111 mm, aW T 0 (q 2) 111 thn, aW T 0 (q 3) 666 past, aW T 0 (q 6) 3 wh, mO q (nI kp) (nI n) th2_758 (nI at2_758) isF2_758 op, aW T 0 (q 4) 60 f, aW T 0 (q 5) 27 told2_758, w2]) _ := flP_sub hP4 [0, 1, 2, 3, 4, 6, 7, 8, 5] rfl
  have hD5 : va_D A (fl [oW T o g, aW T 0 (q 1) 111 mm, aW T 0 (q 2) 111 thn, aW T 0 (q 3) 666 past, aW T 0 (q 6) 3 wh, mO q (nI kp) (nI n) th2_758 (nI at2_758) isF2_758 op, aW T 0 (q 4) 60 f, aW T 0 (q 5) 27 told2_758, w2]) := flD_sub hD4 [0, 1, 2, 3, 4, 6, 7, 8, 5] (by decide) rfl
  have hS5 := hS4
  clear hP4 hS4 hD4
  refine lv_icmp_eq (tgt := 1363) hx hb dL_law_761 (by decide) (fun c6 => ?_) (fun c6 => absurd (hqx.1.trans hq_758.1.symm) c6)
  have hP7 : va_P D vwCl (fl [oW T o g, mO q (nI kp) (nI n) th2_758 (nI at2_758) isF2_758 op, aW T 0 (q 1) 111 mm, aW T 0 (q 2) 111 thn, aW T 0 (q 3) 666 past, aW T 0 (q 4) 60 f, aW T 0 (q 5) 27 told2_758, aW T 0 (q 6) 3 wh, w2]) _ := flP_sub hP5 [0, 5, 1, 2, 3, 6, 7, 4, 8] rfl
  have hD7 : va_D A (fl [oW T o g, mO q (nI kp) (nI n) th2_758 (nI at2_758) isF2_758 op, aW T 0 (q 1) 111 mm, aW T 0 (q 2) 111 thn, aW T 0 (q 3) 666 past, aW T 0 (q 4) 60 f, aW T 0 (q 5) 27 told2_758, aW T 0 (q 6) 3 wh, w2]) := flD_sub hD5 [0, 5, 1, 2, 3, 6, 7, 4, 8] (by decide) rfl
  have hS7 := hS5
  clear hP5 hS5 hD5
  refine W.widen (k := 160 + 3 * k + 3) (n := 2200 + 18 * k + 18) (by omega) (by omega) ?_
  exact KK w2 g th2_758 at2_758 isF2_758 op thn told2_758 wh mm past f kp n hqx.2.2 _ _ hP7 hD7 hS7 _ (lv_sub hl0 [0, 1, 2, 3, 4] rfl)
set_option maxHeartbeats 4000000 in
set_option maxRecDepth 100000 in
theorem law_rounds {pX : Program} {l : Launch} {eX : Env} {sX : State} {mX : MethodId} {bX : List Frame} {mtX : Method} {cX : Code} {D : va_G} {T : TI} {A : Nat → Prop} {b L : Nat} {xs : Nat → Int32} {xa o : Nat} {q : Nat → Nat} {TG : State → Prop} (hCX : LCX pX l sX mX cX D T A b L xs) (k : Nat) (hk : 3 * k + 3 ≤ L) (KK : LWP pX l eX sX mX bX mtX cX D T A b xa o q TG (96 * k + 96) (160 + 3 * k + 3) (2200 + 18 * k + 18) k 1363) : LWP pX l eX sX mX bX mtX cX D T A b xa o q TG (96 * k) (160 + 3 * k) (2200 + 18 * k) k 766 := by
  obtain ⟨hx, hb, hml, hown, hts, hXs0, hls0, hns0, hK, hST, hA, hl, hL15⟩ := hCX
  intro w g th at_ isF op thn told wh mm past f kp n hI H0 locs0 hP0 hD0 hS0 ls0 hl0
  obtain ⟨hokS, hkp6, hn60⟩ := hI.okS
  refine lv_aload_n hx hb dL_law_766 rfl (lv_at hl0 1 rfl) ?_
  refine lv_aload_n hx hb dL_law_767 rfl (lv_at hl0 3 rfl) ?_
  have hPc1 : va_P D vwCl (fl [oW T o g, w]) _ := flP_sub hP0 [0, 8] rfl
  have hDc1 : va_D A (fl [oW T o g, w]) := flD_sub hD0 [0, 8] (by decide) rfl
  refine clx_i (br := [mO q (nI kp) (nI n) th (nI at_) isF op, aW T 0 (q 1) 111 mm, aW T 0 (q 2) 111 thn, aW T 0 (q 3) 666 past, aW T 0 (q 4) 60 f, aW T 0 (q 5) 27 told, aW T 0 (q 6) 3 wh]) (vx_runSX (As := [.ref xa, .ref o]) (rest := []) ⟨hx, hb, hml, hown, hts⟩ (c_L_rounds l D T hl hI (by omega) o g  _) (mkSW (n := 2) hts kcw_rounds kw_0 kw_598 kw_599 ⟨by decide, by decide⟩ (by decide +kernel) ⟨rfl, rfl, Nat.le_of_ble_eq_true rfl, Nat.le_of_ble_eq_true rfl⟩) (ps_x hK hST hS0 hPc1 hDc1 (vA_c (br := [mO q (nI kp) (nI n) th (nI at_) isF op, aW T 0 (q 1) 111 mm, aW T 0 (q 2) 111 thn, aW T 0 (q 3) 666 past, aW T 0 (q 4) 60 f, aW T 0 (q 5) 27 told, aW T 0 (q 6) 3 wh]) hP0 hD0 hS0 hA (isR := [1, 2, 3, 4, 5, 6, 7]) (isC := [0, 8]) rfl (by decide))) rfl rfl hl0.1 rfl (lv_room (Nat.le_of_ble_eq_true rfl)) dL_law_768 ⟨by show _ ≤ 604008; omega, by show _ ≤ 7284081; omega⟩) hP0 hD0 hS0 hA [1, 2, 3, 4, 5, 6, 7] [0, 8] rfl (by decide) (fun E ce q9 _ux Hx lx hqx hPx hDx hSx h1 h2 h3 => absurd hqx (by simp)) (fun r_w u_w H2 locs2 hw hP2 hD2 hS2 => ?_)
  clear hP0 hD0 hS0 hPc1 hDc1
  obtain ⟨w2, g2⟩ := u_w
  have hP2 : va_P D vwCl (fl [mO q (nI kp) (nI n) th (nI at_) isF op, aW T 0 (q 1) 111 mm, aW T 0 (q 2) 111 thn, aW T 0 (q 3) 666 past, aW T 0 (q 4) 60 f, aW T 0 (q 5) 27 told, aW T 0 (q 6) 3 wh, oW T o g2, w2]) _ := hP2
  have hD2 : va_D A (fl [mO q (nI kp) (nI n) th (nI at_) isF op, aW T 0 (q 1) 111 mm, aW T 0 (q 2) 111 thn, aW T 0 (q 3) 666 past, aW T 0 (q 4) 60 f, aW T 0 (q 5) 27 told, aW T 0 (q 6) 3 wh, oW T o g2, w2]) := hD2
  obtain ⟨c9, L9, hs9, hR9⟩ := rounds_fin hI hw
  refine lv_istore (lv' := [(5, .int r_w), (0, .ref b), (1, .ref xa), (2, .ref (q 0)), (3, .ref o), (4, .int (nI (3 * k)))]) hx hb dL_law_771 hl0 (by decide) rfl (fun ls3 hl3 => ?_)
  clear hl0
  refine lv_aload_n hx hb dL_law_773 rfl (lv_at hl3 3 rfl) ?_
  have hPc4 : va_P D vwCl (fl [mO q (nI kp) (nI n) th (nI at_) isF op, aW T 0 (q 1) 111 mm, aW T 0 (q 3) 666 past, aW T 0 (q 4) 60 f, aW T 0 (q 5) 27 told]) _ := flP_sub hP2 [0, 1, 3, 4, 5] rfl
  have hDc4 : va_D A (fl [mO q (nI kp) (nI n) th (nI at_) isF op, aW T 0 (q 1) 111 mm, aW T 0 (q 3) 666 past, aW T 0 (q 4) 60 f, aW T 0 (q 5) 27 told]) := flD_sub hD2 [0, 1, 3, 4, 5] (by decide) rfl
  refine cl_i (br := [aW T 0 (q 2) 111 thn, aW T 0 (q 6) 3 wh, oW T o g2, w2]) (va_runV (As := []) (rest := []) ⟨hx, hb, hml, hown, hts⟩ (c_X6_rounds l D T q kp n th at_ isF op mm past f told c9 L9 (hkp6) (hn60) (hs9.2.2.2.2.1) _) (mkV hts okX6_rounds kw_837 kw_838 kw_839 ⟨rfl, rfl, Nat.le_of_ble_eq_true rfl, Nat.le_of_ble_eq_true rfl⟩) (pv_rw hK hPc4 hDc4 (q0 := 0) rfl rfl rfl) rfl rfl hl3.1 rfl (lv_room (Nat.le_of_ble_eq_true rfl)) dL_law_774 ⟨by show _ ≤ 604008; omega, by show _ ≤ 7284081; omega⟩) hP2 hD2 hS2 hA [2, 6, 7, 8] [0, 1, 3, 4, 5] rfl (by decide) (fun r_774 u_774 H5 locs5 hq_774 hP5 hD5 hS5 => ?_)
  clear hP2 hD2 hS2 hPc4 hDc4
  obtain ⟨kp2_774, ty2_774, th2_774, at2_774, isF2_774, now2_774, past2_774, told2_774⟩ := u_774
  have hP5 : va_P D vwCl (fl [aW T 0 (q 2) 111 thn, aW T 0 (q 6) 3 wh, oW T o g2, w2, mO q (nI kp2_774) (nI ty2_774) th2_774 (nI at2_774) isF2_774 op, aW T 0 (q 1) 111 now2_774, aW T 0 (q 3) 666 past2_774, aW T 0 (q 4) 60 f, aW T 0 (q 5) 27 told2_774]) _ := hP5
  have hD5 : va_D A (fl [aW T 0 (q 2) 111 thn, aW T 0 (q 6) 3 wh, oW T o g2, w2, mO q (nI kp2_774) (nI ty2_774) th2_774 (nI at2_774) isF2_774 op, aW T 0 (q 1) 111 now2_774, aW T 0 (q 3) 666 past2_774, aW T 0 (q 4) 60 f, aW T 0 (q 5) 27 told2_774]) := hD5
  have hq_774 : (cmB f 0 n = false → r_774 = nI 0 ∧ th2_774 = nI 1 ∧ now2_774 = mm ∧ past2_774 = past ∧ kp2_774 = kp ∧ ty2_774 = n) ∧ (cmB f 0 n = true → now2_774 = rdN mm told2_774 27 ∧ (∀ k, k < 3 → RT told2_774 c9 L9 (gvP (gvI f c9 L9 n)).1 (gvP (gvI f c9 L9 n)).2 k) ∧ r_774 = inR now2_774 ∧ th2_774 = nI 0 ∧ past2_774 = svP mm past kp ∧ kp2_774 = svK kp ∧ ty2_774 = 0) := hq_774
  have hP6 : va_P D vwCl (fl [aW T 0 (q 2) 111 thn, aW T 0 (q 6) 3 wh, oW T o g2, mO q (nI kp2_774) (nI ty2_774) th2_774 (nI at2_774) isF2_774 op, aW T 0 (q 1) 111 now2_774, aW T 0 (q 3) 666 past2_774, aW T 0 (q 4) 60 f, aW T 0 (q 5) 27 told2_774, w2]) _ := flP_sub hP5 [0, 1, 2, 4, 5, 6, 7, 8, 3] rfl
  have hD6 : va_D A (fl [aW T 0 (q 2) 111 thn, aW T 0 (q 6) 3 wh, oW T o g2, mO q (nI kp2_774) (nI ty2_774) th2_774 (nI at2_774) isF2_774 op, aW T 0 (q 1) 111 now2_774, aW T 0 (q 3) 666 past2_774, aW T 0 (q 4) 60 f, aW T 0 (q 5) 27 told2_774, w2]) := flD_sub hD5 [0, 1, 2, 4, 5, 6, 7, 8, 3] (by decide) rfl
  have hS6 := hS5
  clear hP5 hS5 hD5
  obtain ⟨hw1, hw2, hI2⟩ := hR9 _ _ _ _ _ _ _ hq_774
  have hw2 : r_w = nI 0 → g2 0 = r_774.toInt64 := hw2
  have hI2 : XINV T xa w2 now2_774 past2_774 kp2_774 f ty2_774 (96 * k + 96) := hI2
  refine lv_istore (lv' := [(6, .int r_774), (5, .int r_w), (0, .ref b), (1, .ref xa), (2, .ref (q 0)), (3, .ref o), (4, .int (nI (3 * k)))]) hx hb dL_law_777 hl3 (by decide) rfl (fun ls7 hl7 => ?_)
  clear hl3
  refine lv_aload_n hx hb dL_law_779 rfl (lv_at hl7 4 rfl) ?_
  have hPc8 : va_P D vwCl (fl [mO q (nI kp2_774) (nI ty2_774) th2_774 (nI at2_774) isF2_774 op]) _ := hP6.sub [3] rfl
  refine cr_i (va_runV (As := []) (rest := []) ⟨hx, hb, hml, hown, hts⟩ (c_X6_thrown l D T q kp2_774 ty2_774 th2_774 at2_774 isF2_774 op ) (mkV hts okX6_thrown kw_707 kw_708 kw_709 ⟨rfl, rfl, Nat.le_of_ble_eq_true rfl, Nat.le_of_ble_eq_true rfl⟩) (pv_ro hK hPc8 (q0 := 0) rfl rfl rfl) rfl rfl hl7.1 rfl (lv_room (Nat.le_of_ble_eq_true rfl)) dL_law_780 ⟨by show _ ≤ 604008; omega, by show _ ≤ 7284081; omega⟩) hP6 hS6 (fun r_780 H9 locs9 hq_780 hP9 hS9 => ?_)
  clear hP6 hS6 hPc8
  have hD9 := hD6
  clear hD6
  have hq_780 : r_780 = th2_774 := hq_780
  subst hq_780
  refine lv_iload hx hb dL_law_783 (lv_at hl7 1 rfl) ?_
  refine lv_icmp_eq (tgt := 790) hx hb dL_law_785 (by decide) (fun c10 => ?_) (fun c10 => absurd (hw1.symm) c10)
  refine lv_iload hx hb dL_law_790 (lv_at hl7 1 rfl) ?_
  refine lv_if_ne (tgt := 807) hx hb dL_law_792 (by decide) (fun c_792 => ?_) (fun c_792 => ?_)
  · skip
    refine lv_goto (tgt := 1363) hx hb dL_law_807 (by decide) ?_
    have hP12 : va_P D vwCl (fl [oW T o g2, mO q (nI kp2_774) (nI ty2_774) r_780 (nI at2_774) isF2_774 op, aW T 0 (q 1) 111 now2_774, aW T 0 (q 2) 111 thn, aW T 0 (q 3) 666 past2_774, aW T 0 (q 4) 60 f, aW T 0 (q 5) 27 told2_774, aW T 0 (q 6) 3 wh, w2]) _ := flP_sub hP9 [2, 3, 4, 0, 5, 6, 7, 1, 8] rfl
    have hD12 : va_D A (fl [oW T o g2, mO q (nI kp2_774) (nI ty2_774) r_780 (nI at2_774) isF2_774 op, aW T 0 (q 1) 111 now2_774, aW T 0 (q 2) 111 thn, aW T 0 (q 3) 666 past2_774, aW T 0 (q 4) 60 f, aW T 0 (q 5) 27 told2_774, aW T 0 (q 6) 3 wh, w2]) := flD_sub hD9 [2, 3, 4, 0, 5, 6, 7, 1, 8] (by decide) rfl
    have hS12 := hS9
    clear hP9 hS9 hD9
    refine W.widen (k := 160 + 3 * k + 3) (n := 2200 + 18 * k + 18) (by omega) (by omega) ?_
    exact KK w2 g2 r_780 at2_774 isF2_774 op thn told2_774 wh now2_774 past2_774 f kp2_774 ty2_774 hI2 _ _ hP12 hD12 hS12 _ (lv_sub hl7 [2, 3, 4, 5, 6] rfl)
  · skip
    refine lv_aload_n hx hb dL_law_795 rfl (lv_at hl7 5 rfl) ?_
    refine lv_iconst (v := nI 0) hx hb dL_law_796 (by decide) ?_
    refine r_lald hx hb hK hP9 2 (f := g2) rfl 0 (by decide) dL_law_797 (by decide) ?_
    refine lv_iload hx hb dL_law_798 (lv_at hl7 0 rfl) ?_
    refine lv_i2l hx hb dL_law_800 rfl ?_
    refine W.lcmp hx hb dL_law_801 ?_
    refine tp_i (y := nI 0) (by rw [hw2 c_792]; exact lgc_self _) ?_
    refine n_if_eq (tgt := 807) hx hb (by omega) dL_law_802 (by decide) (fun c13 => ?_) (fun c13 => absurd (by decide) c13)
    refine lv_goto (tgt := 1363) hx hb dL_law_807 (by decide) ?_
    have hP14 : va_P D vwCl (fl [oW T o g2, mO q (nI kp2_774) (nI ty2_774) r_780 (nI at2_774) isF2_774 op, aW T 0 (q 1) 111 now2_774, aW T 0 (q 2) 111 thn, aW T 0 (q 3) 666 past2_774, aW T 0 (q 4) 60 f, aW T 0 (q 5) 27 told2_774, aW T 0 (q 6) 3 wh, w2]) _ := flP_sub hP9 [2, 3, 4, 0, 5, 6, 7, 1, 8] rfl
    have hD14 : va_D A (fl [oW T o g2, mO q (nI kp2_774) (nI ty2_774) r_780 (nI at2_774) isF2_774 op, aW T 0 (q 1) 111 now2_774, aW T 0 (q 2) 111 thn, aW T 0 (q 3) 666 past2_774, aW T 0 (q 4) 60 f, aW T 0 (q 5) 27 told2_774, aW T 0 (q 6) 3 wh, w2]) := flD_sub hD9 [2, 3, 4, 0, 5, 6, 7, 1, 8] (by decide) rfl
    have hS14 := hS9
    clear hP9 hS9 hD9
    refine W.widen (k := 160 + 3 * k + 3) (n := 2200 + 18 * k + 18) (by omega) (by omega) ?_
    exact KK w2 g2 r_780 at2_774 isF2_774 op thn told2_774 wh now2_774 past2_774 f kp2_774 ty2_774 hI2 _ _ hP14 hD14 hS14 _ (lv_sub hl7 [2, 3, 4, 5, 6] rfl)
set_option maxHeartbeats 4000000 in
set_option maxRecDepth 100000 in
theorem law_cleanShare {pX : Program} {l : Launch} {eX : Env} {sX : State} {mX : MethodId} {bX : List Frame} {mtX : Method} {cX : Code} {D : va_G} {T : TI} {A : Nat → Prop} {b L : Nat} {xs : Nat → Int32} {xa o : Nat} {q : Nat → Nat} {TG : State → Prop} (hCX : LCX pX l sX mX cX D T A b L xs) (k : Nat) (hk : 3 * k + 3 ≤ L) (KK : LWP pX l eX sX mX bX mtX cX D T A b xa o q TG (96 * k + 96) (160 + 3 * k + 3) (2200 + 18 * k + 18) k 1363) : LWP pX l eX sX mX bX mtX cX D T A b xa o q TG (96 * k) (160 + 3 * k) (2200 + 18 * k) k 1308 := by
  obtain ⟨hx, hb, hml, hown, hts, hXs0, hls0, hns0, hK, hST, hA, hl, hL15⟩ := hCX
  intro w g th at_ isF op thn told wh mm past f kp n hI H0 locs0 hP0 hD0 hS0 ls0 hl0
  obtain ⟨hokS, hkp6, hn60⟩ := hI.okS
  refine lv_aload_n hx hb dL_law_1308 rfl (lv_at hl0 1 rfl) ?_
  obtain ⟨fs1, hfs1⟩ := hI.recv
  have hPc1 : va_P D vwCl (fl [w]) _ := flP_sub hP0 [8] rfl
  refine cr_d (va_runV (As := []) (rest := []) ⟨hx, hb, hml, hown, hts⟩ (d_X5_cleanShare l D T hI) (mkV hts okX5_cleanShare kw_329 kw_330 kw_331 ⟨rfl, rfl, Nat.le_of_ble_eq_true rfl, Nat.le_of_ble_eq_true rfl⟩) (pv_ro hK hPc1 hfs1 (q := (RX5, TX5, 5)) rfl rfl) rfl rfl hl0.1 rfl (lv_room (Nat.le_of_ble_eq_true rfl)) dL_law_1309 ⟨by show _ ≤ 604008; omega, by show _ ≤ 7284081; omega⟩) hP0 hS0 (fun r_x H2 locs2 hqx hP2 hS2 => ?_)
  have hD2 := hD0
  clear hP0 hS0 hPc1 hD0
  refine lv_dstore (lv' := [(5, .double r_x), (0, .ref b), (1, .ref xa), (2, .ref (q 0)), (3, .ref o), (4, .int (nI (3 * k)))]) hx hb dL_law_1312 hl0 (by decide) rfl (fun ls3 hl3 => ?_)
  clear hl0
  refine lv_aload_n hx hb dL_law_1314 rfl (lv_at hl3 3 rfl) ?_
  have hPc4 : va_P D vwCl (fl [mO q (nI kp) (nI n) th (nI at_) isF op, aW T 0 (q 1) 111 mm]) _ := flP_sub hP2 [1, 2] rfl
  have hDc4 : va_D A (fl [mO q (nI kp) (nI n) th (nI at_) isF op, aW T 0 (q 1) 111 mm]) := flD_sub hD2 [1, 2] (by decide) rfl
  refine cl_d (br := [oW T o g, aW T 0 (q 2) 111 thn, aW T 0 (q 3) 666 past, aW T 0 (q 4) 60 f, aW T 0 (q 5) 27 told, aW T 0 (q 6) 3 wh, w]) (va_runV (As := []) (rest := []) ⟨hx, hb, hml, hown, hts⟩ (c_X6_cleanShare l D T q kp n th at_ isF op mm  _) (mkV hts okX6_cleanShare kw_907 kw_908 kw_909 ⟨rfl, rfl, Nat.le_of_ble_eq_true rfl, Nat.le_of_ble_eq_true rfl⟩) (pv_rw hK hPc4 hDc4 (q0 := 0) rfl rfl rfl) rfl rfl hl3.1 rfl (lv_room (Nat.le_of_ble_eq_true rfl)) dL_law_1315 ⟨by show _ ≤ 604008; omega, by show _ ≤ 7284081; omega⟩) hP2 hD2 hS2 hA [0, 3, 4, 5, 6, 7, 8] [1, 2] rfl (by decide) (fun r_1315 th2_1315 H5 locs5 hq_1315 hP5 hD5 hS5 => ?_)
  clear hP2 hD2 hS2 hPc4 hDc4
  have hP5 : va_P D vwCl (fl [oW T o g, aW T 0 (q 2) 111 thn, aW T 0 (q 3) 666 past, aW T 0 (q 4) 60 f, aW T 0 (q 5) 27 told, aW T 0 (q 6) 3 wh, w, mO q (nI kp) (nI n) th2_1315 (nI at_) isF op, aW T 0 (q 1) 111 mm]) _ := hP5
  have hD5 : va_D A (fl [oW T o g, aW T 0 (q 2) 111 thn, aW T 0 (q 3) 666 past, aW T 0 (q 4) 60 f, aW T 0 (q 5) 27 told, aW T 0 (q 6) 3 wh, w, mO q (nI kp) (nI n) th2_1315 (nI at_) isF op, aW T 0 (q 1) 111 mm]) := hD5
  obtain ⟨hr_1315, hq_1315⟩ : r_1315 = shareD (12 - brNM mm 12) ∧ (th2_1315 = nI 0) := hq_1315
  subst hr_1315
  have hP6 : va_P D vwCl (fl [oW T o g, aW T 0 (q 2) 111 thn, aW T 0 (q 3) 666 past, aW T 0 (q 4) 60 f, aW T 0 (q 5) 27 told, aW T 0 (q 6) 3 wh, mO q (nI kp) (nI n) th2_1315 (nI at_) isF op, aW T 0 (q 1) 111 mm, w]) _ := flP_sub hP5 [0, 1, 2, 3, 4, 5, 7, 8, 6] rfl
  have hD6 : va_D A (fl [oW T o g, aW T 0 (q 2) 111 thn, aW T 0 (q 3) 666 past, aW T 0 (q 4) 60 f, aW T 0 (q 5) 27 told, aW T 0 (q 6) 3 wh, mO q (nI kp) (nI n) th2_1315 (nI at_) isF op, aW T 0 (q 1) 111 mm, w]) := flD_sub hD5 [0, 1, 2, 3, 4, 5, 7, 8, 6] (by decide) rfl
  have hS6 := hS5
  clear hP5 hS5 hD5
  refine lv_dstore (lv' := [(7, .double (shareD (12 - brNM mm 12))), (5, .double r_x), (0, .ref b), (1, .ref xa), (2, .ref (q 0)), (3, .ref o), (4, .int (nI (3 * k)))]) hx hb dL_law_1318 hl3 (by decide) rfl (fun ls7 hl7 => ?_)
  clear hl3
  refine lv_dload hx hb dL_law_1320 (lv_at hl7 1 rfl) ?_
  refine lv_dload hx hb dL_law_1322 (lv_at hl7 0 rfl) ?_
  have hb12 := brNM_le mm 12
  refine lv_dcmp hx hb dL_law_1324 ?_
  refine tp_i (y := nI 0) (by rw [hqx]; exact shareD_nn _ (by omega)) ?_
  refine n_if_eq (tgt := 1346) hx hb (by omega) dL_law_1325 (by decide) (fun c8 => ?_) (fun c8 => absurd (by decide) c8)
  refine lv_goto (tgt := 1363) hx hb dL_law_1346 (by decide) ?_
  have hP9 : va_P D vwCl (fl [oW T o g, mO q (nI kp) (nI n) th2_1315 (nI at_) isF op, aW T 0 (q 1) 111 mm, aW T 0 (q 2) 111 thn, aW T 0 (q 3) 666 past, aW T 0 (q 4) 60 f, aW T 0 (q 5) 27 told, aW T 0 (q 6) 3 wh, w]) _ := flP_sub hP6 [0, 6, 7, 1, 2, 3, 4, 5, 8] rfl
  have hD9 : va_D A (fl [oW T o g, mO q (nI kp) (nI n) th2_1315 (nI at_) isF op, aW T 0 (q 1) 111 mm, aW T 0 (q 2) 111 thn, aW T 0 (q 3) 666 past, aW T 0 (q 4) 60 f, aW T 0 (q 5) 27 told, aW T 0 (q 6) 3 wh, w]) := flD_sub hD6 [0, 6, 7, 1, 2, 3, 4, 5, 8] (by decide) rfl
  have hS9 := hS6
  clear hP6 hS6 hD6
  refine W.widen (k := 160 + 3 * k + 3) (n := 2200 + 18 * k + 18) (by omega) (by omega) ?_
  exact KK w g th2_1315 at_ isF op thn told wh mm past f kp n (hI.le (by omega)) _ _ hP9 hD9 hS9 _ (lv_sub hl7 [2, 3, 4, 5, 6] rfl)
set_option maxHeartbeats 4000000 in
set_option maxRecDepth 100000 in
theorem law_digest {pX : Program} {l : Launch} {eX : Env} {sX : State} {mX : MethodId} {bX : List Frame} {mtX : Method} {cX : Code} {D : va_G} {T : TI} {A : Nat → Prop} {b L : Nat} {xs : Nat → Int32} {xa o : Nat} {q : Nat → Nat} {TG : State → Prop} (hCX : LCX pX l sX mX cX D T A b L xs) (k : Nat) (hk : 3 * k + 3 ≤ L) (KK : LWP pX l eX sX mX bX mtX cX D T A b xa o q TG (96 * k + 96) (160 + 3 * k + 3) (2200 + 18 * k + 18) k 1363) : LWP pX l eX sX mX bX mtX cX D T A b xa o q TG (96 * k) (160 + 3 * k) (2200 + 18 * k) k 1349 := by
  obtain ⟨hx, hb, hml, hown, hts, hXs0, hls0, hns0, hK, hST, hA, hl, hL15⟩ := hCX
  intro w g th at_ isF op thn told wh mm past f kp n hI H0 locs0 hP0 hD0 hS0 ls0 hl0
  obtain ⟨hokS, hkp6, hn60⟩ := hI.okS
  refine lv_aload_n hx hb dL_law_1349 rfl (lv_at hl0 1 rfl) ?_
  obtain ⟨fs1, hfs1⟩ := hI.recv
  have hPc1 : va_P D vwCl (fl [w]) _ := flP_sub hP0 [8] rfl
  have hDc1 : va_D A (fl [w]) := flD_sub hD0 [8] (by decide) rfl
  refine cl_l (br := [oW T o g, mO q (nI kp) (nI n) th (nI at_) isF op, aW T 0 (q 1) 111 mm, aW T 0 (q 2) 111 thn, aW T 0 (q 3) 666 past, aW T 0 (q 4) 60 f, aW T 0 (q 5) 27 told, aW T 0 (q 6) 3 wh]) (va_runV (As := []) (rest := []) ⟨hx, hb, hml, hown, hts⟩ (d_X5_digest l D T hI (by omega) _) (mkV hts okX5_digest kw_334 kw_335 kw_336 ⟨rfl, rfl, Nat.le_of_ble_eq_true rfl, Nat.le_of_ble_eq_true rfl⟩) (pv_rw hK hPc1 hDc1 hfs1 (q := (RX5, TX5, 5)) rfl rfl) rfl rfl hl0.1 rfl (lv_room (Nat.le_of_ble_eq_true rfl)) dL_law_1350 ⟨by show _ ≤ 604008; omega, by show _ ≤ 7284081; omega⟩) hP0 hD0 hS0 hA [0, 1, 2, 3, 4, 5, 6, 7] [8] rfl (by decide) (fun r_x w2 H2 locs2 hqx hP2 hD2 hS2 => ?_)
  clear hP0 hD0 hS0 hPc1 hDc1
  have hP2 : va_P D vwCl (fl [oW T o g, mO q (nI kp) (nI n) th (nI at_) isF op, aW T 0 (q 1) 111 mm, aW T 0 (q 2) 111 thn, aW T 0 (q 3) 666 past, aW T 0 (q 4) 60 f, aW T 0 (q 5) 27 told, aW T 0 (q 6) 3 wh, w2]) _ := hP2
  have hD2 : va_D A (fl [oW T o g, mO q (nI kp) (nI n) th (nI at_) isF op, aW T 0 (q 1) 111 mm, aW T 0 (q 2) 111 thn, aW T 0 (q 3) 666 past, aW T 0 (q 4) 60 f, aW T 0 (q 5) 27 told, aW T 0 (q 6) 3 wh, w2]) := hD2
  refine lv_aload_n hx hb dL_law_1353 rfl (lv_at hl0 2 rfl) ?_
  have hPc3 : va_P D vwCl (fl [mO q (nI kp) (nI n) th (nI at_) isF op, aW T 0 (q 1) 111 mm, aW T 0 (q 2) 111 thn, aW T 0 (q 4) 60 f, aW T 0 (q 6) 3 wh]) _ := flP_sub hP2 [1, 2, 3, 5, 7] rfl
  have hDc3 : va_D A (fl [mO q (nI kp) (nI n) th (nI at_) isF op, aW T 0 (q 1) 111 mm, aW T 0 (q 2) 111 thn, aW T 0 (q 4) 60 f, aW T 0 (q 6) 3 wh]) := flD_sub hD2 [1, 2, 3, 5, 7] (by decide) rfl
  refine cl_l (br := [oW T o g, aW T 0 (q 3) 666 past, aW T 0 (q 5) 27 told, w2]) (va_runV (As := []) (rest := [.long r_x]) ⟨hx, hb, hml, hown, hts⟩ (c_X6_digest l D T q kp n th at_ isF op mm thn f wh (hokS) (hn60) _) (mkV hts okX6_digest kw_916 kw_917 kw_918 ⟨rfl, rfl, Nat.le_of_ble_eq_true rfl, Nat.le_of_ble_eq_true rfl⟩) (pv_rw hK hPc3 hDc3 (q0 := 0) rfl rfl rfl) rfl rfl hl0.1 rfl (lv_room (Nat.le_of_ble_eq_true rfl)) dL_law_1354 ⟨by show _ ≤ 604008; omega, by show _ ≤ 7284081; omega⟩) hP2 hD2 hS2 hA [0, 4, 6, 8] [1, 2, 3, 5, 7] rfl (by decide) (fun r_1354 u_1354 H4 locs4 hq_1354 hP4 hD4 hS4 => ?_)
  clear hP2 hD2 hS2 hPc3 hDc3
  obtain ⟨th2_1354, op2_1354, thn2_1354, wh2_1354⟩ := u_1354
  have hP4 : va_P D vwCl (fl [oW T o g, aW T 0 (q 3) 666 past, aW T 0 (q 5) 27 told, w2, mO q (nI kp) (nI n) th2_1354 (nI at_) isF op2_1354, aW T 0 (q 1) 111 mm, aW T 0 (q 2) 111 thn2_1354, aW T 0 (q 4) 60 f, aW T 0 (q 6) 3 wh2_1354]) _ := hP4
  have hD4 : va_D A (fl [oW T o g, aW T 0 (q 3) 666 past, aW T 0 (q 5) 27 told, w2, mO q (nI kp) (nI n) th2_1354 (nI at_) isF op2_1354, aW T 0 (q 1) 111 mm, aW T 0 (q 2) 111 thn2_1354, aW T 0 (q 4) 60 f, aW T 0 (q 6) 3 wh2_1354]) := hD4
  have hq_1354 : r_1354 = dgM mm kp n f ∧ th2_1354 = nI 0 := hq_1354
  have hP5 : va_P D vwCl (fl [oW T o g, aW T 0 (q 3) 666 past, aW T 0 (q 5) 27 told, mO q (nI kp) (nI n) th2_1354 (nI at_) isF op2_1354, aW T 0 (q 1) 111 mm, aW T 0 (q 2) 111 thn2_1354, aW T 0 (q 4) 60 f, aW T 0 (q 6) 3 wh2_1354, w2]) _ := flP_sub hP4 [0, 1, 2, 4, 5, 6, 7, 8, 3] rfl
  have hD5 : va_D A (fl [oW T o g, aW T 0 (q 3) 666 past, aW T 0 (q 5) 27 told, mO q (nI kp) (nI n) th2_1354 (nI at_) isF op2_1354, aW T 0 (q 1) 111 mm, aW T 0 (q 2) 111 thn2_1354, aW T 0 (q 4) 60 f, aW T 0 (q 6) 3 wh2_1354, w2]) := flD_sub hD4 [0, 1, 2, 4, 5, 6, 7, 8, 3] (by decide) rfl
  have hS5 := hS4
  clear hP4 hS4 hD4
  refine W.lcmp hx hb dL_law_1357 ?_
  refine tp_i (y := nI 0) (by rw [hqx.1, hq_1354.1]; exact lgc_self _) ?_
  refine n_if_eq (tgt := 1363) hx hb (by omega) dL_law_1358 (by decide) (fun c6 => ?_) (fun c6 => absurd (by decide) c6)
  have hP7 : va_P D vwCl (fl [oW T o g, mO q (nI kp) (nI n) th2_1354 (nI at_) isF op2_1354, aW T 0 (q 1) 111 mm, aW T 0 (q 2) 111 thn2_1354, aW T 0 (q 3) 666 past, aW T 0 (q 4) 60 f, aW T 0 (q 5) 27 told, aW T 0 (q 6) 3 wh2_1354, w2]) _ := flP_sub hP5 [0, 3, 4, 5, 1, 6, 2, 7, 8] rfl
  have hD7 : va_D A (fl [oW T o g, mO q (nI kp) (nI n) th2_1354 (nI at_) isF op2_1354, aW T 0 (q 1) 111 mm, aW T 0 (q 2) 111 thn2_1354, aW T 0 (q 3) 666 past, aW T 0 (q 4) 60 f, aW T 0 (q 5) 27 told, aW T 0 (q 6) 3 wh2_1354, w2]) := flD_sub hD5 [0, 3, 4, 5, 1, 6, 2, 7, 8] (by decide) rfl
  have hS7 := hS5
  clear hP5 hS5 hD5
  refine W.widen (k := 160 + 3 * k + 3) (n := 2200 + 18 * k + 18) (by omega) (by omega) ?_
  exact KK w2 g th2_1354 at_ isF op2_1354 thn2_1354 told wh2_1354 mm past f kp n hqx.2 _ _ hP7 hD7 hS7 _ (lv_sub hl0 [0, 1, 2, 3, 4] rfl)
