/-! the law's act -/
theorem n_m3 {n : Nat} (h : n < 1000000) : ¬ nI n = -3 := by
  intro e
  have := congrArg Int32.toInt e
  rw [nI_toInt (by omega)] at this
  have h2 : (-3 : Int32).toInt = -3 := by decide
  omega
theorem snd_cases {mm past : Nat → Int32} {kp z p : Nat} (hS : okS mm) (hz : z ≤ 2) (hp : p ≤ 11) : (if (sendP (nI z) (nI p) mm past kp).2.1 = nI 0 then (sendP (nI z) (nI p) mm past kp).1 else -3) = -3 ↔ ¬ (sendP (nI z) (nI p) mm past kp).2.1 = nI 0 := by
  obtain ⟨n, h1, h2, -⟩ := hS.okM z (by omega)
  unfold sendP
  rw [if_pos (inB_n hz (by omega)), if_pos (inB_n hp (by omega)), nIcl (show z < 2147483648 by omega), h2, nIcl (show n < 2147483648 by omega)]
  split
  · show (if nI 2 = nI 0 then nI 0 else -3) = -3 ↔ ¬ nI 2 = nI 0
    decide
  · show (if nI 0 = nI 0 then nI (n + 1) else -3) = -3 ↔ ¬ nI 0 = nI 0
    rw [if_pos rfl]
    exact ⟨fun q => absurd q (n_m3 (by omega)), fun q => absurd rfl q⟩
theorem act_0 (a b : Int32) (mm past : Nat → Int32) (kp : Nat) : actF 0 a b mm past kp = pressureP (nI (lowN a 3)) (nI (20 + lowN b 80)) mm past kp := rfl
theorem act_1 (a b : Int32) (mm past : Nat → Int32) (kp : Nat) : actF 1 a b mm past kp = pressureP (nI (lowN a 3)) (nI (20 + lowN b 80)) mm past kp := rfl
theorem act_2 (a b : Int32) (mm past : Nat → Int32) (kp : Nat) : actF 2 a b mm past kp = valveP (nI (lowN a 2)) (decide (lowN b 2 = 0)) mm past kp := rfl
theorem act_3 (a b : Int32) (mm past : Nat → Int32) (kp : Nat) : actF 3 a b mm past kp = dirtP (nI (lowN a 12)) (nI (lowN b (if lowN a 3 = 0 then 1000 else 120))) mm past kp := rfl
theorem act_4 (a b : Int32) (mm past : Nat → Int32) (kp : Nat) : actF 4 a b mm past kp = dirtP (nI (lowN a 12)) (nI (lowN b (if lowN a 3 = 0 then 1000 else 120))) mm past kp := rfl
theorem act_5 (a b : Int32) (mm past : Nat → Int32) (kp : Nat) : actF 5 a b mm past kp = dirtP (nI (lowN a 12)) (nI (lowN b (if lowN a 3 = 0 then 1000 else 120))) mm past kp := rfl
theorem act_6 (a b : Int32) (mm past : Nat → Int32) (kp : Nat) : actF 6 a b mm past kp = hydrantP (nI (lowN a 12)) (nI (1 + lowN b 30)) mm past kp := rfl
theorem act_7 (a b : Int32) (mm past : Nat → Int32) (kp : Nat) : actF 7 a b mm past kp = sndF (sendP (nI (lowN a 3)) (nI (lowN b 12)) mm past kp) := rfl
theorem act_8 (a b : Int32) (mm past : Nat → Int32) (kp : Nat) : actF 8 a b mm past kp = sndF (sendP (nI (lowN a 3)) (nI (lowN b 12)) mm past kp) := rfl
theorem act_9 (a b : Int32) (mm past : Nat → Int32) (kp : Nat) : actF 9 a b mm past kp = sndF (sendP (nI (lowN a 3)) (nI (lowN b 12)) mm past kp) := rfl
theorem act_10 (a b : Int32) (mm past : Nat → Int32) (kp : Nat) : actF 10 a b mm past kp = sndF (sendP (nI (lowN a 3)) (nI (lowN b 12)) mm past kp) := rfl
theorem act_11 (a b : Int32) (mm past : Nat → Int32) (kp : Nat) : actF 11 a b mm past kp = sndF (sendP (nI (lowN a 3)) (nI (lowN b 12)) mm past kp) := rfl
theorem act_12 (a b : Int32) (mm past : Nat → Int32) (kp : Nat) : actF 12 a b mm past kp = sndF (sendP (nI (lowN a 3)) (nI (lowN b 12)) mm past kp) := rfl
theorem act_13 (a b : Int32) (mm past : Nat → Int32) (kp : Nat) : actF 13 a b mm past kp = skipP (nI (lowN a 3)) mm past kp := rfl
theorem act_14 (a b : Int32) (mm past : Nat → Int32) (kp : Nat) : actF 14 a b mm past kp = setP (nI 0) (nI (lowN b 100)) mm past kp := rfl
theorem act_15 (a b : Int32) (mm past : Nat → Int32) (kp : Nat) : actF 15 a b mm past kp = setP (nI 1) (nI (lowN b 61)) mm past kp := rfl
theorem act_16 (a b : Int32) (mm past : Nat → Int32) (kp : Nat) : actF 16 a b mm past kp = if lowN a 2 = 0 then setP (nI 2) (nI (1 + lowN b 9)) mm past kp else setP (nI 3) (nI (lowN b 21)) mm past kp := rfl
theorem act_17 (a b : Int32) (mm past : Nat → Int32) (kp : Nat) : actF 17 a b mm past kp = passP (nI (1 + lowN a 6)) mm past kp := rfl
theorem act_18 (a b : Int32) (mm past : Nat → Int32) (kp : Nat) : actF 18 a b mm past kp = passP (nI (1 + lowN a 6)) mm past kp := rfl
theorem act_19 (a b : Int32) (mm past : Nat → Int32) (kp : Nat) : actF 19 a b mm past kp = passP (nI (1 + lowN a 6)) mm past kp := rfl
theorem act_20 (a b : Int32) (mm past : Nat → Int32) (kp : Nat) : actF 20 a b mm past kp = passP (nI (1 + lowN a 6)) mm past kp := rfl
theorem act_21 (a b : Int32) (mm past : Nat → Int32) (kp : Nat) : actF 21 a b mm past kp = undF (undoP mm past kp) := rfl
set_option maxHeartbeats 4000000 in
set_option maxRecDepth 100000 in
theorem c_L_low (l : Launch) (D : va_G) (T : TI) (v : Int32) (n : Nat) (hn : 0 < n) (h2 : n < 2147483648) : OI l yL_low cL_low 2 .int (rmD 0 0 0) D T [.int v, .int (nI n)] [] (fun r => r = nI (lowN v n)) := by
  refine met_ro rfl (Nat.le_of_ble_eq_true rfl) ?_
  intro pX eX sX mX bX mtX cX hC hP0 hS0 ls0 hl0 TG hTG
  obtain ⟨hx, hb, hr, hml, hown, hts, hlocks, hin, hK⟩ := hC
  have hown : sX.vm.findClass RL = some mX.cls := hown
  have hl0 : lv_has ls0 2 [(0, .int v), (1, .int (nI n))] := hl0
  have hn0 : ¬ nI n = 0 := nI_ne0 hn h2
  refine lv_iload_n hx hb dL_low_0 rfl (lv_at hl0 0 rfl) ?_
  refine lv_ldc (v := 2147483647) hx hb hown (hts _ kcst_7) dL_low_1 ?_
  refine tp_i (y := nI 2147483647) rfl ?_
  refine lv_iand hx hb dL_low_3 ?_
  refine lv_iload_n hx hb dL_low_4 rfl (lv_at hl0 1 rfl) ?_
  refine lv_irem hx hb dL_low_5 (by assumption) ?_
  refine tp_i (y := nI (lowN v n)) (low_eq hn h2) ?_
  refine ro_i hTG (Nat.le_refl _) (Nat.le_refl _) hx hb hr hlocks hS0 dL_low_6 ?_
  first | rfl | trivial
set_option maxHeartbeats 4000000 in
set_option maxRecDepth 100000 in
theorem c_L_act (l : Launch) (D : va_G) (T : TI) (hl : l.stackTraces = false) (xa : Nat) (b : Nat) (L : Nat) (xs : Nat → Int32) (wb : va_W) (mm : Nat → Int32) (past : Nat → Int32) (kp : Nat) (k : Nat) (hI : XN T xa wb mm past kp) (hL : L < 1000000) (hk : k < 1000) : ZI l yL_act cL_act 5 (rmD 9 3 18) D T b L xs [.ref xa, .ref b, .int (nI k)] [wb] 3 18 (β := va_W) (fun (w2 : va_W) => [w2]) (fun (r : Int32) (w2 : va_W) => r = (actF (lowN (cellF xs L k) 22) (cellF xs L (k + 1)) (cellF xs L (k + 2)) mm past kp).1 ∧ XN T xa w2 (actF (lowN (cellF xs L k) 22) (cellF xs L (k + 1)) (cellF xs L (k + 2)) mm past kp).2.2.1 (actF (lowN (cellF xs L k) 22) (cellF xs L (k + 1)) (cellF xs L (k + 2)) mm past kp).2.2.2.1 (actF (lowN (cellF xs L k) 22) (cellF xs L (k + 1)) (cellF xs L (k + 2)) mm past kp).2.2.2.2) := by
  intro sz
  refine met_z (Qc := fun A => va_Qi _ (PST D _ A) A) (XC := fun A => XPS D _ _ A) rfl (Nat.le_of_ble_eq_true rfl) ?_
  intro pX eX sX mX bX mtX cX A hAe hC hout hST hSC hA hP0 hD0 hS0 ls0 hl0 TG hTG
  clear hAe
  obtain ⟨hx, hb, hr, hml, hown, hts, hlocks, hin, hK⟩ := hC
  have hown : sX.vm.findClass RL = some mX.cls := hown
  have hl0 : lv_has ls0 5 [(0, .ref xa), (1, .ref b), (2, .int (nI k))] := hl0
  have hS : okS mm := hI.okS.1
  refine lv_aload_n hx hb dL_act_0 rfl (lv_at hl0 1 rfl) ?_
  refine lv_iload_n hx hb dL_act_1 rfl (lv_at hl0 2 rfl) ?_
  refine lv_iconst (v := nI 1) hx hb dL_act_2 (by decide) ?_
  refine lv_iadd hx hb dL_act_3 ?_
  refine tp_i (y := nI (k + 1)) (nI_add _ _) ?_
  refine cr_i (va_runS (As := [.ref b, .int (nI (k + 1))]) (rest := []) ⟨hx, hb, hml, hown, hts⟩ (c_L_cell l D T (b := b) (L := L) (xs := xs) (by omega) (k + 1) (by omega)) (mkS hts okL_cell kw_400 kw_401 ⟨rfl, rfl, (Nat.le_of_ble_eq_true rfl), (Nat.le_of_ble_eq_true rfl)⟩) (ps_oz hK hSC hS0) rfl rfl hl0.1 rfl (lv_room (Nat.le_of_ble_eq_true rfl)) dL_act_4 ⟨(Nat.le_of_ble_eq_true rfl), (Nat.le_of_ble_eq_true rfl)⟩) hP0 hS0 (fun r_1 H2 locs2 hq_1 hP2 hS2 => ?_)
  clear hP0 hS0
  have hD2 := hD0
  clear hD0
  have hq_1 : r_1 = cellF xs L (k + 1) := hq_1
  subst hq_1
  refine lv_istore_n (lv' := [(3, .int (cellF xs L (k + 1))), (0, .ref xa), (1, .ref b), (2, .int (nI k))]) hx hb dL_act_7 rfl hl0 (by decide) rfl (fun ls3 hl3 => ?_)
  clear hl0
  refine lv_aload_n hx hb dL_act_8 rfl (lv_at hl3 2 rfl) ?_
  refine lv_iload_n hx hb dL_act_9 rfl (lv_at hl3 3 rfl) ?_
  refine lv_iconst (v := nI 2) hx hb dL_act_10 (by decide) ?_
  refine lv_iadd hx hb dL_act_11 ?_
  refine tp_i (y := nI (k + 2)) (nI_add _ _) ?_
  refine cr_i (va_runS (As := [.ref b, .int (nI (k + 2))]) (rest := []) ⟨hx, hb, hml, hown, hts⟩ (c_L_cell l D T (b := b) (L := L) (xs := xs) (by omega) (k + 2) (by omega)) (mkS hts okL_cell kw_400 kw_401 ⟨rfl, rfl, (Nat.le_of_ble_eq_true rfl), (Nat.le_of_ble_eq_true rfl)⟩) (ps_oz hK hSC hS2) rfl rfl hl3.1 rfl (lv_room (Nat.le_of_ble_eq_true rfl)) dL_act_12 ⟨(Nat.le_of_ble_eq_true rfl), (Nat.le_of_ble_eq_true rfl)⟩) hP2 hS2 (fun r_4 H5 locs5 hq_4 hP5 hS5 => ?_)
  clear hP2 hS2
  have hD5 := hD2
  clear hD2
  have hq_4 : r_4 = cellF xs L (k + 2) := hq_4
  subst hq_4
  refine lv_istore (lv' := [(4, .int (cellF xs L (k + 2))), (3, .int (cellF xs L (k + 1))), (0, .ref xa), (1, .ref b), (2, .int (nI k))]) hx hb dL_act_15 hl3 (by decide) rfl (fun ls6 hl6 => ?_)
  clear hl3
  refine lv_aload_n hx hb dL_act_17 rfl (lv_at hl6 3 rfl) ?_
  refine lv_iload_n hx hb dL_act_18 rfl (lv_at hl6 4 rfl) ?_
  refine cr_i (va_runS (As := [.ref b, .int (nI k)]) (rest := []) ⟨hx, hb, hml, hown, hts⟩ (c_L_cell l D T (b := b) (L := L) (xs := xs) (by omega) k (by omega)) (mkS hts okL_cell kw_400 kw_401 ⟨rfl, rfl, (Nat.le_of_ble_eq_true rfl), (Nat.le_of_ble_eq_true rfl)⟩) (ps_oz hK hSC hS5) rfl rfl hl6.1 rfl (lv_room (Nat.le_of_ble_eq_true rfl)) dL_act_19 ⟨(Nat.le_of_ble_eq_true rfl), (Nat.le_of_ble_eq_true rfl)⟩) hP5 hS5 (fun r_7 H8 locs8 hq_7 hP8 hS8 => ?_)
  clear hP5 hS5
  have hD8 := hD5
  clear hD5
  have hq_7 : r_7 = cellF xs L k := hq_7
  subst hq_7
  refine lv_bipush (v := nI 22) hx hb dL_act_22 (by decide) ?_
  have hPc9 : va_P D vwCl (fl []) _ := hP8.sub [] rfl
  refine cr_i (va_runS (As := [.int (cellF xs L k), .int (nI 22)]) (rest := []) ⟨hx, hb, hml, hown, hts⟩ (c_L_low l D T (cellF xs L k) 22 (by omega) (by omega)) (mkS hts okL_low kw_396 kw_397 ⟨rfl, rfl, Nat.le_of_ble_eq_true rfl, Nat.le_of_ble_eq_true rfl⟩) (ps_ro hK hPc9) rfl rfl hl6.1 rfl (lv_room (Nat.le_of_ble_eq_true rfl)) dL_act_24 ⟨Nat.le_of_ble_eq_true rfl, Nat.le_of_ble_eq_true rfl⟩) hP8 hS8 (fun r_24 H10 locs10 hq_24 hP10 hS10 => ?_)
  clear hP8 hS8 hPc9
  have hD10 := hD8
  clear hD8
  have hq_24 : r_24 = nI (lowN (cellF xs L k) 22) := hq_24
  subst hq_24
  obtain ⟨j, hj⟩ : ∃ j, j = lowN (cellF xs L k) 22 := ⟨_, rfl⟩
  have hj22 : j < 22 := by rw [hj]; exact lowN_lt _ (by omega)
  refine tp_i (y := nI j) (by rw [hj]) ?_
  have la := fun (n : Nat) (hn : 0 < n) => lowN_lt (cellF xs L (k + 1)) hn
  have lb := fun (n : Nat) (hn : 0 < n) => lowN_lt (cellF xs L (k + 2)) hn
  rcases (show j = 0 ∨ j = 1 ∨ j = 2 ∨ j = 3 ∨ j = 4 ∨ j = 5 ∨ j = 6 ∨ j = 7 ∨ j = 8 ∨ j = 9 ∨ j = 10 ∨ j = 11 ∨ j = 12 ∨ j = 13 ∨ j = 14 ∨ j = 15 ∨ j = 16 ∨ j = 17 ∨ j = 18 ∨ j = 19 ∨ j = 20 ∨ j = 21 by omega) with rfl | rfl | rfl | rfl | rfl | rfl | rfl | rfl | rfl | rfl | rfl | rfl | rfl | rfl | rfl | rfl | rfl | rfl | rfl | rfl | rfl | rfl
  · skip
    clear hj22
    refine lv_tableIn (tgt := 124) hx hb dL_act_27 (by decide) (by decide) rfl (by decide) ?_
    refine lv_aload_n hx hb dL_act_124 rfl (lv_at hl6 2 rfl) ?_
    refine lv_iload_n hx hb dL_act_125 rfl (lv_at hl6 1 rfl) ?_
    refine lv_iconst (v := nI 3) hx hb dL_act_126 (by decide) ?_
    have hPc11 : va_P D vwCl (fl []) _ := hP10.sub [] rfl
    refine cr_i (va_runS (As := [.int (cellF xs L (k + 1)), .int (nI 3)]) (rest := [.ref xa]) ⟨hx, hb, hml, hown, hts⟩ (c_L_low l D T (cellF xs L (k + 1)) 3 (by omega) (by omega)) (mkS hts okL_low kw_396 kw_397 ⟨rfl, rfl, Nat.le_of_ble_eq_true rfl, Nat.le_of_ble_eq_true rfl⟩) (ps_ro hK hPc11) rfl rfl hl6.1 rfl (lv_room (Nat.le_of_ble_eq_true rfl)) dL_act_127 ⟨Nat.le_of_ble_eq_true rfl, Nat.le_of_ble_eq_true rfl⟩) hP10 hS10 (fun r_127 H12 locs12 hq_127 hP12 hS12 => ?_)
    clear hP10 hS10 hPc11
    have hD12 := hD10
    clear hD10
    have hq_127 : r_127 = nI (lowN (cellF xs L (k + 1)) 3) := hq_127
    subst hq_127
    refine lv_bipush (v := nI 20) hx hb dL_act_130 (by decide) ?_
    refine lv_iload hx hb dL_act_132 (lv_at hl6 0 rfl) ?_
    refine lv_bipush (v := nI 80) hx hb dL_act_134 (by decide) ?_
    have hPc13 : va_P D vwCl (fl []) _ := hP12.sub [] rfl
    refine cr_i (va_runS (As := [.int (cellF xs L (k + 2)), .int (nI 80)]) (rest := [.int (nI 20), .int (nI (lowN (cellF xs L (k + 1)) 3)), .ref xa]) ⟨hx, hb, hml, hown, hts⟩ (c_L_low l D T (cellF xs L (k + 2)) 80 (by omega) (by omega)) (mkS hts okL_low kw_396 kw_397 ⟨rfl, rfl, Nat.le_of_ble_eq_true rfl, Nat.le_of_ble_eq_true rfl⟩) (ps_ro hK hPc13) rfl rfl hl6.1 rfl (lv_room (Nat.le_of_ble_eq_true rfl)) dL_act_136 ⟨Nat.le_of_ble_eq_true rfl, Nat.le_of_ble_eq_true rfl⟩) hP12 hS12 (fun r_136 H14 locs14 hq_136 hP14 hS14 => ?_)
    clear hP12 hS12 hPc13
    have hD14 := hD12
    clear hD12
    have hq_136 : r_136 = nI (lowN (cellF xs L (k + 2)) 80) := hq_136
    subst hq_136
    refine lv_iadd hx hb dL_act_139 ?_
    refine tp_i (y := nI (20 + (lowN (cellF xs L (k + 2)) 80))) (nI_add _ _) ?_
    have := la 3 (by omega)
    have := lb 80 (by omega)
    have hnt15 : (pressureP (nI (lowN (cellF xs L (k + 1)) 3)) (nI (20 + (lowN (cellF xs L (k + 2)) 80))) mm past kp).2.1 = nI 0 := nt_pressure (by omega) (by omega)
    obtain ⟨fs15, hfs15⟩ := XINV.recv hI
    have hPc15 : va_P D vwCl (fl [wb]) _ := flP_sub hP14 [0] rfl
    have hDc15 : va_D A (fl [wb]) := flD_sub hD14 [0] (by decide) rfl
    refine clx_i (br := []) (vx_runV (As := [.int (nI (lowN (cellF xs L (k + 1)) 3)), .int (nI (20 + (lowN (cellF xs L (k + 2)) 80)))]) (rest := []) ⟨hx, hb, hml, hown, hts⟩ (d_X5_pressure l D T hl hI (by omega) (nI (lowN (cellF xs L (k + 1)) 3)) (nI (20 + (lowN (cellF xs L (k + 2)) 80))) _) (mkV hts okX5_pressure kw_439 kw_440 kw_441 ⟨rfl, rfl, (Nat.le_of_ble_eq_true rfl), (Nat.le_of_ble_eq_true rfl)⟩) (pv_x hK hST hS14 hPc15 hDc15 (vA_c (br := []) hP14 hD14 hS14 hA (isR := []) (isC := [0]) rfl (by decide)) hfs15 (q := (RX5, TX5, 5)) rfl rfl) rfl rfl hl6.1 rfl (lv_room (Nat.le_of_ble_eq_true rfl)) dL_act_140 ⟨(Nat.le_of_ble_eq_true rfl), (Nat.le_of_ble_eq_true rfl)⟩) hP14 hD14 hS14 hA [] [0] rfl (by decide) (fun E ce q9 _ux Hx lx hqx hPx hDx hSx h1 h2 h3 => absurd hqx (noX2 hnt15)) (fun r_15 w_15 H16 locs16 hq_15 hP16 hD16 hS16 => ?_)
    clear hP14 hD14 hS14 hPc15 hDc15 hfs15 hI
    obtain ⟨hr_15, -, hI⟩ := hq_15
    have hI : XN T xa w_15 (pressureP (nI (lowN (cellF xs L (k + 1)) 3)) (nI (20 + (lowN (cellF xs L (k + 2)) 80))) mm past kp).2.2.1 (pressureP (nI (lowN (cellF xs L (k + 1)) 3)) (nI (20 + (lowN (cellF xs L (k + 2)) 80))) mm past kp).2.2.2.1 (pressureP (nI (lowN (cellF xs L (k + 1)) 3)) (nI (20 + (lowN (cellF xs L (k + 2)) 80))) mm past kp).2.2.2.2 := XN.of hI
    have hP16 : va_P D vwCl (fl [w_15]) _ := hP16
    have hD16 : va_D A (fl [w_15]) := hD16
    refine retx_i hTG (Nat.le_of_ble_eq_true rfl) (Nat.le_of_ble_eq_true rfl) hx hb hr hlocks (w_15) hP16 hD16 hS16 [0] rfl (by decide) dL_act_143 ?_
    rw [← hj]
    have eA : actF 0 (cellF xs L (k + 1)) (cellF xs L (k + 2)) mm past kp = pressureP (nI (lowN (cellF xs L (k + 1)) 3)) (nI (20 + (lowN (cellF xs L (k + 2)) 80))) mm past kp := act_0 _ _ _ _ _
    rw [eA]
    exact ⟨hr_15, hI⟩
  · skip
    clear hj22
    refine lv_tableIn (tgt := 124) hx hb dL_act_27 (by decide) (by decide) rfl (by decide) ?_
    refine lv_aload_n hx hb dL_act_124 rfl (lv_at hl6 2 rfl) ?_
    refine lv_iload_n hx hb dL_act_125 rfl (lv_at hl6 1 rfl) ?_
    refine lv_iconst (v := nI 3) hx hb dL_act_126 (by decide) ?_
    have hPc17 : va_P D vwCl (fl []) _ := hP10.sub [] rfl
    refine cr_i (va_runS (As := [.int (cellF xs L (k + 1)), .int (nI 3)]) (rest := [.ref xa]) ⟨hx, hb, hml, hown, hts⟩ (c_L_low l D T (cellF xs L (k + 1)) 3 (by omega) (by omega)) (mkS hts okL_low kw_396 kw_397 ⟨rfl, rfl, Nat.le_of_ble_eq_true rfl, Nat.le_of_ble_eq_true rfl⟩) (ps_ro hK hPc17) rfl rfl hl6.1 rfl (lv_room (Nat.le_of_ble_eq_true rfl)) dL_act_127 ⟨Nat.le_of_ble_eq_true rfl, Nat.le_of_ble_eq_true rfl⟩) hP10 hS10 (fun r_127 H18 locs18 hq_127 hP18 hS18 => ?_)
    clear hP10 hS10 hPc17
    have hD18 := hD10
    clear hD10
    have hq_127 : r_127 = nI (lowN (cellF xs L (k + 1)) 3) := hq_127
    subst hq_127
    refine lv_bipush (v := nI 20) hx hb dL_act_130 (by decide) ?_
    refine lv_iload hx hb dL_act_132 (lv_at hl6 0 rfl) ?_
    refine lv_bipush (v := nI 80) hx hb dL_act_134 (by decide) ?_
    have hPc19 : va_P D vwCl (fl []) _ := hP18.sub [] rfl
    refine cr_i (va_runS (As := [.int (cellF xs L (k + 2)), .int (nI 80)]) (rest := [.int (nI 20), .int (nI (lowN (cellF xs L (k + 1)) 3)), .ref xa]) ⟨hx, hb, hml, hown, hts⟩ (c_L_low l D T (cellF xs L (k + 2)) 80 (by omega) (by omega)) (mkS hts okL_low kw_396 kw_397 ⟨rfl, rfl, Nat.le_of_ble_eq_true rfl, Nat.le_of_ble_eq_true rfl⟩) (ps_ro hK hPc19) rfl rfl hl6.1 rfl (lv_room (Nat.le_of_ble_eq_true rfl)) dL_act_136 ⟨Nat.le_of_ble_eq_true rfl, Nat.le_of_ble_eq_true rfl⟩) hP18 hS18 (fun r_136 H20 locs20 hq_136 hP20 hS20 => ?_)
    clear hP18 hS18 hPc19
    have hD20 := hD18
    clear hD18
    have hq_136 : r_136 = nI (lowN (cellF xs L (k + 2)) 80) := hq_136
    subst hq_136
    refine lv_iadd hx hb dL_act_139 ?_
    refine tp_i (y := nI (20 + (lowN (cellF xs L (k + 2)) 80))) (nI_add _ _) ?_
    have := la 3 (by omega)
    have := lb 80 (by omega)
    have hnt21 : (pressureP (nI (lowN (cellF xs L (k + 1)) 3)) (nI (20 + (lowN (cellF xs L (k + 2)) 80))) mm past kp).2.1 = nI 0 := nt_pressure (by omega) (by omega)
    obtain ⟨fs21, hfs21⟩ := XINV.recv hI
    have hPc21 : va_P D vwCl (fl [wb]) _ := flP_sub hP20 [0] rfl
    have hDc21 : va_D A (fl [wb]) := flD_sub hD20 [0] (by decide) rfl
    refine clx_i (br := []) (vx_runV (As := [.int (nI (lowN (cellF xs L (k + 1)) 3)), .int (nI (20 + (lowN (cellF xs L (k + 2)) 80)))]) (rest := []) ⟨hx, hb, hml, hown, hts⟩ (d_X5_pressure l D T hl hI (by omega) (nI (lowN (cellF xs L (k + 1)) 3)) (nI (20 + (lowN (cellF xs L (k + 2)) 80))) _) (mkV hts okX5_pressure kw_439 kw_440 kw_441 ⟨rfl, rfl, (Nat.le_of_ble_eq_true rfl), (Nat.le_of_ble_eq_true rfl)⟩) (pv_x hK hST hS20 hPc21 hDc21 (vA_c (br := []) hP20 hD20 hS20 hA (isR := []) (isC := [0]) rfl (by decide)) hfs21 (q := (RX5, TX5, 5)) rfl rfl) rfl rfl hl6.1 rfl (lv_room (Nat.le_of_ble_eq_true rfl)) dL_act_140 ⟨(Nat.le_of_ble_eq_true rfl), (Nat.le_of_ble_eq_true rfl)⟩) hP20 hD20 hS20 hA [] [0] rfl (by decide) (fun E ce q9 _ux Hx lx hqx hPx hDx hSx h1 h2 h3 => absurd hqx (noX2 hnt21)) (fun r_21 w_21 H22 locs22 hq_21 hP22 hD22 hS22 => ?_)
    clear hP20 hD20 hS20 hPc21 hDc21 hfs21 hI
    obtain ⟨hr_21, -, hI⟩ := hq_21
    have hI : XN T xa w_21 (pressureP (nI (lowN (cellF xs L (k + 1)) 3)) (nI (20 + (lowN (cellF xs L (k + 2)) 80))) mm past kp).2.2.1 (pressureP (nI (lowN (cellF xs L (k + 1)) 3)) (nI (20 + (lowN (cellF xs L (k + 2)) 80))) mm past kp).2.2.2.1 (pressureP (nI (lowN (cellF xs L (k + 1)) 3)) (nI (20 + (lowN (cellF xs L (k + 2)) 80))) mm past kp).2.2.2.2 := XN.of hI
    have hP22 : va_P D vwCl (fl [w_21]) _ := hP22
    have hD22 : va_D A (fl [w_21]) := hD22
    refine retx_i hTG (Nat.le_of_ble_eq_true rfl) (Nat.le_of_ble_eq_true rfl) hx hb hr hlocks (w_21) hP22 hD22 hS22 [0] rfl (by decide) dL_act_143 ?_
    rw [← hj]
    have eA : actF 1 (cellF xs L (k + 1)) (cellF xs L (k + 2)) mm past kp = pressureP (nI (lowN (cellF xs L (k + 1)) 3)) (nI (20 + (lowN (cellF xs L (k + 2)) 80))) mm past kp := act_1 _ _ _ _ _
    rw [eA]
    exact ⟨hr_21, hI⟩
  · skip
    clear hj22
    refine lv_tableIn (tgt := 144) hx hb dL_act_27 (by decide) (by decide) rfl (by decide) ?_
    refine lv_aload_n hx hb dL_act_144 rfl (lv_at hl6 2 rfl) ?_
    refine lv_iload_n hx hb dL_act_145 rfl (lv_at hl6 1 rfl) ?_
    refine lv_iconst (v := nI 2) hx hb dL_act_146 (by decide) ?_
    have hPc23 : va_P D vwCl (fl []) _ := hP10.sub [] rfl
    refine cr_i (va_runS (As := [.int (cellF xs L (k + 1)), .int (nI 2)]) (rest := [.ref xa]) ⟨hx, hb, hml, hown, hts⟩ (c_L_low l D T (cellF xs L (k + 1)) 2 (by omega) (by omega)) (mkS hts okL_low kw_396 kw_397 ⟨rfl, rfl, Nat.le_of_ble_eq_true rfl, Nat.le_of_ble_eq_true rfl⟩) (ps_ro hK hPc23) rfl rfl hl6.1 rfl (lv_room (Nat.le_of_ble_eq_true rfl)) dL_act_147 ⟨Nat.le_of_ble_eq_true rfl, Nat.le_of_ble_eq_true rfl⟩) hP10 hS10 (fun r_147 H24 locs24 hq_147 hP24 hS24 => ?_)
    clear hP10 hS10 hPc23
    have hD24 := hD10
    clear hD10
    have hq_147 : r_147 = nI (lowN (cellF xs L (k + 1)) 2) := hq_147
    subst hq_147
    refine lv_iload hx hb dL_act_150 (lv_at hl6 0 rfl) ?_
    refine lv_iconst (v := nI 2) hx hb dL_act_152 (by decide) ?_
    have hPc25 : va_P D vwCl (fl []) _ := hP24.sub [] rfl
    refine cr_i (va_runS (As := [.int (cellF xs L (k + 2)), .int (nI 2)]) (rest := [.int (nI (lowN (cellF xs L (k + 1)) 2)), .ref xa]) ⟨hx, hb, hml, hown, hts⟩ (c_L_low l D T (cellF xs L (k + 2)) 2 (by omega) (by omega)) (mkS hts okL_low kw_396 kw_397 ⟨rfl, rfl, Nat.le_of_ble_eq_true rfl, Nat.le_of_ble_eq_true rfl⟩) (ps_ro hK hPc25) rfl rfl hl6.1 rfl (lv_room (Nat.le_of_ble_eq_true rfl)) dL_act_153 ⟨Nat.le_of_ble_eq_true rfl, Nat.le_of_ble_eq_true rfl⟩) hP24 hS24 (fun r_153 H26 locs26 hq_153 hP26 hS26 => ?_)
    clear hP24 hS24 hPc25
    have hD26 := hD24
    clear hD24
    have hq_153 : r_153 = nI (lowN (cellF xs L (k + 2)) 2) := hq_153
    subst hq_153
    have := lb 2 (by omega)
    refine n_if_ne (tgt := 163) hx hb (by omega) dL_act_156 (by decide) (fun c_156 => ?_) (fun c_156 => ?_)
    · skip
      refine lv_iconst (v := nI 0) hx hb dL_act_163 (by decide) ?_
      have := la 2 (by omega)
      refine tp_i (y := bI false) rfl ?_
      have hnt28 : (valveP (nI (lowN (cellF xs L (k + 1)) 2)) false mm past kp).2.1 = nI 0 := nt_valve (by omega)
      obtain ⟨fs28, hfs28⟩ := XINV.recv hI
      have hPc28 : va_P D vwCl (fl [wb]) _ := flP_sub hP26 [0] rfl
      have hDc28 : va_D A (fl [wb]) := flD_sub hD26 [0] (by decide) rfl
      refine clx_i (br := []) (vx_runV (As := [.int (nI (lowN (cellF xs L (k + 1)) 2)), .int (bI false)]) (rest := []) ⟨hx, hb, hml, hown, hts⟩ (d_X5_valve l D T hl hI (by omega) (nI (lowN (cellF xs L (k + 1)) 2)) false _) (mkV hts okX5_valve kw_443 kw_444 kw_445 ⟨rfl, rfl, (Nat.le_of_ble_eq_true rfl), (Nat.le_of_ble_eq_true rfl)⟩) (pv_x hK hST hS26 hPc28 hDc28 (vA_c (br := []) hP26 hD26 hS26 hA (isR := []) (isC := [0]) rfl (by decide)) hfs28 (q := (RX5, TX5, 5)) rfl rfl) rfl rfl hl6.1 rfl (lv_room (Nat.le_of_ble_eq_true rfl)) dL_act_164 ⟨(Nat.le_of_ble_eq_true rfl), (Nat.le_of_ble_eq_true rfl)⟩) hP26 hD26 hS26 hA [] [0] rfl (by decide) (fun E ce q9 _ux Hx lx hqx hPx hDx hSx h1 h2 h3 => absurd hqx (noX1 hnt28)) (fun r_28 w_28 H29 locs29 hq_28 hP29 hD29 hS29 => ?_)
      clear hP26 hD26 hS26 hPc28 hDc28 hfs28 hI
      obtain ⟨hr_28, -, hI⟩ := hq_28
      have hI : XN T xa w_28 (valveP (nI (lowN (cellF xs L (k + 1)) 2)) false mm past kp).2.2.1 (valveP (nI (lowN (cellF xs L (k + 1)) 2)) false mm past kp).2.2.2.1 (valveP (nI (lowN (cellF xs L (k + 1)) 2)) false mm past kp).2.2.2.2 := XN.of hI
      have hP29 : va_P D vwCl (fl [w_28]) _ := hP29
      have hD29 : va_D A (fl [w_28]) := hD29
      refine retx_i hTG (Nat.le_of_ble_eq_true rfl) (Nat.le_of_ble_eq_true rfl) hx hb hr hlocks (w_28) hP29 hD29 hS29 [0] rfl (by decide) dL_act_167 ?_
      rw [← hj]
      have eA : actF 2 (cellF xs L (k + 1)) (cellF xs L (k + 2)) mm past kp = valveP (nI (lowN (cellF xs L (k + 1)) 2)) false mm past kp := by rw [act_2, decide_eq_false c_156]
      rw [eA]
      exact ⟨hr_28, hI⟩
    · skip
      refine lv_iconst (v := nI 1) hx hb dL_act_159 (by decide) ?_
      refine lv_goto (tgt := 164) hx hb dL_act_160 (by decide) ?_
      have := la 2 (by omega)
      refine tp_i (y := bI true) rfl ?_
      have hnt30 : (valveP (nI (lowN (cellF xs L (k + 1)) 2)) true mm past kp).2.1 = nI 0 := nt_valve (by omega)
      obtain ⟨fs30, hfs30⟩ := XINV.recv hI
      have hPc30 : va_P D vwCl (fl [wb]) _ := flP_sub hP26 [0] rfl
      have hDc30 : va_D A (fl [wb]) := flD_sub hD26 [0] (by decide) rfl
      refine clx_i (br := []) (vx_runV (As := [.int (nI (lowN (cellF xs L (k + 1)) 2)), .int (bI true)]) (rest := []) ⟨hx, hb, hml, hown, hts⟩ (d_X5_valve l D T hl hI (by omega) (nI (lowN (cellF xs L (k + 1)) 2)) true _) (mkV hts okX5_valve kw_443 kw_444 kw_445 ⟨rfl, rfl, (Nat.le_of_ble_eq_true rfl), (Nat.le_of_ble_eq_true rfl)⟩) (pv_x hK hST hS26 hPc30 hDc30 (vA_c (br := []) hP26 hD26 hS26 hA (isR := []) (isC := [0]) rfl (by decide)) hfs30 (q := (RX5, TX5, 5)) rfl rfl) rfl rfl hl6.1 rfl (lv_room (Nat.le_of_ble_eq_true rfl)) dL_act_164 ⟨(Nat.le_of_ble_eq_true rfl), (Nat.le_of_ble_eq_true rfl)⟩) hP26 hD26 hS26 hA [] [0] rfl (by decide) (fun E ce q9 _ux Hx lx hqx hPx hDx hSx h1 h2 h3 => absurd hqx (noX1 hnt30)) (fun r_30 w_30 H31 locs31 hq_30 hP31 hD31 hS31 => ?_)
      clear hP26 hD26 hS26 hPc30 hDc30 hfs30 hI
      obtain ⟨hr_30, -, hI⟩ := hq_30
      have hI : XN T xa w_30 (valveP (nI (lowN (cellF xs L (k + 1)) 2)) true mm past kp).2.2.1 (valveP (nI (lowN (cellF xs L (k + 1)) 2)) true mm past kp).2.2.2.1 (valveP (nI (lowN (cellF xs L (k + 1)) 2)) true mm past kp).2.2.2.2 := XN.of hI
      have hP31 : va_P D vwCl (fl [w_30]) _ := hP31
      have hD31 : va_D A (fl [w_30]) := hD31
      refine retx_i hTG (Nat.le_of_ble_eq_true rfl) (Nat.le_of_ble_eq_true rfl) hx hb hr hlocks (w_30) hP31 hD31 hS31 [0] rfl (by decide) dL_act_167 ?_
      rw [← hj]
      have eA : actF 2 (cellF xs L (k + 1)) (cellF xs L (k + 2)) mm past kp = valveP (nI (lowN (cellF xs L (k + 1)) 2)) true mm past kp := by rw [act_2, decide_eq_true c_156]
      rw [eA]
      exact ⟨hr_30, hI⟩
  · skip
    clear hj22
    refine lv_tableIn (tgt := 168) hx hb dL_act_27 (by decide) (by decide) rfl (by decide) ?_
    refine lv_aload_n hx hb dL_act_168 rfl (lv_at hl6 2 rfl) ?_
    refine lv_iload_n hx hb dL_act_169 rfl (lv_at hl6 1 rfl) ?_
    refine lv_bipush (v := nI 12) hx hb dL_act_170 (by decide) ?_
    have hPc32 : va_P D vwCl (fl []) _ := hP10.sub [] rfl
    refine cr_i (va_runS (As := [.int (cellF xs L (k + 1)), .int (nI 12)]) (rest := [.ref xa]) ⟨hx, hb, hml, hown, hts⟩ (c_L_low l D T (cellF xs L (k + 1)) 12 (by omega) (by omega)) (mkS hts okL_low kw_396 kw_397 ⟨rfl, rfl, Nat.le_of_ble_eq_true rfl, Nat.le_of_ble_eq_true rfl⟩) (ps_ro hK hPc32) rfl rfl hl6.1 rfl (lv_room (Nat.le_of_ble_eq_true rfl)) dL_act_172 ⟨Nat.le_of_ble_eq_true rfl, Nat.le_of_ble_eq_true rfl⟩) hP10 hS10 (fun r_172 H33 locs33 hq_172 hP33 hS33 => ?_)
    clear hP10 hS10 hPc32
    have hD33 := hD10
    clear hD10
    have hq_172 : r_172 = nI (lowN (cellF xs L (k + 1)) 12) := hq_172
    subst hq_172
    refine lv_iload hx hb dL_act_175 (lv_at hl6 0 rfl) ?_
    refine lv_iload_n hx hb dL_act_177 rfl (lv_at hl6 1 rfl) ?_
    refine lv_iconst (v := nI 3) hx hb dL_act_178 (by decide) ?_
    have hPc34 : va_P D vwCl (fl []) _ := hP33.sub [] rfl
    refine cr_i (va_runS (As := [.int (cellF xs L (k + 1)), .int (nI 3)]) (rest := [.int (cellF xs L (k + 2)), .int (nI (lowN (cellF xs L (k + 1)) 12)), .ref xa]) ⟨hx, hb, hml, hown, hts⟩ (c_L_low l D T (cellF xs L (k + 1)) 3 (by omega) (by omega)) (mkS hts okL_low kw_396 kw_397 ⟨rfl, rfl, Nat.le_of_ble_eq_true rfl, Nat.le_of_ble_eq_true rfl⟩) (ps_ro hK hPc34) rfl rfl hl6.1 rfl (lv_room (Nat.le_of_ble_eq_true rfl)) dL_act_179 ⟨Nat.le_of_ble_eq_true rfl, Nat.le_of_ble_eq_true rfl⟩) hP33 hS33 (fun r_179 H35 locs35 hq_179 hP35 hS35 => ?_)
    clear hP33 hS33 hPc34
    have hD35 := hD33
    clear hD33
    have hq_179 : r_179 = nI (lowN (cellF xs L (k + 1)) 3) := hq_179
    subst hq_179
    have := la 3 (by omega)
    refine n_if_ne (tgt := 191) hx hb (by omega) dL_act_182 (by decide) (fun c_182 => ?_) (fun c_182 => ?_)
    · skip
      refine lv_bipush (v := nI 120) hx hb dL_act_191 (by decide) ?_
      have hPc37 : va_P D vwCl (fl []) _ := hP35.sub [] rfl
      refine cr_i (va_runS (As := [.int (cellF xs L (k + 2)), .int (nI 120)]) (rest := [.int (nI (lowN (cellF xs L (k + 1)) 12)), .ref xa]) ⟨hx, hb, hml, hown, hts⟩ (c_L_low l D T (cellF xs L (k + 2)) 120 (by omega) (by omega)) (mkS hts okL_low kw_396 kw_397 ⟨rfl, rfl, Nat.le_of_ble_eq_true rfl, Nat.le_of_ble_eq_true rfl⟩) (ps_ro hK hPc37) rfl rfl hl6.1 rfl (lv_room (Nat.le_of_ble_eq_true rfl)) dL_act_193 ⟨Nat.le_of_ble_eq_true rfl, Nat.le_of_ble_eq_true rfl⟩) hP35 hS35 (fun r_193 H38 locs38 hq_193 hP38 hS38 => ?_)
      clear hP35 hS35 hPc37
      have hD38 := hD35
      clear hD35
      have hq_193 : r_193 = nI (lowN (cellF xs L (k + 2)) 120) := hq_193
      subst hq_193
      have := la 12 (by omega)
      have := lb 120 (by omega)
      have hnt39 : (dirtP (nI (lowN (cellF xs L (k + 1)) 12)) (nI (lowN (cellF xs L (k + 2)) 120)) mm past kp).2.1 = nI 0 := nt_dirt (by omega) (by omega)
      obtain ⟨fs39, hfs39⟩ := XINV.recv hI
      have hPc39 : va_P D vwCl (fl [wb]) _ := flP_sub hP38 [0] rfl
      have hDc39 : va_D A (fl [wb]) := flD_sub hD38 [0] (by decide) rfl
      refine clx_i (br := []) (vx_runV (As := [.int (nI (lowN (cellF xs L (k + 1)) 12)), .int (nI (lowN (cellF xs L (k + 2)) 120))]) (rest := []) ⟨hx, hb, hml, hown, hts⟩ (d_X5_dirt l D T hl hI (by omega) (nI (lowN (cellF xs L (k + 1)) 12)) (nI (lowN (cellF xs L (k + 2)) 120)) _) (mkV hts okX5_dirt kw_447 kw_448 kw_449 ⟨rfl, rfl, (Nat.le_of_ble_eq_true rfl), (Nat.le_of_ble_eq_true rfl)⟩) (pv_x hK hST hS38 hPc39 hDc39 (vA_c (br := []) hP38 hD38 hS38 hA (isR := []) (isC := [0]) rfl (by decide)) hfs39 (q := (RX5, TX5, 5)) rfl rfl) rfl rfl hl6.1 rfl (lv_room (Nat.le_of_ble_eq_true rfl)) dL_act_196 ⟨(Nat.le_of_ble_eq_true rfl), (Nat.le_of_ble_eq_true rfl)⟩) hP38 hD38 hS38 hA [] [0] rfl (by decide) (fun E ce q9 _ux Hx lx hqx hPx hDx hSx h1 h2 h3 => absurd hqx (noX2 hnt39)) (fun r_39 w_39 H40 locs40 hq_39 hP40 hD40 hS40 => ?_)
      clear hP38 hD38 hS38 hPc39 hDc39 hfs39 hI
      obtain ⟨hr_39, -, hI⟩ := hq_39
      have hI : XN T xa w_39 (dirtP (nI (lowN (cellF xs L (k + 1)) 12)) (nI (lowN (cellF xs L (k + 2)) 120)) mm past kp).2.2.1 (dirtP (nI (lowN (cellF xs L (k + 1)) 12)) (nI (lowN (cellF xs L (k + 2)) 120)) mm past kp).2.2.2.1 (dirtP (nI (lowN (cellF xs L (k + 1)) 12)) (nI (lowN (cellF xs L (k + 2)) 120)) mm past kp).2.2.2.2 := XN.of hI
      have hP40 : va_P D vwCl (fl [w_39]) _ := hP40
      have hD40 : va_D A (fl [w_39]) := hD40
      refine retx_i hTG (Nat.le_of_ble_eq_true rfl) (Nat.le_of_ble_eq_true rfl) hx hb hr hlocks (w_39) hP40 hD40 hS40 [0] rfl (by decide) dL_act_199 ?_
      rw [← hj]
      have eA : actF 3 (cellF xs L (k + 1)) (cellF xs L (k + 2)) mm past kp = dirtP (nI (lowN (cellF xs L (k + 1)) 12)) (nI (lowN (cellF xs L (k + 2)) 120)) mm past kp := by rw [act_3, if_neg c_182]
      rw [eA]
      exact ⟨hr_39, hI⟩
    · skip
      refine lv_sipush (v := nI 1000) hx hb dL_act_185 (by decide) ?_
      refine lv_goto (tgt := 193) hx hb dL_act_188 (by decide) ?_
      have hPc41 : va_P D vwCl (fl []) _ := hP35.sub [] rfl
      refine cr_i (va_runS (As := [.int (cellF xs L (k + 2)), .int (nI 1000)]) (rest := [.int (nI (lowN (cellF xs L (k + 1)) 12)), .ref xa]) ⟨hx, hb, hml, hown, hts⟩ (c_L_low l D T (cellF xs L (k + 2)) 1000 (by omega) (by omega)) (mkS hts okL_low kw_396 kw_397 ⟨rfl, rfl, Nat.le_of_ble_eq_true rfl, Nat.le_of_ble_eq_true rfl⟩) (ps_ro hK hPc41) rfl rfl hl6.1 rfl (lv_room (Nat.le_of_ble_eq_true rfl)) dL_act_193 ⟨Nat.le_of_ble_eq_true rfl, Nat.le_of_ble_eq_true rfl⟩) hP35 hS35 (fun r_193 H42 locs42 hq_193 hP42 hS42 => ?_)
      clear hP35 hS35 hPc41
      have hD42 := hD35
      clear hD35
      have hq_193 : r_193 = nI (lowN (cellF xs L (k + 2)) 1000) := hq_193
      subst hq_193
      have := la 12 (by omega)
      have := lb 1000 (by omega)
      have hnt43 : (dirtP (nI (lowN (cellF xs L (k + 1)) 12)) (nI (lowN (cellF xs L (k + 2)) 1000)) mm past kp).2.1 = nI 0 := nt_dirt (by omega) (by omega)
      obtain ⟨fs43, hfs43⟩ := XINV.recv hI
      have hPc43 : va_P D vwCl (fl [wb]) _ := flP_sub hP42 [0] rfl
      have hDc43 : va_D A (fl [wb]) := flD_sub hD42 [0] (by decide) rfl
      refine clx_i (br := []) (vx_runV (As := [.int (nI (lowN (cellF xs L (k + 1)) 12)), .int (nI (lowN (cellF xs L (k + 2)) 1000))]) (rest := []) ⟨hx, hb, hml, hown, hts⟩ (d_X5_dirt l D T hl hI (by omega) (nI (lowN (cellF xs L (k + 1)) 12)) (nI (lowN (cellF xs L (k + 2)) 1000)) _) (mkV hts okX5_dirt kw_447 kw_448 kw_449 ⟨rfl, rfl, (Nat.le_of_ble_eq_true rfl), (Nat.le_of_ble_eq_true rfl)⟩) (pv_x hK hST hS42 hPc43 hDc43 (vA_c (br := []) hP42 hD42 hS42 hA (isR := []) (isC := [0]) rfl (by decide)) hfs43 (q := (RX5, TX5, 5)) rfl rfl) rfl rfl hl6.1 rfl (lv_room (Nat.le_of_ble_eq_true rfl)) dL_act_196 ⟨(Nat.le_of_ble_eq_true rfl), (Nat.le_of_ble_eq_true rfl)⟩) hP42 hD42 hS42 hA [] [0] rfl (by decide) (fun E ce q9 _ux Hx lx hqx hPx hDx hSx h1 h2 h3 => absurd hqx (noX2 hnt43)) (fun r_43 w_43 H44 locs44 hq_43 hP44 hD44 hS44 => ?_)
      clear hP42 hD42 hS42 hPc43 hDc43 hfs43 hI
      obtain ⟨hr_43, -, hI⟩ := hq_43
      have hI : XN T xa w_43 (dirtP (nI (lowN (cellF xs L (k + 1)) 12)) (nI (lowN (cellF xs L (k + 2)) 1000)) mm past kp).2.2.1 (dirtP (nI (lowN (cellF xs L (k + 1)) 12)) (nI (lowN (cellF xs L (k + 2)) 1000)) mm past kp).2.2.2.1 (dirtP (nI (lowN (cellF xs L (k + 1)) 12)) (nI (lowN (cellF xs L (k + 2)) 1000)) mm past kp).2.2.2.2 := XN.of hI
      have hP44 : va_P D vwCl (fl [w_43]) _ := hP44
      have hD44 : va_D A (fl [w_43]) := hD44
      refine retx_i hTG (Nat.le_of_ble_eq_true rfl) (Nat.le_of_ble_eq_true rfl) hx hb hr hlocks (w_43) hP44 hD44 hS44 [0] rfl (by decide) dL_act_199 ?_
      rw [← hj]
      have eA : actF 3 (cellF xs L (k + 1)) (cellF xs L (k + 2)) mm past kp = dirtP (nI (lowN (cellF xs L (k + 1)) 12)) (nI (lowN (cellF xs L (k + 2)) 1000)) mm past kp := by rw [act_3, if_pos c_182]
      rw [eA]
      exact ⟨hr_43, hI⟩
  · skip
    clear hj22
    refine lv_tableIn (tgt := 168) hx hb dL_act_27 (by decide) (by decide) rfl (by decide) ?_
    refine lv_aload_n hx hb dL_act_168 rfl (lv_at hl6 2 rfl) ?_
    refine lv_iload_n hx hb dL_act_169 rfl (lv_at hl6 1 rfl) ?_
    refine lv_bipush (v := nI 12) hx hb dL_act_170 (by decide) ?_
    have hPc45 : va_P D vwCl (fl []) _ := hP10.sub [] rfl
    refine cr_i (va_runS (As := [.int (cellF xs L (k + 1)), .int (nI 12)]) (rest := [.ref xa]) ⟨hx, hb, hml, hown, hts⟩ (c_L_low l D T (cellF xs L (k + 1)) 12 (by omega) (by omega)) (mkS hts okL_low kw_396 kw_397 ⟨rfl, rfl, Nat.le_of_ble_eq_true rfl, Nat.le_of_ble_eq_true rfl⟩) (ps_ro hK hPc45) rfl rfl hl6.1 rfl (lv_room (Nat.le_of_ble_eq_true rfl)) dL_act_172 ⟨Nat.le_of_ble_eq_true rfl, Nat.le_of_ble_eq_true rfl⟩) hP10 hS10 (fun r_172 H46 locs46 hq_172 hP46 hS46 => ?_)
    clear hP10 hS10 hPc45
    have hD46 := hD10
    clear hD10
    have hq_172 : r_172 = nI (lowN (cellF xs L (k + 1)) 12) := hq_172
    subst hq_172
    refine lv_iload hx hb dL_act_175 (lv_at hl6 0 rfl) ?_
    refine lv_iload_n hx hb dL_act_177 rfl (lv_at hl6 1 rfl) ?_
    refine lv_iconst (v := nI 3) hx hb dL_act_178 (by decide) ?_
    have hPc47 : va_P D vwCl (fl []) _ := hP46.sub [] rfl
    refine cr_i (va_runS (As := [.int (cellF xs L (k + 1)), .int (nI 3)]) (rest := [.int (cellF xs L (k + 2)), .int (nI (lowN (cellF xs L (k + 1)) 12)), .ref xa]) ⟨hx, hb, hml, hown, hts⟩ (c_L_low l D T (cellF xs L (k + 1)) 3 (by omega) (by omega)) (mkS hts okL_low kw_396 kw_397 ⟨rfl, rfl, Nat.le_of_ble_eq_true rfl, Nat.le_of_ble_eq_true rfl⟩) (ps_ro hK hPc47) rfl rfl hl6.1 rfl (lv_room (Nat.le_of_ble_eq_true rfl)) dL_act_179 ⟨Nat.le_of_ble_eq_true rfl, Nat.le_of_ble_eq_true rfl⟩) hP46 hS46 (fun r_179 H48 locs48 hq_179 hP48 hS48 => ?_)
    clear hP46 hS46 hPc47
    have hD48 := hD46
    clear hD46
    have hq_179 : r_179 = nI (lowN (cellF xs L (k + 1)) 3) := hq_179
    subst hq_179
    have := la 3 (by omega)
    refine n_if_ne (tgt := 191) hx hb (by omega) dL_act_182 (by decide) (fun c_182 => ?_) (fun c_182 => ?_)
    · skip
      refine lv_bipush (v := nI 120) hx hb dL_act_191 (by decide) ?_
      have hPc50 : va_P D vwCl (fl []) _ := hP48.sub [] rfl
      refine cr_i (va_runS (As := [.int (cellF xs L (k + 2)), .int (nI 120)]) (rest := [.int (nI (lowN (cellF xs L (k + 1)) 12)), .ref xa]) ⟨hx, hb, hml, hown, hts⟩ (c_L_low l D T (cellF xs L (k + 2)) 120 (by omega) (by omega)) (mkS hts okL_low kw_396 kw_397 ⟨rfl, rfl, Nat.le_of_ble_eq_true rfl, Nat.le_of_ble_eq_true rfl⟩) (ps_ro hK hPc50) rfl rfl hl6.1 rfl (lv_room (Nat.le_of_ble_eq_true rfl)) dL_act_193 ⟨Nat.le_of_ble_eq_true rfl, Nat.le_of_ble_eq_true rfl⟩) hP48 hS48 (fun r_193 H51 locs51 hq_193 hP51 hS51 => ?_)
      clear hP48 hS48 hPc50
      have hD51 := hD48
      clear hD48
      have hq_193 : r_193 = nI (lowN (cellF xs L (k + 2)) 120) := hq_193
      subst hq_193
      have := la 12 (by omega)
      have := lb 120 (by omega)
      have hnt52 : (dirtP (nI (lowN (cellF xs L (k + 1)) 12)) (nI (lowN (cellF xs L (k + 2)) 120)) mm past kp).2.1 = nI 0 := nt_dirt (by omega) (by omega)
      obtain ⟨fs52, hfs52⟩ := XINV.recv hI
      have hPc52 : va_P D vwCl (fl [wb]) _ := flP_sub hP51 [0] rfl
      have hDc52 : va_D A (fl [wb]) := flD_sub hD51 [0] (by decide) rfl
      refine clx_i (br := []) (vx_runV (As := [.int (nI (lowN (cellF xs L (k + 1)) 12)), .int (nI (lowN (cellF xs L (k + 2)) 120))]) (rest := []) ⟨hx, hb, hml, hown, hts⟩ (d_X5_dirt l D T hl hI (by omega) (nI (lowN (cellF xs L (k + 1)) 12)) (nI (lowN (cellF xs L (k + 2)) 120)) _) (mkV hts okX5_dirt kw_447 kw_448 kw_449 ⟨rfl, rfl, (Nat.le_of_ble_eq_true rfl), (Nat.le_of_ble_eq_true rfl)⟩) (pv_x hK hST hS51 hPc52 hDc52 (vA_c (br := []) hP51 hD51 hS51 hA (isR := []) (isC := [0]) rfl (by decide)) hfs52 (q := (RX5, TX5, 5)) rfl rfl) rfl rfl hl6.1 rfl (lv_room (Nat.le_of_ble_eq_true rfl)) dL_act_196 ⟨(Nat.le_of_ble_eq_true rfl), (Nat.le_of_ble_eq_true rfl)⟩) hP51 hD51 hS51 hA [] [0] rfl (by decide) (fun E ce q9 _ux Hx lx hqx hPx hDx hSx h1 h2 h3 => absurd hqx (noX2 hnt52)) (fun r_52 w_52 H53 locs53 hq_52 hP53 hD53 hS53 => ?_)
      clear hP51 hD51 hS51 hPc52 hDc52 hfs52 hI
      obtain ⟨hr_52, -, hI⟩ := hq_52
      have hI : XN T xa w_52 (dirtP (nI (lowN (cellF xs L (k + 1)) 12)) (nI (lowN (cellF xs L (k + 2)) 120)) mm past kp).2.2.1 (dirtP (nI (lowN (cellF xs L (k + 1)) 12)) (nI (lowN (cellF xs L (k + 2)) 120)) mm past kp).2.2.2.1 (dirtP (nI (lowN (cellF xs L (k + 1)) 12)) (nI (lowN (cellF xs L (k + 2)) 120)) mm past kp).2.2.2.2 := XN.of hI
      have hP53 : va_P D vwCl (fl [w_52]) _ := hP53
      have hD53 : va_D A (fl [w_52]) := hD53
      refine retx_i hTG (Nat.le_of_ble_eq_true rfl) (Nat.le_of_ble_eq_true rfl) hx hb hr hlocks (w_52) hP53 hD53 hS53 [0] rfl (by decide) dL_act_199 ?_
      rw [← hj]
      have eA : actF 4 (cellF xs L (k + 1)) (cellF xs L (k + 2)) mm past kp = dirtP (nI (lowN (cellF xs L (k + 1)) 12)) (nI (lowN (cellF xs L (k + 2)) 120)) mm past kp := by rw [act_4, if_neg c_182]
      rw [eA]
      exact ⟨hr_52, hI⟩
    · skip
      refine lv_sipush (v := nI 1000) hx hb dL_act_185 (by decide) ?_
      refine lv_goto (tgt := 193) hx hb dL_act_188 (by decide) ?_
      have hPc54 : va_P D vwCl (fl []) _ := hP48.sub [] rfl
      refine cr_i (va_runS (As := [.int (cellF xs L (k + 2)), .int (nI 1000)]) (rest := [.int (nI (lowN (cellF xs L (k + 1)) 12)), .ref xa]) ⟨hx, hb, hml, hown, hts⟩ (c_L_low l D T (cellF xs L (k + 2)) 1000 (by omega) (by omega)) (mkS hts okL_low kw_396 kw_397 ⟨rfl, rfl, Nat.le_of_ble_eq_true rfl, Nat.le_of_ble_eq_true rfl⟩) (ps_ro hK hPc54) rfl rfl hl6.1 rfl (lv_room (Nat.le_of_ble_eq_true rfl)) dL_act_193 ⟨Nat.le_of_ble_eq_true rfl, Nat.le_of_ble_eq_true rfl⟩) hP48 hS48 (fun r_193 H55 locs55 hq_193 hP55 hS55 => ?_)
      clear hP48 hS48 hPc54
      have hD55 := hD48
      clear hD48
      have hq_193 : r_193 = nI (lowN (cellF xs L (k + 2)) 1000) := hq_193
      subst hq_193
      have := la 12 (by omega)
      have := lb 1000 (by omega)
      have hnt56 : (dirtP (nI (lowN (cellF xs L (k + 1)) 12)) (nI (lowN (cellF xs L (k + 2)) 1000)) mm past kp).2.1 = nI 0 := nt_dirt (by omega) (by omega)
      obtain ⟨fs56, hfs56⟩ := XINV.recv hI
      have hPc56 : va_P D vwCl (fl [wb]) _ := flP_sub hP55 [0] rfl
      have hDc56 : va_D A (fl [wb]) := flD_sub hD55 [0] (by decide) rfl
      refine clx_i (br := []) (vx_runV (As := [.int (nI (lowN (cellF xs L (k + 1)) 12)), .int (nI (lowN (cellF xs L (k + 2)) 1000))]) (rest := []) ⟨hx, hb, hml, hown, hts⟩ (d_X5_dirt l D T hl hI (by omega) (nI (lowN (cellF xs L (k + 1)) 12)) (nI (lowN (cellF xs L (k + 2)) 1000)) _) (mkV hts okX5_dirt kw_447 kw_448 kw_449 ⟨rfl, rfl, (Nat.le_of_ble_eq_true rfl), (Nat.le_of_ble_eq_true rfl)⟩) (pv_x hK hST hS55 hPc56 hDc56 (vA_c (br := []) hP55 hD55 hS55 hA (isR := []) (isC := [0]) rfl (by decide)) hfs56 (q := (RX5, TX5, 5)) rfl rfl) rfl rfl hl6.1 rfl (lv_room (Nat.le_of_ble_eq_true rfl)) dL_act_196 ⟨(Nat.le_of_ble_eq_true rfl), (Nat.le_of_ble_eq_true rfl)⟩) hP55 hD55 hS55 hA [] [0] rfl (by decide) (fun E ce q9 _ux Hx lx hqx hPx hDx hSx h1 h2 h3 => absurd hqx (noX2 hnt56)) (fun r_56 w_56 H57 locs57 hq_56 hP57 hD57 hS57 => ?_)
      clear hP55 hD55 hS55 hPc56 hDc56 hfs56 hI
      obtain ⟨hr_56, -, hI⟩ := hq_56
      have hI : XN T xa w_56 (dirtP (nI (lowN (cellF xs L (k + 1)) 12)) (nI (lowN (cellF xs L (k + 2)) 1000)) mm past kp).2.2.1 (dirtP (nI (lowN (cellF xs L (k + 1)) 12)) (nI (lowN (cellF xs L (k + 2)) 1000)) mm past kp).2.2.2.1 (dirtP (nI (lowN (cellF xs L (k + 1)) 12)) (nI (lowN (cellF xs L (k + 2)) 1000)) mm past kp).2.2.2.2 := XN.of hI
      have hP57 : va_P D vwCl (fl [w_56]) _ := hP57
      have hD57 : va_D A (fl [w_56]) := hD57
      refine retx_i hTG (Nat.le_of_ble_eq_true rfl) (Nat.le_of_ble_eq_true rfl) hx hb hr hlocks (w_56) hP57 hD57 hS57 [0] rfl (by decide) dL_act_199 ?_
      rw [← hj]
      have eA : actF 4 (cellF xs L (k + 1)) (cellF xs L (k + 2)) mm past kp = dirtP (nI (lowN (cellF xs L (k + 1)) 12)) (nI (lowN (cellF xs L (k + 2)) 1000)) mm past kp := by rw [act_4, if_pos c_182]
      rw [eA]
      exact ⟨hr_56, hI⟩
  · skip
    clear hj22
    refine lv_tableIn (tgt := 168) hx hb dL_act_27 (by decide) (by decide) rfl (by decide) ?_
    refine lv_aload_n hx hb dL_act_168 rfl (lv_at hl6 2 rfl) ?_
    refine lv_iload_n hx hb dL_act_169 rfl (lv_at hl6 1 rfl) ?_
    refine lv_bipush (v := nI 12) hx hb dL_act_170 (by decide) ?_
    have hPc58 : va_P D vwCl (fl []) _ := hP10.sub [] rfl
    refine cr_i (va_runS (As := [.int (cellF xs L (k + 1)), .int (nI 12)]) (rest := [.ref xa]) ⟨hx, hb, hml, hown, hts⟩ (c_L_low l D T (cellF xs L (k + 1)) 12 (by omega) (by omega)) (mkS hts okL_low kw_396 kw_397 ⟨rfl, rfl, Nat.le_of_ble_eq_true rfl, Nat.le_of_ble_eq_true rfl⟩) (ps_ro hK hPc58) rfl rfl hl6.1 rfl (lv_room (Nat.le_of_ble_eq_true rfl)) dL_act_172 ⟨Nat.le_of_ble_eq_true rfl, Nat.le_of_ble_eq_true rfl⟩) hP10 hS10 (fun r_172 H59 locs59 hq_172 hP59 hS59 => ?_)
    clear hP10 hS10 hPc58
    have hD59 := hD10
    clear hD10
    have hq_172 : r_172 = nI (lowN (cellF xs L (k + 1)) 12) := hq_172
    subst hq_172
    refine lv_iload hx hb dL_act_175 (lv_at hl6 0 rfl) ?_
    refine lv_iload_n hx hb dL_act_177 rfl (lv_at hl6 1 rfl) ?_
    refine lv_iconst (v := nI 3) hx hb dL_act_178 (by decide) ?_
    have hPc60 : va_P D vwCl (fl []) _ := hP59.sub [] rfl
    refine cr_i (va_runS (As := [.int (cellF xs L (k + 1)), .int (nI 3)]) (rest := [.int (cellF xs L (k + 2)), .int (nI (lowN (cellF xs L (k + 1)) 12)), .ref xa]) ⟨hx, hb, hml, hown, hts⟩ (c_L_low l D T (cellF xs L (k + 1)) 3 (by omega) (by omega)) (mkS hts okL_low kw_396 kw_397 ⟨rfl, rfl, Nat.le_of_ble_eq_true rfl, Nat.le_of_ble_eq_true rfl⟩) (ps_ro hK hPc60) rfl rfl hl6.1 rfl (lv_room (Nat.le_of_ble_eq_true rfl)) dL_act_179 ⟨Nat.le_of_ble_eq_true rfl, Nat.le_of_ble_eq_true rfl⟩) hP59 hS59 (fun r_179 H61 locs61 hq_179 hP61 hS61 => ?_)
    clear hP59 hS59 hPc60
    have hD61 := hD59
    clear hD59
    have hq_179 : r_179 = nI (lowN (cellF xs L (k + 1)) 3) := hq_179
    subst hq_179
    have := la 3 (by omega)
    refine n_if_ne (tgt := 191) hx hb (by omega) dL_act_182 (by decide) (fun c_182 => ?_) (fun c_182 => ?_)
    · skip
      refine lv_bipush (v := nI 120) hx hb dL_act_191 (by decide) ?_
      have hPc63 : va_P D vwCl (fl []) _ := hP61.sub [] rfl
      refine cr_i (va_runS (As := [.int (cellF xs L (k + 2)), .int (nI 120)]) (rest := [.int (nI (lowN (cellF xs L (k + 1)) 12)), .ref xa]) ⟨hx, hb, hml, hown, hts⟩ (c_L_low l D T (cellF xs L (k + 2)) 120 (by omega) (by omega)) (mkS hts okL_low kw_396 kw_397 ⟨rfl, rfl, Nat.le_of_ble_eq_true rfl, Nat.le_of_ble_eq_true rfl⟩) (ps_ro hK hPc63) rfl rfl hl6.1 rfl (lv_room (Nat.le_of_ble_eq_true rfl)) dL_act_193 ⟨Nat.le_of_ble_eq_true rfl, Nat.le_of_ble_eq_true rfl⟩) hP61 hS61 (fun r_193 H64 locs64 hq_193 hP64 hS64 => ?_)
      clear hP61 hS61 hPc63
      have hD64 := hD61
      clear hD61
      have hq_193 : r_193 = nI (lowN (cellF xs L (k + 2)) 120) := hq_193
      subst hq_193
      have := la 12 (by omega)
      have := lb 120 (by omega)
      have hnt65 : (dirtP (nI (lowN (cellF xs L (k + 1)) 12)) (nI (lowN (cellF xs L (k + 2)) 120)) mm past kp).2.1 = nI 0 := nt_dirt (by omega) (by omega)
      obtain ⟨fs65, hfs65⟩ := XINV.recv hI
      have hPc65 : va_P D vwCl (fl [wb]) _ := flP_sub hP64 [0] rfl
      have hDc65 : va_D A (fl [wb]) := flD_sub hD64 [0] (by decide) rfl
      refine clx_i (br := []) (vx_runV (As := [.int (nI (lowN (cellF xs L (k + 1)) 12)), .int (nI (lowN (cellF xs L (k + 2)) 120))]) (rest := []) ⟨hx, hb, hml, hown, hts⟩ (d_X5_dirt l D T hl hI (by omega) (nI (lowN (cellF xs L (k + 1)) 12)) (nI (lowN (cellF xs L (k + 2)) 120)) _) (mkV hts okX5_dirt kw_447 kw_448 kw_449 ⟨rfl, rfl, (Nat.le_of_ble_eq_true rfl), (Nat.le_of_ble_eq_true rfl)⟩) (pv_x hK hST hS64 hPc65 hDc65 (vA_c (br := []) hP64 hD64 hS64 hA (isR := []) (isC := [0]) rfl (by decide)) hfs65 (q := (RX5, TX5, 5)) rfl rfl) rfl rfl hl6.1 rfl (lv_room (Nat.le_of_ble_eq_true rfl)) dL_act_196 ⟨(Nat.le_of_ble_eq_true rfl), (Nat.le_of_ble_eq_true rfl)⟩) hP64 hD64 hS64 hA [] [0] rfl (by decide) (fun E ce q9 _ux Hx lx hqx hPx hDx hSx h1 h2 h3 => absurd hqx (noX2 hnt65)) (fun r_65 w_65 H66 locs66 hq_65 hP66 hD66 hS66 => ?_)
      clear hP64 hD64 hS64 hPc65 hDc65 hfs65 hI
      obtain ⟨hr_65, -, hI⟩ := hq_65
      have hI : XN T xa w_65 (dirtP (nI (lowN (cellF xs L (k + 1)) 12)) (nI (lowN (cellF xs L (k + 2)) 120)) mm past kp).2.2.1 (dirtP (nI (lowN (cellF xs L (k + 1)) 12)) (nI (lowN (cellF xs L (k + 2)) 120)) mm past kp).2.2.2.1 (dirtP (nI (lowN (cellF xs L (k + 1)) 12)) (nI (lowN (cellF xs L (k + 2)) 120)) mm past kp).2.2.2.2 := XN.of hI
      have hP66 : va_P D vwCl (fl [w_65]) _ := hP66
      have hD66 : va_D A (fl [w_65]) := hD66
      refine retx_i hTG (Nat.le_of_ble_eq_true rfl) (Nat.le_of_ble_eq_true rfl) hx hb hr hlocks (w_65) hP66 hD66 hS66 [0] rfl (by decide) dL_act_199 ?_
      rw [← hj]
      have eA : actF 5 (cellF xs L (k + 1)) (cellF xs L (k + 2)) mm past kp = dirtP (nI (lowN (cellF xs L (k + 1)) 12)) (nI (lowN (cellF xs L (k + 2)) 120)) mm past kp := by rw [act_5, if_neg c_182]
      rw [eA]
      exact ⟨hr_65, hI⟩
    · skip
      refine lv_sipush (v := nI 1000) hx hb dL_act_185 (by decide) ?_
      refine lv_goto (tgt := 193) hx hb dL_act_188 (by decide) ?_
      have hPc67 : va_P D vwCl (fl []) _ := hP61.sub [] rfl
      refine cr_i (va_runS (As := [.int (cellF xs L (k + 2)), .int (nI 1000)]) (rest := [.int (nI (lowN (cellF xs L (k + 1)) 12)), .ref xa]) ⟨hx, hb, hml, hown, hts⟩ (c_L_low l D T (cellF xs L (k + 2)) 1000 (by omega) (by omega)) (mkS hts okL_low kw_396 kw_397 ⟨rfl, rfl, Nat.le_of_ble_eq_true rfl, Nat.le_of_ble_eq_true rfl⟩) (ps_ro hK hPc67) rfl rfl hl6.1 rfl (lv_room (Nat.le_of_ble_eq_true rfl)) dL_act_193 ⟨Nat.le_of_ble_eq_true rfl, Nat.le_of_ble_eq_true rfl⟩) hP61 hS61 (fun r_193 H68 locs68 hq_193 hP68 hS68 => ?_)
      clear hP61 hS61 hPc67
      have hD68 := hD61
      clear hD61
      have hq_193 : r_193 = nI (lowN (cellF xs L (k + 2)) 1000) := hq_193
      subst hq_193
      have := la 12 (by omega)
      have := lb 1000 (by omega)
      have hnt69 : (dirtP (nI (lowN (cellF xs L (k + 1)) 12)) (nI (lowN (cellF xs L (k + 2)) 1000)) mm past kp).2.1 = nI 0 := nt_dirt (by omega) (by omega)
      obtain ⟨fs69, hfs69⟩ := XINV.recv hI
      have hPc69 : va_P D vwCl (fl [wb]) _ := flP_sub hP68 [0] rfl
      have hDc69 : va_D A (fl [wb]) := flD_sub hD68 [0] (by decide) rfl
      refine clx_i (br := []) (vx_runV (As := [.int (nI (lowN (cellF xs L (k + 1)) 12)), .int (nI (lowN (cellF xs L (k + 2)) 1000))]) (rest := []) ⟨hx, hb, hml, hown, hts⟩ (d_X5_dirt l D T hl hI (by omega) (nI (lowN (cellF xs L (k + 1)) 12)) (nI (lowN (cellF xs L (k + 2)) 1000)) _) (mkV hts okX5_dirt kw_447 kw_448 kw_449 ⟨rfl, rfl, (Nat.le_of_ble_eq_true rfl), (Nat.le_of_ble_eq_true rfl)⟩) (pv_x hK hST hS68 hPc69 hDc69 (vA_c (br := []) hP68 hD68 hS68 hA (isR := []) (isC := [0]) rfl (by decide)) hfs69 (q := (RX5, TX5, 5)) rfl rfl) rfl rfl hl6.1 rfl (lv_room (Nat.le_of_ble_eq_true rfl)) dL_act_196 ⟨(Nat.le_of_ble_eq_true rfl), (Nat.le_of_ble_eq_true rfl)⟩) hP68 hD68 hS68 hA [] [0] rfl (by decide) (fun E ce q9 _ux Hx lx hqx hPx hDx hSx h1 h2 h3 => absurd hqx (noX2 hnt69)) (fun r_69 w_69 H70 locs70 hq_69 hP70 hD70 hS70 => ?_)
      clear hP68 hD68 hS68 hPc69 hDc69 hfs69 hI
      obtain ⟨hr_69, -, hI⟩ := hq_69
      have hI : XN T xa w_69 (dirtP (nI (lowN (cellF xs L (k + 1)) 12)) (nI (lowN (cellF xs L (k + 2)) 1000)) mm past kp).2.2.1 (dirtP (nI (lowN (cellF xs L (k + 1)) 12)) (nI (lowN (cellF xs L (k + 2)) 1000)) mm past kp).2.2.2.1 (dirtP (nI (lowN (cellF xs L (k + 1)) 12)) (nI (lowN (cellF xs L (k + 2)) 1000)) mm past kp).2.2.2.2 := XN.of hI
      have hP70 : va_P D vwCl (fl [w_69]) _ := hP70
      have hD70 : va_D A (fl [w_69]) := hD70
      refine retx_i hTG (Nat.le_of_ble_eq_true rfl) (Nat.le_of_ble_eq_true rfl) hx hb hr hlocks (w_69) hP70 hD70 hS70 [0] rfl (by decide) dL_act_199 ?_
      rw [← hj]
      have eA : actF 5 (cellF xs L (k + 1)) (cellF xs L (k + 2)) mm past kp = dirtP (nI (lowN (cellF xs L (k + 1)) 12)) (nI (lowN (cellF xs L (k + 2)) 1000)) mm past kp := by rw [act_5, if_pos c_182]
      rw [eA]
      exact ⟨hr_69, hI⟩
  · skip
    clear hj22
    refine lv_tableIn (tgt := 200) hx hb dL_act_27 (by decide) (by decide) rfl (by decide) ?_
    refine lv_aload_n hx hb dL_act_200 rfl (lv_at hl6 2 rfl) ?_
    refine lv_iload_n hx hb dL_act_201 rfl (lv_at hl6 1 rfl) ?_
    refine lv_bipush (v := nI 12) hx hb dL_act_202 (by decide) ?_
    have hPc71 : va_P D vwCl (fl []) _ := hP10.sub [] rfl
    refine cr_i (va_runS (As := [.int (cellF xs L (k + 1)), .int (nI 12)]) (rest := [.ref xa]) ⟨hx, hb, hml, hown, hts⟩ (c_L_low l D T (cellF xs L (k + 1)) 12 (by omega) (by omega)) (mkS hts okL_low kw_396 kw_397 ⟨rfl, rfl, Nat.le_of_ble_eq_true rfl, Nat.le_of_ble_eq_true rfl⟩) (ps_ro hK hPc71) rfl rfl hl6.1 rfl (lv_room (Nat.le_of_ble_eq_true rfl)) dL_act_204 ⟨Nat.le_of_ble_eq_true rfl, Nat.le_of_ble_eq_true rfl⟩) hP10 hS10 (fun r_204 H72 locs72 hq_204 hP72 hS72 => ?_)
    clear hP10 hS10 hPc71
    have hD72 := hD10
    clear hD10
    have hq_204 : r_204 = nI (lowN (cellF xs L (k + 1)) 12) := hq_204
    subst hq_204
    refine lv_iconst (v := nI 1) hx hb dL_act_207 (by decide) ?_
    refine lv_iload hx hb dL_act_208 (lv_at hl6 0 rfl) ?_
    refine lv_bipush (v := nI 30) hx hb dL_act_210 (by decide) ?_
    have hPc73 : va_P D vwCl (fl []) _ := hP72.sub [] rfl
    refine cr_i (va_runS (As := [.int (cellF xs L (k + 2)), .int (nI 30)]) (rest := [.int (nI 1), .int (nI (lowN (cellF xs L (k + 1)) 12)), .ref xa]) ⟨hx, hb, hml, hown, hts⟩ (c_L_low l D T (cellF xs L (k + 2)) 30 (by omega) (by omega)) (mkS hts okL_low kw_396 kw_397 ⟨rfl, rfl, Nat.le_of_ble_eq_true rfl, Nat.le_of_ble_eq_true rfl⟩) (ps_ro hK hPc73) rfl rfl hl6.1 rfl (lv_room (Nat.le_of_ble_eq_true rfl)) dL_act_212 ⟨Nat.le_of_ble_eq_true rfl, Nat.le_of_ble_eq_true rfl⟩) hP72 hS72 (fun r_212 H74 locs74 hq_212 hP74 hS74 => ?_)
    clear hP72 hS72 hPc73
    have hD74 := hD72
    clear hD72
    have hq_212 : r_212 = nI (lowN (cellF xs L (k + 2)) 30) := hq_212
    subst hq_212
    refine lv_iadd hx hb dL_act_215 ?_
    refine tp_i (y := nI (1 + (lowN (cellF xs L (k + 2)) 30))) (nI_add _ _) ?_
    have := la 12 (by omega)
    have := lb 30 (by omega)
    have hnt75 : (hydrantP (nI (lowN (cellF xs L (k + 1)) 12)) (nI (1 + (lowN (cellF xs L (k + 2)) 30))) mm past kp).2.1 = nI 0 := nt_hydrant (by omega) (by omega) (by omega)
    obtain ⟨fs75, hfs75⟩ := XINV.recv hI
    have hPc75 : va_P D vwCl (fl [wb]) _ := flP_sub hP74 [0] rfl
    have hDc75 : va_D A (fl [wb]) := flD_sub hD74 [0] (by decide) rfl
    refine clx_i (br := []) (vx_runV (As := [.int (nI (lowN (cellF xs L (k + 1)) 12)), .int (nI (1 + (lowN (cellF xs L (k + 2)) 30)))]) (rest := []) ⟨hx, hb, hml, hown, hts⟩ (d_X5_hydrant l D T hl hI (by omega) (nI (lowN (cellF xs L (k + 1)) 12)) (nI (1 + (lowN (cellF xs L (k + 2)) 30))) _) (mkV hts okX5_hydrant kw_451 kw_452 kw_453 ⟨rfl, rfl, (Nat.le_of_ble_eq_true rfl), (Nat.le_of_ble_eq_true rfl)⟩) (pv_x hK hST hS74 hPc75 hDc75 (vA_c (br := []) hP74 hD74 hS74 hA (isR := []) (isC := [0]) rfl (by decide)) hfs75 (q := (RX5, TX5, 5)) rfl rfl) rfl rfl hl6.1 rfl (lv_room (Nat.le_of_ble_eq_true rfl)) dL_act_216 ⟨(Nat.le_of_ble_eq_true rfl), (Nat.le_of_ble_eq_true rfl)⟩) hP74 hD74 hS74 hA [] [0] rfl (by decide) (fun E ce q9 _ux Hx lx hqx hPx hDx hSx h1 h2 h3 => absurd hqx (noX2 hnt75)) (fun r_75 w_75 H76 locs76 hq_75 hP76 hD76 hS76 => ?_)
    clear hP74 hD74 hS74 hPc75 hDc75 hfs75 hI
    obtain ⟨hr_75, -, hI⟩ := hq_75
    have hI : XN T xa w_75 (hydrantP (nI (lowN (cellF xs L (k + 1)) 12)) (nI (1 + (lowN (cellF xs L (k + 2)) 30))) mm past kp).2.2.1 (hydrantP (nI (lowN (cellF xs L (k + 1)) 12)) (nI (1 + (lowN (cellF xs L (k + 2)) 30))) mm past kp).2.2.2.1 (hydrantP (nI (lowN (cellF xs L (k + 1)) 12)) (nI (1 + (lowN (cellF xs L (k + 2)) 30))) mm past kp).2.2.2.2 := XN.of hI
    have hP76 : va_P D vwCl (fl [w_75]) _ := hP76
    have hD76 : va_D A (fl [w_75]) := hD76
    refine retx_i hTG (Nat.le_of_ble_eq_true rfl) (Nat.le_of_ble_eq_true rfl) hx hb hr hlocks (w_75) hP76 hD76 hS76 [0] rfl (by decide) dL_act_219 ?_
    rw [← hj]
    have eA : actF 6 (cellF xs L (k + 1)) (cellF xs L (k + 2)) mm past kp = hydrantP (nI (lowN (cellF xs L (k + 1)) 12)) (nI (1 + (lowN (cellF xs L (k + 2)) 30))) mm past kp := act_6 _ _ _ _ _
    rw [eA]
    exact ⟨hr_75, hI⟩
  · skip
    clear hj22
    refine lv_tableIn (tgt := 220) hx hb dL_act_27 (by decide) (by decide) rfl (by decide) ?_
    refine lv_aload_n hx hb dL_act_220 rfl (lv_at hl6 2 rfl) ?_
    refine lv_iload_n hx hb dL_act_221 rfl (lv_at hl6 1 rfl) ?_
    refine lv_iconst (v := nI 3) hx hb dL_act_222 (by decide) ?_
    have hPc77 : va_P D vwCl (fl []) _ := hP10.sub [] rfl
    refine cr_i (va_runS (As := [.int (cellF xs L (k + 1)), .int (nI 3)]) (rest := [.ref xa]) ⟨hx, hb, hml, hown, hts⟩ (c_L_low l D T (cellF xs L (k + 1)) 3 (by omega) (by omega)) (mkS hts okL_low kw_396 kw_397 ⟨rfl, rfl, Nat.le_of_ble_eq_true rfl, Nat.le_of_ble_eq_true rfl⟩) (ps_ro hK hPc77) rfl rfl hl6.1 rfl (lv_room (Nat.le_of_ble_eq_true rfl)) dL_act_223 ⟨Nat.le_of_ble_eq_true rfl, Nat.le_of_ble_eq_true rfl⟩) hP10 hS10 (fun r_223 H78 locs78 hq_223 hP78 hS78 => ?_)
    clear hP10 hS10 hPc77
    have hD78 := hD10
    clear hD10
    have hq_223 : r_223 = nI (lowN (cellF xs L (k + 1)) 3) := hq_223
    subst hq_223
    refine lv_iload hx hb dL_act_226 (lv_at hl6 0 rfl) ?_
    refine lv_bipush (v := nI 12) hx hb dL_act_228 (by decide) ?_
    have hPc79 : va_P D vwCl (fl []) _ := hP78.sub [] rfl
    refine cr_i (va_runS (As := [.int (cellF xs L (k + 2)), .int (nI 12)]) (rest := [.int (nI (lowN (cellF xs L (k + 1)) 3)), .ref xa]) ⟨hx, hb, hml, hown, hts⟩ (c_L_low l D T (cellF xs L (k + 2)) 12 (by omega) (by omega)) (mkS hts okL_low kw_396 kw_397 ⟨rfl, rfl, Nat.le_of_ble_eq_true rfl, Nat.le_of_ble_eq_true rfl⟩) (ps_ro hK hPc79) rfl rfl hl6.1 rfl (lv_room (Nat.le_of_ble_eq_true rfl)) dL_act_230 ⟨Nat.le_of_ble_eq_true rfl, Nat.le_of_ble_eq_true rfl⟩) hP78 hS78 (fun r_230 H80 locs80 hq_230 hP80 hS80 => ?_)
    clear hP78 hS78 hPc79
    have hD80 := hD78
    clear hD78
    have hq_230 : r_230 = nI (lowN (cellF xs L (k + 2)) 12) := hq_230
    subst hq_230
    have := la 3 (by omega)
    have := lb 12 (by omega)
    have hPc81 : va_P D vwCl (fl [wb]) _ := flP_sub hP80 [0] rfl
    have hDc81 : va_D A (fl [wb]) := flD_sub hD80 [0] (by decide) rfl
    refine clx_i (br := []) (vx_runSX (As := [.ref xa, .int (nI (lowN (cellF xs L (k + 1)) 3)), .int (nI (lowN (cellF xs L (k + 2)) 12))]) (rest := []) ⟨hx, hb, hml, hown, hts⟩ (c_L_send l D T hl hI (lowN (cellF xs L (k + 1)) 3) (lowN (cellF xs L (k + 2)) 12) (by omega) (by omega) _) (mkSW (n := 3) hts kcw_send kw_0 kw_455 kw_456 ⟨by decide, by decide⟩ (by decide +kernel) ⟨rfl, rfl, (Nat.le_of_ble_eq_true rfl), (Nat.le_of_ble_eq_true rfl)⟩) (ps_x hK hST hS80 hPc81 hDc81 (vA_c (br := []) hP80 hD80 hS80 hA (isR := []) (isC := [0]) rfl (by decide))) rfl rfl hl6.1 rfl (lv_room (Nat.le_of_ble_eq_true rfl)) dL_act_233 ⟨(Nat.le_of_ble_eq_true rfl), (Nat.le_of_ble_eq_true rfl)⟩) hP80 hD80 hS80 hA [] [0] rfl (by decide) (fun E ce q9 _ux Hx lx hqx hPx hDx hSx h1 h2 h3 => absurd hqx (by simp)) (fun r_81 w_81 H82 locs82 hq_81 hP82 hD82 hS82 => ?_)
    clear hP80 hD80 hS80 hPc81 hDc81 hI
    obtain ⟨hr_81, hI⟩ := hq_81
    have hr_81 : r_81 = (if (sendP (nI (lowN (cellF xs L (k + 1)) 3)) (nI (lowN (cellF xs L (k + 2)) 12)) mm past kp).2.1 = nI 0 then (sendP (nI (lowN (cellF xs L (k + 1)) 3)) (nI (lowN (cellF xs L (k + 2)) 12)) mm past kp).1 else -3) := hr_81
    have hI : XN T xa w_81 (sendP (nI (lowN (cellF xs L (k + 1)) 3)) (nI (lowN (cellF xs L (k + 2)) 12)) mm past kp).2.2.1 (sendP (nI (lowN (cellF xs L (k + 1)) 3)) (nI (lowN (cellF xs L (k + 2)) 12)) mm past kp).2.2.2.1 (sendP (nI (lowN (cellF xs L (k + 1)) 3)) (nI (lowN (cellF xs L (k + 2)) 12)) mm past kp).2.2.2.2 := hI
    have hP82 : va_P D vwCl (fl [w_81]) _ := hP82
    have hD82 : va_D A (fl [w_81]) := hD82
    refine lv_bipush (v := (-3)) hx hb dL_act_236 (by decide) ?_
    have hs9 := snd_cases (past := past) (kp := kp) hS (z := lowN (cellF xs L (k + 1)) 3) (p := lowN (cellF xs L (k + 2)) 12) (by omega) (by omega)
    rw [← hr_81] at hs9
    refine lv_icmp_ne (tgt := 246) hx hb dL_act_238 (by decide) (fun c_238 => ?_) (fun c_238 => ?_)
    · skip
      refine lv_iconst (v := nI 0) hx hb dL_act_246 (by decide) ?_
      refine retx_i hTG (Nat.le_of_ble_eq_true rfl) (Nat.le_of_ble_eq_true rfl) hx hb hr hlocks (w_81) hP82 hD82 hS82 [0] rfl (by decide) dL_act_247 ?_
      rw [← hj]
      have eA : actF 7 (cellF xs L (k + 1)) (cellF xs L (k + 2)) mm past kp = sndF (sendP (nI (lowN (cellF xs L (k + 1)) 3)) (nI (lowN (cellF xs L (k + 2)) 12)) mm past kp) := act_7 _ _ _ _ _
      rw [eA]
      refine ⟨?_, hI⟩
      show _ = (if (sendP (nI (lowN (cellF xs L (k + 1)) 3)) (nI (lowN (cellF xs L (k + 2)) 12)) mm past kp).2.1 = nI 0 then nI 0 else -30)
      rw [if_pos (Decidable.byContradiction (fun q => c_238 (hs9.mpr q)))]
    · skip
      refine lv_bipush (v := (-30)) hx hb dL_act_241 (by decide) ?_
      refine lv_goto (tgt := 247) hx hb dL_act_243 (by decide) ?_
      refine retx_i hTG (Nat.le_of_ble_eq_true rfl) (Nat.le_of_ble_eq_true rfl) hx hb hr hlocks (w_81) hP82 hD82 hS82 [0] rfl (by decide) dL_act_247 ?_
      rw [← hj]
      have eA : actF 7 (cellF xs L (k + 1)) (cellF xs L (k + 2)) mm past kp = sndF (sendP (nI (lowN (cellF xs L (k + 1)) 3)) (nI (lowN (cellF xs L (k + 2)) 12)) mm past kp) := act_7 _ _ _ _ _
      rw [eA]
      refine ⟨?_, hI⟩
      show _ = (if (sendP (nI (lowN (cellF xs L (k + 1)) 3)) (nI (lowN (cellF xs L (k + 2)) 12)) mm past kp).2.1 = nI 0 then nI 0 else -30)
      rw [if_neg (hs9.mp c_238)]
  · skip
    clear hj22
    refine lv_tableIn (tgt := 220) hx hb dL_act_27 (by decide) (by decide) rfl (by decide) ?_
    refine lv_aload_n hx hb dL_act_220 rfl (lv_at hl6 2 rfl) ?_
    refine lv_iload_n hx hb dL_act_221 rfl (lv_at hl6 1 rfl) ?_
    refine lv_iconst (v := nI 3) hx hb dL_act_222 (by decide) ?_
    have hPc84 : va_P D vwCl (fl []) _ := hP10.sub [] rfl
    refine cr_i (va_runS (As := [.int (cellF xs L (k + 1)), .int (nI 3)]) (rest := [.ref xa]) ⟨hx, hb, hml, hown, hts⟩ (c_L_low l D T (cellF xs L (k + 1)) 3 (by omega) (by omega)) (mkS hts okL_low kw_396 kw_397 ⟨rfl, rfl, Nat.le_of_ble_eq_true rfl, Nat.le_of_ble_eq_true rfl⟩) (ps_ro hK hPc84) rfl rfl hl6.1 rfl (lv_room (Nat.le_of_ble_eq_true rfl)) dL_act_223 ⟨Nat.le_of_ble_eq_true rfl, Nat.le_of_ble_eq_true rfl⟩) hP10 hS10 (fun r_223 H85 locs85 hq_223 hP85 hS85 => ?_)
    clear hP10 hS10 hPc84
    have hD85 := hD10
    clear hD10
    have hq_223 : r_223 = nI (lowN (cellF xs L (k + 1)) 3) := hq_223
    subst hq_223
    refine lv_iload hx hb dL_act_226 (lv_at hl6 0 rfl) ?_
    refine lv_bipush (v := nI 12) hx hb dL_act_228 (by decide) ?_
    have hPc86 : va_P D vwCl (fl []) _ := hP85.sub [] rfl
    refine cr_i (va_runS (As := [.int (cellF xs L (k + 2)), .int (nI 12)]) (rest := [.int (nI (lowN (cellF xs L (k + 1)) 3)), .ref xa]) ⟨hx, hb, hml, hown, hts⟩ (c_L_low l D T (cellF xs L (k + 2)) 12 (by omega) (by omega)) (mkS hts okL_low kw_396 kw_397 ⟨rfl, rfl, Nat.le_of_ble_eq_true rfl, Nat.le_of_ble_eq_true rfl⟩) (ps_ro hK hPc86) rfl rfl hl6.1 rfl (lv_room (Nat.le_of_ble_eq_true rfl)) dL_act_230 ⟨Nat.le_of_ble_eq_true rfl, Nat.le_of_ble_eq_true rfl⟩) hP85 hS85 (fun r_230 H87 locs87 hq_230 hP87 hS87 => ?_)
    clear hP85 hS85 hPc86
    have hD87 := hD85
    clear hD85
    have hq_230 : r_230 = nI (lowN (cellF xs L (k + 2)) 12) := hq_230
    subst hq_230
    have := la 3 (by omega)
    have := lb 12 (by omega)
    have hPc88 : va_P D vwCl (fl [wb]) _ := flP_sub hP87 [0] rfl
    have hDc88 : va_D A (fl [wb]) := flD_sub hD87 [0] (by decide) rfl
    refine clx_i (br := []) (vx_runSX (As := [.ref xa, .int (nI (lowN (cellF xs L (k + 1)) 3)), .int (nI (lowN (cellF xs L (k + 2)) 12))]) (rest := []) ⟨hx, hb, hml, hown, hts⟩ (c_L_send l D T hl hI (lowN (cellF xs L (k + 1)) 3) (lowN (cellF xs L (k + 2)) 12) (by omega) (by omega) _) (mkSW (n := 3) hts kcw_send kw_0 kw_455 kw_456 ⟨by decide, by decide⟩ (by decide +kernel) ⟨rfl, rfl, (Nat.le_of_ble_eq_true rfl), (Nat.le_of_ble_eq_true rfl)⟩) (ps_x hK hST hS87 hPc88 hDc88 (vA_c (br := []) hP87 hD87 hS87 hA (isR := []) (isC := [0]) rfl (by decide))) rfl rfl hl6.1 rfl (lv_room (Nat.le_of_ble_eq_true rfl)) dL_act_233 ⟨(Nat.le_of_ble_eq_true rfl), (Nat.le_of_ble_eq_true rfl)⟩) hP87 hD87 hS87 hA [] [0] rfl (by decide) (fun E ce q9 _ux Hx lx hqx hPx hDx hSx h1 h2 h3 => absurd hqx (by simp)) (fun r_88 w_88 H89 locs89 hq_88 hP89 hD89 hS89 => ?_)
    clear hP87 hD87 hS87 hPc88 hDc88 hI
    obtain ⟨hr_88, hI⟩ := hq_88
    have hr_88 : r_88 = (if (sendP (nI (lowN (cellF xs L (k + 1)) 3)) (nI (lowN (cellF xs L (k + 2)) 12)) mm past kp).2.1 = nI 0 then (sendP (nI (lowN (cellF xs L (k + 1)) 3)) (nI (lowN (cellF xs L (k + 2)) 12)) mm past kp).1 else -3) := hr_88
    have hI : XN T xa w_88 (sendP (nI (lowN (cellF xs L (k + 1)) 3)) (nI (lowN (cellF xs L (k + 2)) 12)) mm past kp).2.2.1 (sendP (nI (lowN (cellF xs L (k + 1)) 3)) (nI (lowN (cellF xs L (k + 2)) 12)) mm past kp).2.2.2.1 (sendP (nI (lowN (cellF xs L (k + 1)) 3)) (nI (lowN (cellF xs L (k + 2)) 12)) mm past kp).2.2.2.2 := hI
    have hP89 : va_P D vwCl (fl [w_88]) _ := hP89
    have hD89 : va_D A (fl [w_88]) := hD89
    refine lv_bipush (v := (-3)) hx hb dL_act_236 (by decide) ?_
    have hs9 := snd_cases (past := past) (kp := kp) hS (z := lowN (cellF xs L (k + 1)) 3) (p := lowN (cellF xs L (k + 2)) 12) (by omega) (by omega)
    rw [← hr_88] at hs9
    refine lv_icmp_ne (tgt := 246) hx hb dL_act_238 (by decide) (fun c_238 => ?_) (fun c_238 => ?_)
    · skip
      refine lv_iconst (v := nI 0) hx hb dL_act_246 (by decide) ?_
      refine retx_i hTG (Nat.le_of_ble_eq_true rfl) (Nat.le_of_ble_eq_true rfl) hx hb hr hlocks (w_88) hP89 hD89 hS89 [0] rfl (by decide) dL_act_247 ?_
      rw [← hj]
      have eA : actF 8 (cellF xs L (k + 1)) (cellF xs L (k + 2)) mm past kp = sndF (sendP (nI (lowN (cellF xs L (k + 1)) 3)) (nI (lowN (cellF xs L (k + 2)) 12)) mm past kp) := act_8 _ _ _ _ _
      rw [eA]
      refine ⟨?_, hI⟩
      show _ = (if (sendP (nI (lowN (cellF xs L (k + 1)) 3)) (nI (lowN (cellF xs L (k + 2)) 12)) mm past kp).2.1 = nI 0 then nI 0 else -30)
      rw [if_pos (Decidable.byContradiction (fun q => c_238 (hs9.mpr q)))]
    · skip
      refine lv_bipush (v := (-30)) hx hb dL_act_241 (by decide) ?_
      refine lv_goto (tgt := 247) hx hb dL_act_243 (by decide) ?_
      refine retx_i hTG (Nat.le_of_ble_eq_true rfl) (Nat.le_of_ble_eq_true rfl) hx hb hr hlocks (w_88) hP89 hD89 hS89 [0] rfl (by decide) dL_act_247 ?_
      rw [← hj]
      have eA : actF 8 (cellF xs L (k + 1)) (cellF xs L (k + 2)) mm past kp = sndF (sendP (nI (lowN (cellF xs L (k + 1)) 3)) (nI (lowN (cellF xs L (k + 2)) 12)) mm past kp) := act_8 _ _ _ _ _
      rw [eA]
      refine ⟨?_, hI⟩
      show _ = (if (sendP (nI (lowN (cellF xs L (k + 1)) 3)) (nI (lowN (cellF xs L (k + 2)) 12)) mm past kp).2.1 = nI 0 then nI 0 else -30)
      rw [if_neg (hs9.mp c_238)]
  · skip
    clear hj22
    refine lv_tableIn (tgt := 220) hx hb dL_act_27 (by decide) (by decide) rfl (by decide) ?_
    refine lv_aload_n hx hb dL_act_220 rfl (lv_at hl6 2 rfl) ?_
    refine lv_iload_n hx hb dL_act_221 rfl (lv_at hl6 1 rfl) ?_
    refine lv_iconst (v := nI 3) hx hb dL_act_222 (by decide) ?_
    have hPc91 : va_P D vwCl (fl []) _ := hP10.sub [] rfl
    refine cr_i (va_runS (As := [.int (cellF xs L (k + 1)), .int (nI 3)]) (rest := [.ref xa]) ⟨hx, hb, hml, hown, hts⟩ (c_L_low l D T (cellF xs L (k + 1)) 3 (by omega) (by omega)) (mkS hts okL_low kw_396 kw_397 ⟨rfl, rfl, Nat.le_of_ble_eq_true rfl, Nat.le_of_ble_eq_true rfl⟩) (ps_ro hK hPc91) rfl rfl hl6.1 rfl (lv_room (Nat.le_of_ble_eq_true rfl)) dL_act_223 ⟨Nat.le_of_ble_eq_true rfl, Nat.le_of_ble_eq_true rfl⟩) hP10 hS10 (fun r_223 H92 locs92 hq_223 hP92 hS92 => ?_)
    clear hP10 hS10 hPc91
    have hD92 := hD10
    clear hD10
    have hq_223 : r_223 = nI (lowN (cellF xs L (k + 1)) 3) := hq_223
    subst hq_223
    refine lv_iload hx hb dL_act_226 (lv_at hl6 0 rfl) ?_
    refine lv_bipush (v := nI 12) hx hb dL_act_228 (by decide) ?_
    have hPc93 : va_P D vwCl (fl []) _ := hP92.sub [] rfl
    refine cr_i (va_runS (As := [.int (cellF xs L (k + 2)), .int (nI 12)]) (rest := [.int (nI (lowN (cellF xs L (k + 1)) 3)), .ref xa]) ⟨hx, hb, hml, hown, hts⟩ (c_L_low l D T (cellF xs L (k + 2)) 12 (by omega) (by omega)) (mkS hts okL_low kw_396 kw_397 ⟨rfl, rfl, Nat.le_of_ble_eq_true rfl, Nat.le_of_ble_eq_true rfl⟩) (ps_ro hK hPc93) rfl rfl hl6.1 rfl (lv_room (Nat.le_of_ble_eq_true rfl)) dL_act_230 ⟨Nat.le_of_ble_eq_true rfl, Nat.le_of_ble_eq_true rfl⟩) hP92 hS92 (fun r_230 H94 locs94 hq_230 hP94 hS94 => ?_)
    clear hP92 hS92 hPc93
    have hD94 := hD92
    clear hD92
    have hq_230 : r_230 = nI (lowN (cellF xs L (k + 2)) 12) := hq_230
    subst hq_230
    have := la 3 (by omega)
    have := lb 12 (by omega)
    have hPc95 : va_P D vwCl (fl [wb]) _ := flP_sub hP94 [0] rfl
    have hDc95 : va_D A (fl [wb]) := flD_sub hD94 [0] (by decide) rfl
    refine clx_i (br := []) (vx_runSX (As := [.ref xa, .int (nI (lowN (cellF xs L (k + 1)) 3)), .int (nI (lowN (cellF xs L (k + 2)) 12))]) (rest := []) ⟨hx, hb, hml, hown, hts⟩ (c_L_send l D T hl hI (lowN (cellF xs L (k + 1)) 3) (lowN (cellF xs L (k + 2)) 12) (by omega) (by omega) _) (mkSW (n := 3) hts kcw_send kw_0 kw_455 kw_456 ⟨by decide, by decide⟩ (by decide +kernel) ⟨rfl, rfl, (Nat.le_of_ble_eq_true rfl), (Nat.le_of_ble_eq_true rfl)⟩) (ps_x hK hST hS94 hPc95 hDc95 (vA_c (br := []) hP94 hD94 hS94 hA (isR := []) (isC := [0]) rfl (by decide))) rfl rfl hl6.1 rfl (lv_room (Nat.le_of_ble_eq_true rfl)) dL_act_233 ⟨(Nat.le_of_ble_eq_true rfl), (Nat.le_of_ble_eq_true rfl)⟩) hP94 hD94 hS94 hA [] [0] rfl (by decide) (fun E ce q9 _ux Hx lx hqx hPx hDx hSx h1 h2 h3 => absurd hqx (by simp)) (fun r_95 w_95 H96 locs96 hq_95 hP96 hD96 hS96 => ?_)
    clear hP94 hD94 hS94 hPc95 hDc95 hI
    obtain ⟨hr_95, hI⟩ := hq_95
    have hr_95 : r_95 = (if (sendP (nI (lowN (cellF xs L (k + 1)) 3)) (nI (lowN (cellF xs L (k + 2)) 12)) mm past kp).2.1 = nI 0 then (sendP (nI (lowN (cellF xs L (k + 1)) 3)) (nI (lowN (cellF xs L (k + 2)) 12)) mm past kp).1 else -3) := hr_95
    have hI : XN T xa w_95 (sendP (nI (lowN (cellF xs L (k + 1)) 3)) (nI (lowN (cellF xs L (k + 2)) 12)) mm past kp).2.2.1 (sendP (nI (lowN (cellF xs L (k + 1)) 3)) (nI (lowN (cellF xs L (k + 2)) 12)) mm past kp).2.2.2.1 (sendP (nI (lowN (cellF xs L (k + 1)) 3)) (nI (lowN (cellF xs L (k + 2)) 12)) mm past kp).2.2.2.2 := hI
    have hP96 : va_P D vwCl (fl [w_95]) _ := hP96
    have hD96 : va_D A (fl [w_95]) := hD96
    refine lv_bipush (v := (-3)) hx hb dL_act_236 (by decide) ?_
    have hs9 := snd_cases (past := past) (kp := kp) hS (z := lowN (cellF xs L (k + 1)) 3) (p := lowN (cellF xs L (k + 2)) 12) (by omega) (by omega)
    rw [← hr_95] at hs9
    refine lv_icmp_ne (tgt := 246) hx hb dL_act_238 (by decide) (fun c_238 => ?_) (fun c_238 => ?_)
    · skip
      refine lv_iconst (v := nI 0) hx hb dL_act_246 (by decide) ?_
      refine retx_i hTG (Nat.le_of_ble_eq_true rfl) (Nat.le_of_ble_eq_true rfl) hx hb hr hlocks (w_95) hP96 hD96 hS96 [0] rfl (by decide) dL_act_247 ?_
      rw [← hj]
      have eA : actF 9 (cellF xs L (k + 1)) (cellF xs L (k + 2)) mm past kp = sndF (sendP (nI (lowN (cellF xs L (k + 1)) 3)) (nI (lowN (cellF xs L (k + 2)) 12)) mm past kp) := act_9 _ _ _ _ _
      rw [eA]
      refine ⟨?_, hI⟩
      show _ = (if (sendP (nI (lowN (cellF xs L (k + 1)) 3)) (nI (lowN (cellF xs L (k + 2)) 12)) mm past kp).2.1 = nI 0 then nI 0 else -30)
      rw [if_pos (Decidable.byContradiction (fun q => c_238 (hs9.mpr q)))]
    · skip
      refine lv_bipush (v := (-30)) hx hb dL_act_241 (by decide) ?_
      refine lv_goto (tgt := 247) hx hb dL_act_243 (by decide) ?_
      refine retx_i hTG (Nat.le_of_ble_eq_true rfl) (Nat.le_of_ble_eq_true rfl) hx hb hr hlocks (w_95) hP96 hD96 hS96 [0] rfl (by decide) dL_act_247 ?_
      rw [← hj]
      have eA : actF 9 (cellF xs L (k + 1)) (cellF xs L (k + 2)) mm past kp = sndF (sendP (nI (lowN (cellF xs L (k + 1)) 3)) (nI (lowN (cellF xs L (k + 2)) 12)) mm past kp) := act_9 _ _ _ _ _
      rw [eA]
      refine ⟨?_, hI⟩
      show _ = (if (sendP (nI (lowN (cellF xs L (k + 1)) 3)) (nI (lowN (cellF xs L (k + 2)) 12)) mm past kp).2.1 = nI 0 then nI 0 else -30)
      rw [if_neg (hs9.mp c_238)]
  · skip
    clear hj22
    refine lv_tableIn (tgt := 220) hx hb dL_act_27 (by decide) (by decide) rfl (by decide) ?_
    refine lv_aload_n hx hb dL_act_220 rfl (lv_at hl6 2 rfl) ?_
    refine lv_iload_n hx hb dL_act_221 rfl (lv_at hl6 1 rfl) ?_
    refine lv_iconst (v := nI 3) hx hb dL_act_222 (by decide) ?_
    have hPc98 : va_P D vwCl (fl []) _ := hP10.sub [] rfl
    refine cr_i (va_runS (As := [.int (cellF xs L (k + 1)), .int (nI 3)]) (rest := [.ref xa]) ⟨hx, hb, hml, hown, hts⟩ (c_L_low l D T (cellF xs L (k + 1)) 3 (by omega) (by omega)) (mkS hts okL_low kw_396 kw_397 ⟨rfl, rfl, Nat.le_of_ble_eq_true rfl, Nat.le_of_ble_eq_true rfl⟩) (ps_ro hK hPc98) rfl rfl hl6.1 rfl (lv_room (Nat.le_of_ble_eq_true rfl)) dL_act_223 ⟨Nat.le_of_ble_eq_true rfl, Nat.le_of_ble_eq_true rfl⟩) hP10 hS10 (fun r_223 H99 locs99 hq_223 hP99 hS99 => ?_)
    clear hP10 hS10 hPc98
    have hD99 := hD10
    clear hD10
    have hq_223 : r_223 = nI (lowN (cellF xs L (k + 1)) 3) := hq_223
    subst hq_223
    refine lv_iload hx hb dL_act_226 (lv_at hl6 0 rfl) ?_
    refine lv_bipush (v := nI 12) hx hb dL_act_228 (by decide) ?_
    have hPc100 : va_P D vwCl (fl []) _ := hP99.sub [] rfl
    refine cr_i (va_runS (As := [.int (cellF xs L (k + 2)), .int (nI 12)]) (rest := [.int (nI (lowN (cellF xs L (k + 1)) 3)), .ref xa]) ⟨hx, hb, hml, hown, hts⟩ (c_L_low l D T (cellF xs L (k + 2)) 12 (by omega) (by omega)) (mkS hts okL_low kw_396 kw_397 ⟨rfl, rfl, Nat.le_of_ble_eq_true rfl, Nat.le_of_ble_eq_true rfl⟩) (ps_ro hK hPc100) rfl rfl hl6.1 rfl (lv_room (Nat.le_of_ble_eq_true rfl)) dL_act_230 ⟨Nat.le_of_ble_eq_true rfl, Nat.le_of_ble_eq_true rfl⟩) hP99 hS99 (fun r_230 H101 locs101 hq_230 hP101 hS101 => ?_)
    clear hP99 hS99 hPc100
    have hD101 := hD99
    clear hD99
    have hq_230 : r_230 = nI (lowN (cellF xs L (k + 2)) 12) := hq_230
    subst hq_230
    have := la 3 (by omega)
    have := lb 12 (by omega)
    have hPc102 : va_P D vwCl (fl [wb]) _ := flP_sub hP101 [0] rfl
    have hDc102 : va_D A (fl [wb]) := flD_sub hD101 [0] (by decide) rfl
    refine clx_i (br := []) (vx_runSX (As := [.ref xa, .int (nI (lowN (cellF xs L (k + 1)) 3)), .int (nI (lowN (cellF xs L (k + 2)) 12))]) (rest := []) ⟨hx, hb, hml, hown, hts⟩ (c_L_send l D T hl hI (lowN (cellF xs L (k + 1)) 3) (lowN (cellF xs L (k + 2)) 12) (by omega) (by omega) _) (mkSW (n := 3) hts kcw_send kw_0 kw_455 kw_456 ⟨by decide, by decide⟩ (by decide +kernel) ⟨rfl, rfl, (Nat.le_of_ble_eq_true rfl), (Nat.le_of_ble_eq_true rfl)⟩) (ps_x hK hST hS101 hPc102 hDc102 (vA_c (br := []) hP101 hD101 hS101 hA (isR := []) (isC := [0]) rfl (by decide))) rfl rfl hl6.1 rfl (lv_room (Nat.le_of_ble_eq_true rfl)) dL_act_233 ⟨(Nat.le_of_ble_eq_true rfl), (Nat.le_of_ble_eq_true rfl)⟩) hP101 hD101 hS101 hA [] [0] rfl (by decide) (fun E ce q9 _ux Hx lx hqx hPx hDx hSx h1 h2 h3 => absurd hqx (by simp)) (fun r_102 w_102 H103 locs103 hq_102 hP103 hD103 hS103 => ?_)
    clear hP101 hD101 hS101 hPc102 hDc102 hI
    obtain ⟨hr_102, hI⟩ := hq_102
    have hr_102 : r_102 = (if (sendP (nI (lowN (cellF xs L (k + 1)) 3)) (nI (lowN (cellF xs L (k + 2)) 12)) mm past kp).2.1 = nI 0 then (sendP (nI (lowN (cellF xs L (k + 1)) 3)) (nI (lowN (cellF xs L (k + 2)) 12)) mm past kp).1 else -3) := hr_102
    have hI : XN T xa w_102 (sendP (nI (lowN (cellF xs L (k + 1)) 3)) (nI (lowN (cellF xs L (k + 2)) 12)) mm past kp).2.2.1 (sendP (nI (lowN (cellF xs L (k + 1)) 3)) (nI (lowN (cellF xs L (k + 2)) 12)) mm past kp).2.2.2.1 (sendP (nI (lowN (cellF xs L (k + 1)) 3)) (nI (lowN (cellF xs L (k + 2)) 12)) mm past kp).2.2.2.2 := hI
    have hP103 : va_P D vwCl (fl [w_102]) _ := hP103
    have hD103 : va_D A (fl [w_102]) := hD103
    refine lv_bipush (v := (-3)) hx hb dL_act_236 (by decide) ?_
    have hs9 := snd_cases (past := past) (kp := kp) hS (z := lowN (cellF xs L (k + 1)) 3) (p := lowN (cellF xs L (k + 2)) 12) (by omega) (by omega)
    rw [← hr_102] at hs9
    refine lv_icmp_ne (tgt := 246) hx hb dL_act_238 (by decide) (fun c_238 => ?_) (fun c_238 => ?_)
    · skip
      refine lv_iconst (v := nI 0) hx hb dL_act_246 (by decide) ?_
      refine retx_i hTG (Nat.le_of_ble_eq_true rfl) (Nat.le_of_ble_eq_true rfl) hx hb hr hlocks (w_102) hP103 hD103 hS103 [0] rfl (by decide) dL_act_247 ?_
      rw [← hj]
      have eA : actF 10 (cellF xs L (k + 1)) (cellF xs L (k + 2)) mm past kp = sndF (sendP (nI (lowN (cellF xs L (k + 1)) 3)) (nI (lowN (cellF xs L (k + 2)) 12)) mm past kp) := act_10 _ _ _ _ _
      rw [eA]
      refine ⟨?_, hI⟩
      show _ = (if (sendP (nI (lowN (cellF xs L (k + 1)) 3)) (nI (lowN (cellF xs L (k + 2)) 12)) mm past kp).2.1 = nI 0 then nI 0 else -30)
      rw [if_pos (Decidable.byContradiction (fun q => c_238 (hs9.mpr q)))]
    · skip
      refine lv_bipush (v := (-30)) hx hb dL_act_241 (by decide) ?_
      refine lv_goto (tgt := 247) hx hb dL_act_243 (by decide) ?_
      refine retx_i hTG (Nat.le_of_ble_eq_true rfl) (Nat.le_of_ble_eq_true rfl) hx hb hr hlocks (w_102) hP103 hD103 hS103 [0] rfl (by decide) dL_act_247 ?_
      rw [← hj]
      have eA : actF 10 (cellF xs L (k + 1)) (cellF xs L (k + 2)) mm past kp = sndF (sendP (nI (lowN (cellF xs L (k + 1)) 3)) (nI (lowN (cellF xs L (k + 2)) 12)) mm past kp) := act_10 _ _ _ _ _
      rw [eA]
      refine ⟨?_, hI⟩
      show _ = (if (sendP (nI (lowN (cellF xs L (k + 1)) 3)) (nI (lowN (cellF xs L (k + 2)) 12)) mm past kp).2.1 = nI 0 then nI 0 else -30)
      rw [if_neg (hs9.mp c_238)]
  · skip
    clear hj22
    refine lv_tableIn (tgt := 220) hx hb dL_act_27 (by decide) (by decide) rfl (by decide) ?_
    refine lv_aload_n hx hb dL_act_220 rfl (lv_at hl6 2 rfl) ?_
    refine lv_iload_n hx hb dL_act_221 rfl (lv_at hl6 1 rfl) ?_
    refine lv_iconst (v := nI 3) hx hb dL_act_222 (by decide) ?_
    have hPc105 : va_P D vwCl (fl []) _ := hP10.sub [] rfl
    refine cr_i (va_runS (As := [.int (cellF xs L (k + 1)), .int (nI 3)]) (rest := [.ref xa]) ⟨hx, hb, hml, hown, hts⟩ (c_L_low l D T (cellF xs L (k + 1)) 3 (by omega) (by omega)) (mkS hts okL_low kw_396 kw_397 ⟨rfl, rfl, Nat.le_of_ble_eq_true rfl, Nat.le_of_ble_eq_true rfl⟩) (ps_ro hK hPc105) rfl rfl hl6.1 rfl (lv_room (Nat.le_of_ble_eq_true rfl)) dL_act_223 ⟨Nat.le_of_ble_eq_true rfl, Nat.le_of_ble_eq_true rfl⟩) hP10 hS10 (fun r_223 H106 locs106 hq_223 hP106 hS106 => ?_)
    clear hP10 hS10 hPc105
    have hD106 := hD10
    clear hD10
    have hq_223 : r_223 = nI (lowN (cellF xs L (k + 1)) 3) := hq_223
    subst hq_223
    refine lv_iload hx hb dL_act_226 (lv_at hl6 0 rfl) ?_
    refine lv_bipush (v := nI 12) hx hb dL_act_228 (by decide) ?_
    have hPc107 : va_P D vwCl (fl []) _ := hP106.sub [] rfl
    refine cr_i (va_runS (As := [.int (cellF xs L (k + 2)), .int (nI 12)]) (rest := [.int (nI (lowN (cellF xs L (k + 1)) 3)), .ref xa]) ⟨hx, hb, hml, hown, hts⟩ (c_L_low l D T (cellF xs L (k + 2)) 12 (by omega) (by omega)) (mkS hts okL_low kw_396 kw_397 ⟨rfl, rfl, Nat.le_of_ble_eq_true rfl, Nat.le_of_ble_eq_true rfl⟩) (ps_ro hK hPc107) rfl rfl hl6.1 rfl (lv_room (Nat.le_of_ble_eq_true rfl)) dL_act_230 ⟨Nat.le_of_ble_eq_true rfl, Nat.le_of_ble_eq_true rfl⟩) hP106 hS106 (fun r_230 H108 locs108 hq_230 hP108 hS108 => ?_)
    clear hP106 hS106 hPc107
    have hD108 := hD106
    clear hD106
    have hq_230 : r_230 = nI (lowN (cellF xs L (k + 2)) 12) := hq_230
    subst hq_230
    have := la 3 (by omega)
    have := lb 12 (by omega)
    have hPc109 : va_P D vwCl (fl [wb]) _ := flP_sub hP108 [0] rfl
    have hDc109 : va_D A (fl [wb]) := flD_sub hD108 [0] (by decide) rfl
    refine clx_i (br := []) (vx_runSX (As := [.ref xa, .int (nI (lowN (cellF xs L (k + 1)) 3)), .int (nI (lowN (cellF xs L (k + 2)) 12))]) (rest := []) ⟨hx, hb, hml, hown, hts⟩ (c_L_send l D T hl hI (lowN (cellF xs L (k + 1)) 3) (lowN (cellF xs L (k + 2)) 12) (by omega) (by omega) _) (mkSW (n := 3) hts kcw_send kw_0 kw_455 kw_456 ⟨by decide, by decide⟩ (by decide +kernel) ⟨rfl, rfl, (Nat.le_of_ble_eq_true rfl), (Nat.le_of_ble_eq_true rfl)⟩) (ps_x hK hST hS108 hPc109 hDc109 (vA_c (br := []) hP108 hD108 hS108 hA (isR := []) (isC := [0]) rfl (by decide))) rfl rfl hl6.1 rfl (lv_room (Nat.le_of_ble_eq_true rfl)) dL_act_233 ⟨(Nat.le_of_ble_eq_true rfl), (Nat.le_of_ble_eq_true rfl)⟩) hP108 hD108 hS108 hA [] [0] rfl (by decide) (fun E ce q9 _ux Hx lx hqx hPx hDx hSx h1 h2 h3 => absurd hqx (by simp)) (fun r_109 w_109 H110 locs110 hq_109 hP110 hD110 hS110 => ?_)
    clear hP108 hD108 hS108 hPc109 hDc109 hI
    obtain ⟨hr_109, hI⟩ := hq_109
    have hr_109 : r_109 = (if (sendP (nI (lowN (cellF xs L (k + 1)) 3)) (nI (lowN (cellF xs L (k + 2)) 12)) mm past kp).2.1 = nI 0 then (sendP (nI (lowN (cellF xs L (k + 1)) 3)) (nI (lowN (cellF xs L (k + 2)) 12)) mm past kp).1 else -3) := hr_109
    have hI : XN T xa w_109 (sendP (nI (lowN (cellF xs L (k + 1)) 3)) (nI (lowN (cellF xs L (k + 2)) 12)) mm past kp).2.2.1 (sendP (nI (lowN (cellF xs L (k + 1)) 3)) (nI (lowN (cellF xs L (k + 2)) 12)) mm past kp).2.2.2.1 (sendP (nI (lowN (cellF xs L (k + 1)) 3)) (nI (lowN (cellF xs L (k + 2)) 12)) mm past kp).2.2.2.2 := hI
    have hP110 : va_P D vwCl (fl [w_109]) _ := hP110
    have hD110 : va_D A (fl [w_109]) := hD110
    refine lv_bipush (v := (-3)) hx hb dL_act_236 (by decide) ?_
    have hs9 := snd_cases (past := past) (kp := kp) hS (z := lowN (cellF xs L (k + 1)) 3) (p := lowN (cellF xs L (k + 2)) 12) (by omega) (by omega)
    rw [← hr_109] at hs9
    refine lv_icmp_ne (tgt := 246) hx hb dL_act_238 (by decide) (fun c_238 => ?_) (fun c_238 => ?_)
    · skip
      refine lv_iconst (v := nI 0) hx hb dL_act_246 (by decide) ?_
      refine retx_i hTG (Nat.le_of_ble_eq_true rfl) (Nat.le_of_ble_eq_true rfl) hx hb hr hlocks (w_109) hP110 hD110 hS110 [0] rfl (by decide) dL_act_247 ?_
      rw [← hj]
      have eA : actF 11 (cellF xs L (k + 1)) (cellF xs L (k + 2)) mm past kp = sndF (sendP (nI (lowN (cellF xs L (k + 1)) 3)) (nI (lowN (cellF xs L (k + 2)) 12)) mm past kp) := act_11 _ _ _ _ _
      rw [eA]
      refine ⟨?_, hI⟩
      show _ = (if (sendP (nI (lowN (cellF xs L (k + 1)) 3)) (nI (lowN (cellF xs L (k + 2)) 12)) mm past kp).2.1 = nI 0 then nI 0 else -30)
      rw [if_pos (Decidable.byContradiction (fun q => c_238 (hs9.mpr q)))]
    · skip
      refine lv_bipush (v := (-30)) hx hb dL_act_241 (by decide) ?_
      refine lv_goto (tgt := 247) hx hb dL_act_243 (by decide) ?_
      refine retx_i hTG (Nat.le_of_ble_eq_true rfl) (Nat.le_of_ble_eq_true rfl) hx hb hr hlocks (w_109) hP110 hD110 hS110 [0] rfl (by decide) dL_act_247 ?_
      rw [← hj]
      have eA : actF 11 (cellF xs L (k + 1)) (cellF xs L (k + 2)) mm past kp = sndF (sendP (nI (lowN (cellF xs L (k + 1)) 3)) (nI (lowN (cellF xs L (k + 2)) 12)) mm past kp) := act_11 _ _ _ _ _
      rw [eA]
      refine ⟨?_, hI⟩
      show _ = (if (sendP (nI (lowN (cellF xs L (k + 1)) 3)) (nI (lowN (cellF xs L (k + 2)) 12)) mm past kp).2.1 = nI 0 then nI 0 else -30)
      rw [if_neg (hs9.mp c_238)]
  · skip
    clear hj22
    refine lv_tableIn (tgt := 220) hx hb dL_act_27 (by decide) (by decide) rfl (by decide) ?_
    refine lv_aload_n hx hb dL_act_220 rfl (lv_at hl6 2 rfl) ?_
    refine lv_iload_n hx hb dL_act_221 rfl (lv_at hl6 1 rfl) ?_
    refine lv_iconst (v := nI 3) hx hb dL_act_222 (by decide) ?_
    have hPc112 : va_P D vwCl (fl []) _ := hP10.sub [] rfl
    refine cr_i (va_runS (As := [.int (cellF xs L (k + 1)), .int (nI 3)]) (rest := [.ref xa]) ⟨hx, hb, hml, hown, hts⟩ (c_L_low l D T (cellF xs L (k + 1)) 3 (by omega) (by omega)) (mkS hts okL_low kw_396 kw_397 ⟨rfl, rfl, Nat.le_of_ble_eq_true rfl, Nat.le_of_ble_eq_true rfl⟩) (ps_ro hK hPc112) rfl rfl hl6.1 rfl (lv_room (Nat.le_of_ble_eq_true rfl)) dL_act_223 ⟨Nat.le_of_ble_eq_true rfl, Nat.le_of_ble_eq_true rfl⟩) hP10 hS10 (fun r_223 H113 locs113 hq_223 hP113 hS113 => ?_)
    clear hP10 hS10 hPc112
    have hD113 := hD10
    clear hD10
    have hq_223 : r_223 = nI (lowN (cellF xs L (k + 1)) 3) := hq_223
    subst hq_223
    refine lv_iload hx hb dL_act_226 (lv_at hl6 0 rfl) ?_
    refine lv_bipush (v := nI 12) hx hb dL_act_228 (by decide) ?_
    have hPc114 : va_P D vwCl (fl []) _ := hP113.sub [] rfl
    refine cr_i (va_runS (As := [.int (cellF xs L (k + 2)), .int (nI 12)]) (rest := [.int (nI (lowN (cellF xs L (k + 1)) 3)), .ref xa]) ⟨hx, hb, hml, hown, hts⟩ (c_L_low l D T (cellF xs L (k + 2)) 12 (by omega) (by omega)) (mkS hts okL_low kw_396 kw_397 ⟨rfl, rfl, Nat.le_of_ble_eq_true rfl, Nat.le_of_ble_eq_true rfl⟩) (ps_ro hK hPc114) rfl rfl hl6.1 rfl (lv_room (Nat.le_of_ble_eq_true rfl)) dL_act_230 ⟨Nat.le_of_ble_eq_true rfl, Nat.le_of_ble_eq_true rfl⟩) hP113 hS113 (fun r_230 H115 locs115 hq_230 hP115 hS115 => ?_)
    clear hP113 hS113 hPc114
    have hD115 := hD113
    clear hD113
    have hq_230 : r_230 = nI (lowN (cellF xs L (k + 2)) 12) := hq_230
    subst hq_230
    have := la 3 (by omega)
    have := lb 12 (by omega)
    have hPc116 : va_P D vwCl (fl [wb]) _ := flP_sub hP115 [0] rfl
    have hDc116 : va_D A (fl [wb]) := flD_sub hD115 [0] (by decide) rfl
    refine clx_i (br := []) (vx_runSX (As := [.ref xa, .int (nI (lowN (cellF xs L (k + 1)) 3)), .int (nI (lowN (cellF xs L (k + 2)) 12))]) (rest := []) ⟨hx, hb, hml, hown, hts⟩ (c_L_send l D T hl hI (lowN (cellF xs L (k + 1)) 3) (lowN (cellF xs L (k + 2)) 12) (by omega) (by omega) _) (mkSW (n := 3) hts kcw_send kw_0 kw_455 kw_456 ⟨by decide, by decide⟩ (by decide +kernel) ⟨rfl, rfl, (Nat.le_of_ble_eq_true rfl), (Nat.le_of_ble_eq_true rfl)⟩) (ps_x hK hST hS115 hPc116 hDc116 (vA_c (br := []) hP115 hD115 hS115 hA (isR := []) (isC := [0]) rfl (by decide))) rfl rfl hl6.1 rfl (lv_room (Nat.le_of_ble_eq_true rfl)) dL_act_233 ⟨(Nat.le_of_ble_eq_true rfl), (Nat.le_of_ble_eq_true rfl)⟩) hP115 hD115 hS115 hA [] [0] rfl (by decide) (fun E ce q9 _ux Hx lx hqx hPx hDx hSx h1 h2 h3 => absurd hqx (by simp)) (fun r_116 w_116 H117 locs117 hq_116 hP117 hD117 hS117 => ?_)
    clear hP115 hD115 hS115 hPc116 hDc116 hI
    obtain ⟨hr_116, hI⟩ := hq_116
    have hr_116 : r_116 = (if (sendP (nI (lowN (cellF xs L (k + 1)) 3)) (nI (lowN (cellF xs L (k + 2)) 12)) mm past kp).2.1 = nI 0 then (sendP (nI (lowN (cellF xs L (k + 1)) 3)) (nI (lowN (cellF xs L (k + 2)) 12)) mm past kp).1 else -3) := hr_116
    have hI : XN T xa w_116 (sendP (nI (lowN (cellF xs L (k + 1)) 3)) (nI (lowN (cellF xs L (k + 2)) 12)) mm past kp).2.2.1 (sendP (nI (lowN (cellF xs L (k + 1)) 3)) (nI (lowN (cellF xs L (k + 2)) 12)) mm past kp).2.2.2.1 (sendP (nI (lowN (cellF xs L (k + 1)) 3)) (nI (lowN (cellF xs L (k + 2)) 12)) mm past kp).2.2.2.2 := hI
    have hP117 : va_P D vwCl (fl [w_116]) _ := hP117
    have hD117 : va_D A (fl [w_116]) := hD117
    refine lv_bipush (v := (-3)) hx hb dL_act_236 (by decide) ?_
    have hs9 := snd_cases (past := past) (kp := kp) hS (z := lowN (cellF xs L (k + 1)) 3) (p := lowN (cellF xs L (k + 2)) 12) (by omega) (by omega)
    rw [← hr_116] at hs9
    refine lv_icmp_ne (tgt := 246) hx hb dL_act_238 (by decide) (fun c_238 => ?_) (fun c_238 => ?_)
    · skip
      refine lv_iconst (v := nI 0) hx hb dL_act_246 (by decide) ?_
      refine retx_i hTG (Nat.le_of_ble_eq_true rfl) (Nat.le_of_ble_eq_true rfl) hx hb hr hlocks (w_116) hP117 hD117 hS117 [0] rfl (by decide) dL_act_247 ?_
      rw [← hj]
      have eA : actF 12 (cellF xs L (k + 1)) (cellF xs L (k + 2)) mm past kp = sndF (sendP (nI (lowN (cellF xs L (k + 1)) 3)) (nI (lowN (cellF xs L (k + 2)) 12)) mm past kp) := act_12 _ _ _ _ _
      rw [eA]
      refine ⟨?_, hI⟩
      show _ = (if (sendP (nI (lowN (cellF xs L (k + 1)) 3)) (nI (lowN (cellF xs L (k + 2)) 12)) mm past kp).2.1 = nI 0 then nI 0 else -30)
      rw [if_pos (Decidable.byContradiction (fun q => c_238 (hs9.mpr q)))]
    · skip
      refine lv_bipush (v := (-30)) hx hb dL_act_241 (by decide) ?_
      refine lv_goto (tgt := 247) hx hb dL_act_243 (by decide) ?_
      refine retx_i hTG (Nat.le_of_ble_eq_true rfl) (Nat.le_of_ble_eq_true rfl) hx hb hr hlocks (w_116) hP117 hD117 hS117 [0] rfl (by decide) dL_act_247 ?_
      rw [← hj]
      have eA : actF 12 (cellF xs L (k + 1)) (cellF xs L (k + 2)) mm past kp = sndF (sendP (nI (lowN (cellF xs L (k + 1)) 3)) (nI (lowN (cellF xs L (k + 2)) 12)) mm past kp) := act_12 _ _ _ _ _
      rw [eA]
      refine ⟨?_, hI⟩
      show _ = (if (sendP (nI (lowN (cellF xs L (k + 1)) 3)) (nI (lowN (cellF xs L (k + 2)) 12)) mm past kp).2.1 = nI 0 then nI 0 else -30)
      rw [if_neg (hs9.mp c_238)]
  · skip
    clear hj22
    refine lv_tableIn (tgt := 248) hx hb dL_act_27 (by decide) (by decide) rfl (by decide) ?_
    refine lv_aload_n hx hb dL_act_248 rfl (lv_at hl6 2 rfl) ?_
    refine lv_iload_n hx hb dL_act_249 rfl (lv_at hl6 1 rfl) ?_
    refine lv_iconst (v := nI 3) hx hb dL_act_250 (by decide) ?_
    have hPc119 : va_P D vwCl (fl []) _ := hP10.sub [] rfl
    refine cr_i (va_runS (As := [.int (cellF xs L (k + 1)), .int (nI 3)]) (rest := [.ref xa]) ⟨hx, hb, hml, hown, hts⟩ (c_L_low l D T (cellF xs L (k + 1)) 3 (by omega) (by omega)) (mkS hts okL_low kw_396 kw_397 ⟨rfl, rfl, Nat.le_of_ble_eq_true rfl, Nat.le_of_ble_eq_true rfl⟩) (ps_ro hK hPc119) rfl rfl hl6.1 rfl (lv_room (Nat.le_of_ble_eq_true rfl)) dL_act_251 ⟨Nat.le_of_ble_eq_true rfl, Nat.le_of_ble_eq_true rfl⟩) hP10 hS10 (fun r_251 H120 locs120 hq_251 hP120 hS120 => ?_)
    clear hP10 hS10 hPc119
    have hD120 := hD10
    clear hD10
    have hq_251 : r_251 = nI (lowN (cellF xs L (k + 1)) 3) := hq_251
    subst hq_251
    have := la 3 (by omega)
    have hnt121 : (skipP (nI (lowN (cellF xs L (k + 1)) 3)) mm past kp).2.1 = nI 0 := nt_skip (by omega)
    obtain ⟨fs121, hfs121⟩ := XINV.recv hI
    have hPc121 : va_P D vwCl (fl [wb]) _ := flP_sub hP120 [0] rfl
    have hDc121 : va_D A (fl [wb]) := flD_sub hD120 [0] (by decide) rfl
    refine clx_i (br := []) (vx_runV (As := [.int (nI (lowN (cellF xs L (k + 1)) 3))]) (rest := []) ⟨hx, hb, hml, hown, hts⟩ (d_X5_skip l D T hl hI (by omega) (nI (lowN (cellF xs L (k + 1)) 3)) _) (mkV hts okX5_skip kw_487 kw_488 kw_489 ⟨rfl, rfl, (Nat.le_of_ble_eq_true rfl), (Nat.le_of_ble_eq_true rfl)⟩) (pv_x hK hST hS120 hPc121 hDc121 (vA_c (br := []) hP120 hD120 hS120 hA (isR := []) (isC := [0]) rfl (by decide)) hfs121 (q := (RX5, TX5, 5)) rfl rfl) rfl rfl hl6.1 rfl (lv_room (Nat.le_of_ble_eq_true rfl)) dL_act_254 ⟨(Nat.le_of_ble_eq_true rfl), (Nat.le_of_ble_eq_true rfl)⟩) hP120 hD120 hS120 hA [] [0] rfl (by decide) (fun E ce q9 _ux Hx lx hqx hPx hDx hSx h1 h2 h3 => absurd hqx (noX1 hnt121)) (fun r_121 w_121 H122 locs122 hq_121 hP122 hD122 hS122 => ?_)
    clear hP120 hD120 hS120 hPc121 hDc121 hfs121 hI
    obtain ⟨hr_121, -, hI⟩ := hq_121
    have hI : XN T xa w_121 (skipP (nI (lowN (cellF xs L (k + 1)) 3)) mm past kp).2.2.1 (skipP (nI (lowN (cellF xs L (k + 1)) 3)) mm past kp).2.2.2.1 (skipP (nI (lowN (cellF xs L (k + 1)) 3)) mm past kp).2.2.2.2 := XN.of hI
    have hP122 : va_P D vwCl (fl [w_121]) _ := hP122
    have hD122 : va_D A (fl [w_121]) := hD122
    refine retx_i hTG (Nat.le_of_ble_eq_true rfl) (Nat.le_of_ble_eq_true rfl) hx hb hr hlocks (w_121) hP122 hD122 hS122 [0] rfl (by decide) dL_act_257 ?_
    rw [← hj]
    have eA : actF 13 (cellF xs L (k + 1)) (cellF xs L (k + 2)) mm past kp = skipP (nI (lowN (cellF xs L (k + 1)) 3)) mm past kp := act_13 _ _ _ _ _
    rw [eA]
    exact ⟨hr_121, hI⟩
  · skip
    clear hj22
    refine lv_tableIn (tgt := 258) hx hb dL_act_27 (by decide) (by decide) rfl (by decide) ?_
    refine lv_aload_n hx hb dL_act_258 rfl (lv_at hl6 2 rfl) ?_
    refine lv_iconst (v := nI 0) hx hb dL_act_259 (by decide) ?_
    refine lv_iload hx hb dL_act_260 (lv_at hl6 0 rfl) ?_
    refine lv_bipush (v := nI 100) hx hb dL_act_262 (by decide) ?_
    have hPc123 : va_P D vwCl (fl []) _ := hP10.sub [] rfl
    refine cr_i (va_runS (As := [.int (cellF xs L (k + 2)), .int (nI 100)]) (rest := [.int (nI 0), .ref xa]) ⟨hx, hb, hml, hown, hts⟩ (c_L_low l D T (cellF xs L (k + 2)) 100 (by omega) (by omega)) (mkS hts okL_low kw_396 kw_397 ⟨rfl, rfl, Nat.le_of_ble_eq_true rfl, Nat.le_of_ble_eq_true rfl⟩) (ps_ro hK hPc123) rfl rfl hl6.1 rfl (lv_room (Nat.le_of_ble_eq_true rfl)) dL_act_264 ⟨Nat.le_of_ble_eq_true rfl, Nat.le_of_ble_eq_true rfl⟩) hP10 hS10 (fun r_264 H124 locs124 hq_264 hP124 hS124 => ?_)
    clear hP10 hS10 hPc123
    have hD124 := hD10
    clear hD10
    have hq_264 : r_264 = nI (lowN (cellF xs L (k + 2)) 100) := hq_264
    subst hq_264
    have := lb 100 (by omega)
    have hnt125 : (setP (nI 0) (nI (lowN (cellF xs L (k + 2)) 100)) mm past kp).2.1 = nI 0 := nt_set (by omega) (for_0 (by omega))
    obtain ⟨fs125, hfs125⟩ := XINV.recv hI
    have hPc125 : va_P D vwCl (fl [wb]) _ := flP_sub hP124 [0] rfl
    have hDc125 : va_D A (fl [wb]) := flD_sub hD124 [0] (by decide) rfl
    refine clx_i (br := []) (vx_runV (As := [.int (nI 0), .int (nI (lowN (cellF xs L (k + 2)) 100))]) (rest := []) ⟨hx, hb, hml, hown, hts⟩ (d_X5_set l D T hl hI (by omega) (nI 0) (nI (lowN (cellF xs L (k + 2)) 100)) _) (mkV hts okX5_set kw_492 kw_493 kw_494 ⟨rfl, rfl, (Nat.le_of_ble_eq_true rfl), (Nat.le_of_ble_eq_true rfl)⟩) (pv_x hK hST hS124 hPc125 hDc125 (vA_c (br := []) hP124 hD124 hS124 hA (isR := []) (isC := [0]) rfl (by decide)) hfs125 (q := (RX5, TX5, 5)) rfl rfl) rfl rfl hl6.1 rfl (lv_room (Nat.le_of_ble_eq_true rfl)) dL_act_267 ⟨(Nat.le_of_ble_eq_true rfl), (Nat.le_of_ble_eq_true rfl)⟩) hP124 hD124 hS124 hA [] [0] rfl (by decide) (fun E ce q9 _ux Hx lx hqx hPx hDx hSx h1 h2 h3 => absurd hqx (noX2 hnt125)) (fun r_125 w_125 H126 locs126 hq_125 hP126 hD126 hS126 => ?_)
    clear hP124 hD124 hS124 hPc125 hDc125 hfs125 hI
    obtain ⟨hr_125, -, hI⟩ := hq_125
    have hI : XN T xa w_125 (setP (nI 0) (nI (lowN (cellF xs L (k + 2)) 100)) mm past kp).2.2.1 (setP (nI 0) (nI (lowN (cellF xs L (k + 2)) 100)) mm past kp).2.2.2.1 (setP (nI 0) (nI (lowN (cellF xs L (k + 2)) 100)) mm past kp).2.2.2.2 := XN.of hI
    have hP126 : va_P D vwCl (fl [w_125]) _ := hP126
    have hD126 : va_D A (fl [w_125]) := hD126
    refine retx_i hTG (Nat.le_of_ble_eq_true rfl) (Nat.le_of_ble_eq_true rfl) hx hb hr hlocks (w_125) hP126 hD126 hS126 [0] rfl (by decide) dL_act_270 ?_
    rw [← hj]
    have eA : actF 14 (cellF xs L (k + 1)) (cellF xs L (k + 2)) mm past kp = setP (nI 0) (nI (lowN (cellF xs L (k + 2)) 100)) mm past kp := act_14 _ _ _ _ _
    rw [eA]
    exact ⟨hr_125, hI⟩
  · skip
    clear hj22
    refine lv_tableIn (tgt := 271) hx hb dL_act_27 (by decide) (by decide) rfl (by decide) ?_
    refine lv_aload_n hx hb dL_act_271 rfl (lv_at hl6 2 rfl) ?_
    refine lv_iconst (v := nI 1) hx hb dL_act_272 (by decide) ?_
    refine lv_iload hx hb dL_act_273 (lv_at hl6 0 rfl) ?_
    refine lv_bipush (v := nI 61) hx hb dL_act_275 (by decide) ?_
    have hPc127 : va_P D vwCl (fl []) _ := hP10.sub [] rfl
    refine cr_i (va_runS (As := [.int (cellF xs L (k + 2)), .int (nI 61)]) (rest := [.int (nI 1), .ref xa]) ⟨hx, hb, hml, hown, hts⟩ (c_L_low l D T (cellF xs L (k + 2)) 61 (by omega) (by omega)) (mkS hts okL_low kw_396 kw_397 ⟨rfl, rfl, Nat.le_of_ble_eq_true rfl, Nat.le_of_ble_eq_true rfl⟩) (ps_ro hK hPc127) rfl rfl hl6.1 rfl (lv_room (Nat.le_of_ble_eq_true rfl)) dL_act_277 ⟨Nat.le_of_ble_eq_true rfl, Nat.le_of_ble_eq_true rfl⟩) hP10 hS10 (fun r_277 H128 locs128 hq_277 hP128 hS128 => ?_)
    clear hP10 hS10 hPc127
    have hD128 := hD10
    clear hD10
    have hq_277 : r_277 = nI (lowN (cellF xs L (k + 2)) 61) := hq_277
    subst hq_277
    have := lb 61 (by omega)
    have hnt129 : (setP (nI 1) (nI (lowN (cellF xs L (k + 2)) 61)) mm past kp).2.1 = nI 0 := nt_set (by omega) (for_1 (by omega))
    obtain ⟨fs129, hfs129⟩ := XINV.recv hI
    have hPc129 : va_P D vwCl (fl [wb]) _ := flP_sub hP128 [0] rfl
    have hDc129 : va_D A (fl [wb]) := flD_sub hD128 [0] (by decide) rfl
    refine clx_i (br := []) (vx_runV (As := [.int (nI 1), .int (nI (lowN (cellF xs L (k + 2)) 61))]) (rest := []) ⟨hx, hb, hml, hown, hts⟩ (d_X5_set l D T hl hI (by omega) (nI 1) (nI (lowN (cellF xs L (k + 2)) 61)) _) (mkV hts okX5_set kw_492 kw_493 kw_494 ⟨rfl, rfl, (Nat.le_of_ble_eq_true rfl), (Nat.le_of_ble_eq_true rfl)⟩) (pv_x hK hST hS128 hPc129 hDc129 (vA_c (br := []) hP128 hD128 hS128 hA (isR := []) (isC := [0]) rfl (by decide)) hfs129 (q := (RX5, TX5, 5)) rfl rfl) rfl rfl hl6.1 rfl (lv_room (Nat.le_of_ble_eq_true rfl)) dL_act_280 ⟨(Nat.le_of_ble_eq_true rfl), (Nat.le_of_ble_eq_true rfl)⟩) hP128 hD128 hS128 hA [] [0] rfl (by decide) (fun E ce q9 _ux Hx lx hqx hPx hDx hSx h1 h2 h3 => absurd hqx (noX2 hnt129)) (fun r_129 w_129 H130 locs130 hq_129 hP130 hD130 hS130 => ?_)
    clear hP128 hD128 hS128 hPc129 hDc129 hfs129 hI
    obtain ⟨hr_129, -, hI⟩ := hq_129
    have hI : XN T xa w_129 (setP (nI 1) (nI (lowN (cellF xs L (k + 2)) 61)) mm past kp).2.2.1 (setP (nI 1) (nI (lowN (cellF xs L (k + 2)) 61)) mm past kp).2.2.2.1 (setP (nI 1) (nI (lowN (cellF xs L (k + 2)) 61)) mm past kp).2.2.2.2 := XN.of hI
    have hP130 : va_P D vwCl (fl [w_129]) _ := hP130
    have hD130 : va_D A (fl [w_129]) := hD130
    refine retx_i hTG (Nat.le_of_ble_eq_true rfl) (Nat.le_of_ble_eq_true rfl) hx hb hr hlocks (w_129) hP130 hD130 hS130 [0] rfl (by decide) dL_act_283 ?_
    rw [← hj]
    have eA : actF 15 (cellF xs L (k + 1)) (cellF xs L (k + 2)) mm past kp = setP (nI 1) (nI (lowN (cellF xs L (k + 2)) 61)) mm past kp := act_15 _ _ _ _ _
    rw [eA]
    exact ⟨hr_129, hI⟩
  · skip
    clear hj22
    refine lv_tableIn (tgt := 284) hx hb dL_act_27 (by decide) (by decide) rfl (by decide) ?_
    refine lv_iload_n hx hb dL_act_284 rfl (lv_at hl6 1 rfl) ?_
    refine lv_iconst (v := nI 2) hx hb dL_act_285 (by decide) ?_
    have hPc131 : va_P D vwCl (fl []) _ := hP10.sub [] rfl
    refine cr_i (va_runS (As := [.int (cellF xs L (k + 1)), .int (nI 2)]) (rest := []) ⟨hx, hb, hml, hown, hts⟩ (c_L_low l D T (cellF xs L (k + 1)) 2 (by omega) (by omega)) (mkS hts okL_low kw_396 kw_397 ⟨rfl, rfl, Nat.le_of_ble_eq_true rfl, Nat.le_of_ble_eq_true rfl⟩) (ps_ro hK hPc131) rfl rfl hl6.1 rfl (lv_room (Nat.le_of_ble_eq_true rfl)) dL_act_286 ⟨Nat.le_of_ble_eq_true rfl, Nat.le_of_ble_eq_true rfl⟩) hP10 hS10 (fun r_286 H132 locs132 hq_286 hP132 hS132 => ?_)
    clear hP10 hS10 hPc131
    have hD132 := hD10
    clear hD10
    have hq_286 : r_286 = nI (lowN (cellF xs L (k + 1)) 2) := hq_286
    subst hq_286
    have := la 2 (by omega)
    refine n_if_ne (tgt := 309) hx hb (by omega) dL_act_289 (by decide) (fun c_289 => ?_) (fun c_289 => ?_)
    · skip
      refine lv_aload_n hx hb dL_act_309 rfl (lv_at hl6 2 rfl) ?_
      refine lv_iconst (v := nI 3) hx hb dL_act_310 (by decide) ?_
      refine lv_iload hx hb dL_act_311 (lv_at hl6 0 rfl) ?_
      refine lv_bipush (v := nI 21) hx hb dL_act_313 (by decide) ?_
      have hPc134 : va_P D vwCl (fl []) _ := hP132.sub [] rfl
      refine cr_i (va_runS (As := [.int (cellF xs L (k + 2)), .int (nI 21)]) (rest := [.int (nI 3), .ref xa]) ⟨hx, hb, hml, hown, hts⟩ (c_L_low l D T (cellF xs L (k + 2)) 21 (by omega) (by omega)) (mkS hts okL_low kw_396 kw_397 ⟨rfl, rfl, Nat.le_of_ble_eq_true rfl, Nat.le_of_ble_eq_true rfl⟩) (ps_ro hK hPc134) rfl rfl hl6.1 rfl (lv_room (Nat.le_of_ble_eq_true rfl)) dL_act_315 ⟨Nat.le_of_ble_eq_true rfl, Nat.le_of_ble_eq_true rfl⟩) hP132 hS132 (fun r_315 H135 locs135 hq_315 hP135 hS135 => ?_)
      clear hP132 hS132 hPc134
      have hD135 := hD132
      clear hD132
      have hq_315 : r_315 = nI (lowN (cellF xs L (k + 2)) 21) := hq_315
      subst hq_315
      have := lb 21 (by omega)
      have hnt136 : (setP (nI 3) (nI (lowN (cellF xs L (k + 2)) 21)) mm past kp).2.1 = nI 0 := nt_set (by omega) (for_3 (by omega))
      obtain ⟨fs136, hfs136⟩ := XINV.recv hI
      have hPc136 : va_P D vwCl (fl [wb]) _ := flP_sub hP135 [0] rfl
      have hDc136 : va_D A (fl [wb]) := flD_sub hD135 [0] (by decide) rfl
      refine clx_i (br := []) (vx_runV (As := [.int (nI 3), .int (nI (lowN (cellF xs L (k + 2)) 21))]) (rest := []) ⟨hx, hb, hml, hown, hts⟩ (d_X5_set l D T hl hI (by omega) (nI 3) (nI (lowN (cellF xs L (k + 2)) 21)) _) (mkV hts okX5_set kw_492 kw_493 kw_494 ⟨rfl, rfl, (Nat.le_of_ble_eq_true rfl), (Nat.le_of_ble_eq_true rfl)⟩) (pv_x hK hST hS135 hPc136 hDc136 (vA_c (br := []) hP135 hD135 hS135 hA (isR := []) (isC := [0]) rfl (by decide)) hfs136 (q := (RX5, TX5, 5)) rfl rfl) rfl rfl hl6.1 rfl (lv_room (Nat.le_of_ble_eq_true rfl)) dL_act_318 ⟨(Nat.le_of_ble_eq_true rfl), (Nat.le_of_ble_eq_true rfl)⟩) hP135 hD135 hS135 hA [] [0] rfl (by decide) (fun E ce q9 _ux Hx lx hqx hPx hDx hSx h1 h2 h3 => absurd hqx (noX2 hnt136)) (fun r_136 w_136 H137 locs137 hq_136 hP137 hD137 hS137 => ?_)
      clear hP135 hD135 hS135 hPc136 hDc136 hfs136 hI
      obtain ⟨hr_136, -, hI⟩ := hq_136
      have hI : XN T xa w_136 (setP (nI 3) (nI (lowN (cellF xs L (k + 2)) 21)) mm past kp).2.2.1 (setP (nI 3) (nI (lowN (cellF xs L (k + 2)) 21)) mm past kp).2.2.2.1 (setP (nI 3) (nI (lowN (cellF xs L (k + 2)) 21)) mm past kp).2.2.2.2 := XN.of hI
      have hP137 : va_P D vwCl (fl [w_136]) _ := hP137
      have hD137 : va_D A (fl [w_136]) := hD137
      refine retx_i hTG (Nat.le_of_ble_eq_true rfl) (Nat.le_of_ble_eq_true rfl) hx hb hr hlocks (w_136) hP137 hD137 hS137 [0] rfl (by decide) dL_act_321 ?_
      rw [← hj]
      have eA : actF 16 (cellF xs L (k + 1)) (cellF xs L (k + 2)) mm past kp = setP (nI 3) (nI (lowN (cellF xs L (k + 2)) 21)) mm past kp := by rw [act_16, if_neg c_289]
      rw [eA]
      exact ⟨hr_136, hI⟩
    · skip
      refine lv_aload_n hx hb dL_act_292 rfl (lv_at hl6 2 rfl) ?_
      refine lv_iconst (v := nI 2) hx hb dL_act_293 (by decide) ?_
      refine lv_iconst (v := nI 1) hx hb dL_act_294 (by decide) ?_
      refine lv_iload hx hb dL_act_295 (lv_at hl6 0 rfl) ?_
      refine lv_bipush (v := nI 9) hx hb dL_act_297 (by decide) ?_
      have hPc138 : va_P D vwCl (fl []) _ := hP132.sub [] rfl
      refine cr_i (va_runS (As := [.int (cellF xs L (k + 2)), .int (nI 9)]) (rest := [.int (nI 1), .int (nI 2), .ref xa]) ⟨hx, hb, hml, hown, hts⟩ (c_L_low l D T (cellF xs L (k + 2)) 9 (by omega) (by omega)) (mkS hts okL_low kw_396 kw_397 ⟨rfl, rfl, Nat.le_of_ble_eq_true rfl, Nat.le_of_ble_eq_true rfl⟩) (ps_ro hK hPc138) rfl rfl hl6.1 rfl (lv_room (Nat.le_of_ble_eq_true rfl)) dL_act_299 ⟨Nat.le_of_ble_eq_true rfl, Nat.le_of_ble_eq_true rfl⟩) hP132 hS132 (fun r_299 H139 locs139 hq_299 hP139 hS139 => ?_)
      clear hP132 hS132 hPc138
      have hD139 := hD132
      clear hD132
      have hq_299 : r_299 = nI (lowN (cellF xs L (k + 2)) 9) := hq_299
      subst hq_299
      refine lv_iadd hx hb dL_act_302 ?_
      refine tp_i (y := nI (1 + (lowN (cellF xs L (k + 2)) 9))) (nI_add _ _) ?_
      have := lb 9 (by omega)
      have hnt140 : (setP (nI 2) (nI (1 + (lowN (cellF xs L (k + 2)) 9))) mm past kp).2.1 = nI 0 := nt_set (by omega) (for_2 (by omega) (by omega))
      obtain ⟨fs140, hfs140⟩ := XINV.recv hI
      have hPc140 : va_P D vwCl (fl [wb]) _ := flP_sub hP139 [0] rfl
      have hDc140 : va_D A (fl [wb]) := flD_sub hD139 [0] (by decide) rfl
      refine clx_i (br := []) (vx_runV (As := [.int (nI 2), .int (nI (1 + (lowN (cellF xs L (k + 2)) 9)))]) (rest := []) ⟨hx, hb, hml, hown, hts⟩ (d_X5_set l D T hl hI (by omega) (nI 2) (nI (1 + (lowN (cellF xs L (k + 2)) 9))) _) (mkV hts okX5_set kw_492 kw_493 kw_494 ⟨rfl, rfl, (Nat.le_of_ble_eq_true rfl), (Nat.le_of_ble_eq_true rfl)⟩) (pv_x hK hST hS139 hPc140 hDc140 (vA_c (br := []) hP139 hD139 hS139 hA (isR := []) (isC := [0]) rfl (by decide)) hfs140 (q := (RX5, TX5, 5)) rfl rfl) rfl rfl hl6.1 rfl (lv_room (Nat.le_of_ble_eq_true rfl)) dL_act_303 ⟨(Nat.le_of_ble_eq_true rfl), (Nat.le_of_ble_eq_true rfl)⟩) hP139 hD139 hS139 hA [] [0] rfl (by decide) (fun E ce q9 _ux Hx lx hqx hPx hDx hSx h1 h2 h3 => absurd hqx (noX2 hnt140)) (fun r_140 w_140 H141 locs141 hq_140 hP141 hD141 hS141 => ?_)
      clear hP139 hD139 hS139 hPc140 hDc140 hfs140 hI
      obtain ⟨hr_140, -, hI⟩ := hq_140
      have hI : XN T xa w_140 (setP (nI 2) (nI (1 + (lowN (cellF xs L (k + 2)) 9))) mm past kp).2.2.1 (setP (nI 2) (nI (1 + (lowN (cellF xs L (k + 2)) 9))) mm past kp).2.2.2.1 (setP (nI 2) (nI (1 + (lowN (cellF xs L (k + 2)) 9))) mm past kp).2.2.2.2 := XN.of hI
      have hP141 : va_P D vwCl (fl [w_140]) _ := hP141
      have hD141 : va_D A (fl [w_140]) := hD141
      refine lv_goto (tgt := 321) hx hb dL_act_306 (by decide) ?_
      refine retx_i hTG (Nat.le_of_ble_eq_true rfl) (Nat.le_of_ble_eq_true rfl) hx hb hr hlocks (w_140) hP141 hD141 hS141 [0] rfl (by decide) dL_act_321 ?_
      rw [← hj]
      have eA : actF 16 (cellF xs L (k + 1)) (cellF xs L (k + 2)) mm past kp = setP (nI 2) (nI (1 + (lowN (cellF xs L (k + 2)) 9))) mm past kp := by rw [act_16, if_pos c_289]
      rw [eA]
      exact ⟨hr_140, hI⟩
  · skip
    clear hj22
    refine lv_tableIn (tgt := 322) hx hb dL_act_27 (by decide) (by decide) rfl (by decide) ?_
    refine lv_aload_n hx hb dL_act_322 rfl (lv_at hl6 2 rfl) ?_
    refine lv_iconst (v := nI 1) hx hb dL_act_323 (by decide) ?_
    refine lv_iload_n hx hb dL_act_324 rfl (lv_at hl6 1 rfl) ?_
    refine lv_bipush (v := nI 6) hx hb dL_act_325 (by decide) ?_
    have hPc142 : va_P D vwCl (fl []) _ := hP10.sub [] rfl
    refine cr_i (va_runS (As := [.int (cellF xs L (k + 1)), .int (nI 6)]) (rest := [.int (nI 1), .ref xa]) ⟨hx, hb, hml, hown, hts⟩ (c_L_low l D T (cellF xs L (k + 1)) 6 (by omega) (by omega)) (mkS hts okL_low kw_396 kw_397 ⟨rfl, rfl, Nat.le_of_ble_eq_true rfl, Nat.le_of_ble_eq_true rfl⟩) (ps_ro hK hPc142) rfl rfl hl6.1 rfl (lv_room (Nat.le_of_ble_eq_true rfl)) dL_act_327 ⟨Nat.le_of_ble_eq_true rfl, Nat.le_of_ble_eq_true rfl⟩) hP10 hS10 (fun r_327 H143 locs143 hq_327 hP143 hS143 => ?_)
    clear hP10 hS10 hPc142
    have hD143 := hD10
    clear hD10
    have hq_327 : r_327 = nI (lowN (cellF xs L (k + 1)) 6) := hq_327
    subst hq_327
    refine lv_iadd hx hb dL_act_330 ?_
    refine tp_i (y := nI (1 + (lowN (cellF xs L (k + 1)) 6))) (nI_add _ _) ?_
    have := la 6 (by omega)
    have hnt144 : (passP (nI (1 + (lowN (cellF xs L (k + 1)) 6))) mm past kp).2.1 = nI 0 := nt_pass (by omega) (by omega)
    obtain ⟨fs144, hfs144⟩ := XINV.recv hI
    have hPc144 : va_P D vwCl (fl [wb]) _ := flP_sub hP143 [0] rfl
    have hDc144 : va_D A (fl [wb]) := flD_sub hD143 [0] (by decide) rfl
    refine clx_i (br := []) (vx_runV (As := [.int (nI (1 + (lowN (cellF xs L (k + 1)) 6)))]) (rest := []) ⟨hx, hb, hml, hown, hts⟩ (d_X5_pass l D T hl hI (by omega) (nI (1 + (lowN (cellF xs L (k + 1)) 6))) _) (mkV hts okX5_pass kw_188 kw_189 kw_190 ⟨rfl, rfl, (Nat.le_of_ble_eq_true rfl), (Nat.le_of_ble_eq_true rfl)⟩) (pv_x hK hST hS143 hPc144 hDc144 (vA_c (br := []) hP143 hD143 hS143 hA (isR := []) (isC := [0]) rfl (by decide)) hfs144 (q := (RX5, TX5, 5)) rfl rfl) rfl rfl hl6.1 rfl (lv_room (Nat.le_of_ble_eq_true rfl)) dL_act_331 ⟨(Nat.le_of_ble_eq_true rfl), (Nat.le_of_ble_eq_true rfl)⟩) hP143 hD143 hS143 hA [] [0] rfl (by decide) (fun E ce q9 _ux Hx lx hqx hPx hDx hSx h1 h2 h3 => absurd hqx (noX1 hnt144)) (fun r_144 w_144 H145 locs145 hq_144 hP145 hD145 hS145 => ?_)
    clear hP143 hD143 hS143 hPc144 hDc144 hfs144 hI
    obtain ⟨hr_144, -, hI⟩ := hq_144
    have hI : XN T xa w_144 (passP (nI (1 + (lowN (cellF xs L (k + 1)) 6))) mm past kp).2.2.1 (passP (nI (1 + (lowN (cellF xs L (k + 1)) 6))) mm past kp).2.2.2.1 (passP (nI (1 + (lowN (cellF xs L (k + 1)) 6))) mm past kp).2.2.2.2 := XN.of hI
    have hP145 : va_P D vwCl (fl [w_144]) _ := hP145
    have hD145 : va_D A (fl [w_144]) := hD145
    refine retx_i hTG (Nat.le_of_ble_eq_true rfl) (Nat.le_of_ble_eq_true rfl) hx hb hr hlocks (w_144) hP145 hD145 hS145 [0] rfl (by decide) dL_act_334 ?_
    rw [← hj]
    have eA : actF 17 (cellF xs L (k + 1)) (cellF xs L (k + 2)) mm past kp = passP (nI (1 + (lowN (cellF xs L (k + 1)) 6))) mm past kp := act_17 _ _ _ _ _
    rw [eA]
    exact ⟨hr_144, hI⟩
  · skip
    clear hj22
    refine lv_tableIn (tgt := 322) hx hb dL_act_27 (by decide) (by decide) rfl (by decide) ?_
    refine lv_aload_n hx hb dL_act_322 rfl (lv_at hl6 2 rfl) ?_
    refine lv_iconst (v := nI 1) hx hb dL_act_323 (by decide) ?_
    refine lv_iload_n hx hb dL_act_324 rfl (lv_at hl6 1 rfl) ?_
    refine lv_bipush (v := nI 6) hx hb dL_act_325 (by decide) ?_
    have hPc146 : va_P D vwCl (fl []) _ := hP10.sub [] rfl
    refine cr_i (va_runS (As := [.int (cellF xs L (k + 1)), .int (nI 6)]) (rest := [.int (nI 1), .ref xa]) ⟨hx, hb, hml, hown, hts⟩ (c_L_low l D T (cellF xs L (k + 1)) 6 (by omega) (by omega)) (mkS hts okL_low kw_396 kw_397 ⟨rfl, rfl, Nat.le_of_ble_eq_true rfl, Nat.le_of_ble_eq_true rfl⟩) (ps_ro hK hPc146) rfl rfl hl6.1 rfl (lv_room (Nat.le_of_ble_eq_true rfl)) dL_act_327 ⟨Nat.le_of_ble_eq_true rfl, Nat.le_of_ble_eq_true rfl⟩) hP10 hS10 (fun r_327 H147 locs147 hq_327 hP147 hS147 => ?_)
    clear hP10 hS10 hPc146
    have hD147 := hD10
    clear hD10
    have hq_327 : r_327 = nI (lowN (cellF xs L (k + 1)) 6) := hq_327
    subst hq_327
    refine lv_iadd hx hb dL_act_330 ?_
    refine tp_i (y := nI (1 + (lowN (cellF xs L (k + 1)) 6))) (nI_add _ _) ?_
    have := la 6 (by omega)
    have hnt148 : (passP (nI (1 + (lowN (cellF xs L (k + 1)) 6))) mm past kp).2.1 = nI 0 := nt_pass (by omega) (by omega)
    obtain ⟨fs148, hfs148⟩ := XINV.recv hI
    have hPc148 : va_P D vwCl (fl [wb]) _ := flP_sub hP147 [0] rfl
    have hDc148 : va_D A (fl [wb]) := flD_sub hD147 [0] (by decide) rfl
    refine clx_i (br := []) (vx_runV (As := [.int (nI (1 + (lowN (cellF xs L (k + 1)) 6)))]) (rest := []) ⟨hx, hb, hml, hown, hts⟩ (d_X5_pass l D T hl hI (by omega) (nI (1 + (lowN (cellF xs L (k + 1)) 6))) _) (mkV hts okX5_pass kw_188 kw_189 kw_190 ⟨rfl, rfl, (Nat.le_of_ble_eq_true rfl), (Nat.le_of_ble_eq_true rfl)⟩) (pv_x hK hST hS147 hPc148 hDc148 (vA_c (br := []) hP147 hD147 hS147 hA (isR := []) (isC := [0]) rfl (by decide)) hfs148 (q := (RX5, TX5, 5)) rfl rfl) rfl rfl hl6.1 rfl (lv_room (Nat.le_of_ble_eq_true rfl)) dL_act_331 ⟨(Nat.le_of_ble_eq_true rfl), (Nat.le_of_ble_eq_true rfl)⟩) hP147 hD147 hS147 hA [] [0] rfl (by decide) (fun E ce q9 _ux Hx lx hqx hPx hDx hSx h1 h2 h3 => absurd hqx (noX1 hnt148)) (fun r_148 w_148 H149 locs149 hq_148 hP149 hD149 hS149 => ?_)
    clear hP147 hD147 hS147 hPc148 hDc148 hfs148 hI
    obtain ⟨hr_148, -, hI⟩ := hq_148
    have hI : XN T xa w_148 (passP (nI (1 + (lowN (cellF xs L (k + 1)) 6))) mm past kp).2.2.1 (passP (nI (1 + (lowN (cellF xs L (k + 1)) 6))) mm past kp).2.2.2.1 (passP (nI (1 + (lowN (cellF xs L (k + 1)) 6))) mm past kp).2.2.2.2 := XN.of hI
    have hP149 : va_P D vwCl (fl [w_148]) _ := hP149
    have hD149 : va_D A (fl [w_148]) := hD149
    refine retx_i hTG (Nat.le_of_ble_eq_true rfl) (Nat.le_of_ble_eq_true rfl) hx hb hr hlocks (w_148) hP149 hD149 hS149 [0] rfl (by decide) dL_act_334 ?_
    rw [← hj]
    have eA : actF 18 (cellF xs L (k + 1)) (cellF xs L (k + 2)) mm past kp = passP (nI (1 + (lowN (cellF xs L (k + 1)) 6))) mm past kp := act_18 _ _ _ _ _
    rw [eA]
    exact ⟨hr_148, hI⟩
  · skip
    clear hj22
    refine lv_tableIn (tgt := 322) hx hb dL_act_27 (by decide) (by decide) rfl (by decide) ?_
    refine lv_aload_n hx hb dL_act_322 rfl (lv_at hl6 2 rfl) ?_
    refine lv_iconst (v := nI 1) hx hb dL_act_323 (by decide) ?_
    refine lv_iload_n hx hb dL_act_324 rfl (lv_at hl6 1 rfl) ?_
    refine lv_bipush (v := nI 6) hx hb dL_act_325 (by decide) ?_
    have hPc150 : va_P D vwCl (fl []) _ := hP10.sub [] rfl
    refine cr_i (va_runS (As := [.int (cellF xs L (k + 1)), .int (nI 6)]) (rest := [.int (nI 1), .ref xa]) ⟨hx, hb, hml, hown, hts⟩ (c_L_low l D T (cellF xs L (k + 1)) 6 (by omega) (by omega)) (mkS hts okL_low kw_396 kw_397 ⟨rfl, rfl, Nat.le_of_ble_eq_true rfl, Nat.le_of_ble_eq_true rfl⟩) (ps_ro hK hPc150) rfl rfl hl6.1 rfl (lv_room (Nat.le_of_ble_eq_true rfl)) dL_act_327 ⟨Nat.le_of_ble_eq_true rfl, Nat.le_of_ble_eq_true rfl⟩) hP10 hS10 (fun r_327 H151 locs151 hq_327 hP151 hS151 => ?_)
    clear hP10 hS10 hPc150
    have hD151 := hD10
    clear hD10
    have hq_327 : r_327 = nI (lowN (cellF xs L (k + 1)) 6) := hq_327
    subst hq_327
    refine lv_iadd hx hb dL_act_330 ?_
    refine tp_i (y := nI (1 + (lowN (cellF xs L (k + 1)) 6))) (nI_add _ _) ?_
    have := la 6 (by omega)
    have hnt152 : (passP (nI (1 + (lowN (cellF xs L (k + 1)) 6))) mm past kp).2.1 = nI 0 := nt_pass (by omega) (by omega)
    obtain ⟨fs152, hfs152⟩ := XINV.recv hI
    have hPc152 : va_P D vwCl (fl [wb]) _ := flP_sub hP151 [0] rfl
    have hDc152 : va_D A (fl [wb]) := flD_sub hD151 [0] (by decide) rfl
    refine clx_i (br := []) (vx_runV (As := [.int (nI (1 + (lowN (cellF xs L (k + 1)) 6)))]) (rest := []) ⟨hx, hb, hml, hown, hts⟩ (d_X5_pass l D T hl hI (by omega) (nI (1 + (lowN (cellF xs L (k + 1)) 6))) _) (mkV hts okX5_pass kw_188 kw_189 kw_190 ⟨rfl, rfl, (Nat.le_of_ble_eq_true rfl), (Nat.le_of_ble_eq_true rfl)⟩) (pv_x hK hST hS151 hPc152 hDc152 (vA_c (br := []) hP151 hD151 hS151 hA (isR := []) (isC := [0]) rfl (by decide)) hfs152 (q := (RX5, TX5, 5)) rfl rfl) rfl rfl hl6.1 rfl (lv_room (Nat.le_of_ble_eq_true rfl)) dL_act_331 ⟨(Nat.le_of_ble_eq_true rfl), (Nat.le_of_ble_eq_true rfl)⟩) hP151 hD151 hS151 hA [] [0] rfl (by decide) (fun E ce q9 _ux Hx lx hqx hPx hDx hSx h1 h2 h3 => absurd hqx (noX1 hnt152)) (fun r_152 w_152 H153 locs153 hq_152 hP153 hD153 hS153 => ?_)
    clear hP151 hD151 hS151 hPc152 hDc152 hfs152 hI
    obtain ⟨hr_152, -, hI⟩ := hq_152
    have hI : XN T xa w_152 (passP (nI (1 + (lowN (cellF xs L (k + 1)) 6))) mm past kp).2.2.1 (passP (nI (1 + (lowN (cellF xs L (k + 1)) 6))) mm past kp).2.2.2.1 (passP (nI (1 + (lowN (cellF xs L (k + 1)) 6))) mm past kp).2.2.2.2 := XN.of hI
    have hP153 : va_P D vwCl (fl [w_152]) _ := hP153
    have hD153 : va_D A (fl [w_152]) := hD153
    refine retx_i hTG (Nat.le_of_ble_eq_true rfl) (Nat.le_of_ble_eq_true rfl) hx hb hr hlocks (w_152) hP153 hD153 hS153 [0] rfl (by decide) dL_act_334 ?_
    rw [← hj]
    have eA : actF 19 (cellF xs L (k + 1)) (cellF xs L (k + 2)) mm past kp = passP (nI (1 + (lowN (cellF xs L (k + 1)) 6))) mm past kp := act_19 _ _ _ _ _
    rw [eA]
    exact ⟨hr_152, hI⟩
  · skip
    clear hj22
    refine lv_tableIn (tgt := 322) hx hb dL_act_27 (by decide) (by decide) rfl (by decide) ?_
    refine lv_aload_n hx hb dL_act_322 rfl (lv_at hl6 2 rfl) ?_
    refine lv_iconst (v := nI 1) hx hb dL_act_323 (by decide) ?_
    refine lv_iload_n hx hb dL_act_324 rfl (lv_at hl6 1 rfl) ?_
    refine lv_bipush (v := nI 6) hx hb dL_act_325 (by decide) ?_
    have hPc154 : va_P D vwCl (fl []) _ := hP10.sub [] rfl
    refine cr_i (va_runS (As := [.int (cellF xs L (k + 1)), .int (nI 6)]) (rest := [.int (nI 1), .ref xa]) ⟨hx, hb, hml, hown, hts⟩ (c_L_low l D T (cellF xs L (k + 1)) 6 (by omega) (by omega)) (mkS hts okL_low kw_396 kw_397 ⟨rfl, rfl, Nat.le_of_ble_eq_true rfl, Nat.le_of_ble_eq_true rfl⟩) (ps_ro hK hPc154) rfl rfl hl6.1 rfl (lv_room (Nat.le_of_ble_eq_true rfl)) dL_act_327 ⟨Nat.le_of_ble_eq_true rfl, Nat.le_of_ble_eq_true rfl⟩) hP10 hS10 (fun r_327 H155 locs155 hq_327 hP155 hS155 => ?_)
    clear hP10 hS10 hPc154
    have hD155 := hD10
    clear hD10
    have hq_327 : r_327 = nI (lowN (cellF xs L (k + 1)) 6) := hq_327
    subst hq_327
    refine lv_iadd hx hb dL_act_330 ?_
    refine tp_i (y := nI (1 + (lowN (cellF xs L (k + 1)) 6))) (nI_add _ _) ?_
    have := la 6 (by omega)
    have hnt156 : (passP (nI (1 + (lowN (cellF xs L (k + 1)) 6))) mm past kp).2.1 = nI 0 := nt_pass (by omega) (by omega)
    obtain ⟨fs156, hfs156⟩ := XINV.recv hI
    have hPc156 : va_P D vwCl (fl [wb]) _ := flP_sub hP155 [0] rfl
    have hDc156 : va_D A (fl [wb]) := flD_sub hD155 [0] (by decide) rfl
    refine clx_i (br := []) (vx_runV (As := [.int (nI (1 + (lowN (cellF xs L (k + 1)) 6)))]) (rest := []) ⟨hx, hb, hml, hown, hts⟩ (d_X5_pass l D T hl hI (by omega) (nI (1 + (lowN (cellF xs L (k + 1)) 6))) _) (mkV hts okX5_pass kw_188 kw_189 kw_190 ⟨rfl, rfl, (Nat.le_of_ble_eq_true rfl), (Nat.le_of_ble_eq_true rfl)⟩) (pv_x hK hST hS155 hPc156 hDc156 (vA_c (br := []) hP155 hD155 hS155 hA (isR := []) (isC := [0]) rfl (by decide)) hfs156 (q := (RX5, TX5, 5)) rfl rfl) rfl rfl hl6.1 rfl (lv_room (Nat.le_of_ble_eq_true rfl)) dL_act_331 ⟨(Nat.le_of_ble_eq_true rfl), (Nat.le_of_ble_eq_true rfl)⟩) hP155 hD155 hS155 hA [] [0] rfl (by decide) (fun E ce q9 _ux Hx lx hqx hPx hDx hSx h1 h2 h3 => absurd hqx (noX1 hnt156)) (fun r_156 w_156 H157 locs157 hq_156 hP157 hD157 hS157 => ?_)
    clear hP155 hD155 hS155 hPc156 hDc156 hfs156 hI
    obtain ⟨hr_156, -, hI⟩ := hq_156
    have hI : XN T xa w_156 (passP (nI (1 + (lowN (cellF xs L (k + 1)) 6))) mm past kp).2.2.1 (passP (nI (1 + (lowN (cellF xs L (k + 1)) 6))) mm past kp).2.2.2.1 (passP (nI (1 + (lowN (cellF xs L (k + 1)) 6))) mm past kp).2.2.2.2 := XN.of hI
    have hP157 : va_P D vwCl (fl [w_156]) _ := hP157
    have hD157 : va_D A (fl [w_156]) := hD157
    refine retx_i hTG (Nat.le_of_ble_eq_true rfl) (Nat.le_of_ble_eq_true rfl) hx hb hr hlocks (w_156) hP157 hD157 hS157 [0] rfl (by decide) dL_act_334 ?_
    rw [← hj]
    have eA : actF 20 (cellF xs L (k + 1)) (cellF xs L (k + 2)) mm past kp = passP (nI (1 + (lowN (cellF xs L (k + 1)) 6))) mm past kp := act_20 _ _ _ _ _
    rw [eA]
    exact ⟨hr_156, hI⟩
  · skip
    clear hj22
    refine lv_tableOut (tgt := 335) hx hb dL_act_27 (by decide) (by decide) ?_
    refine lv_aload_n hx hb dL_act_335 rfl (lv_at hl6 2 rfl) ?_
    have hPc158 : va_P D vwCl (fl [wb]) _ := flP_sub hP10 [0] rfl
    have hDc158 : va_D A (fl [wb]) := flD_sub hD10 [0] (by decide) rfl
    refine clx_i (br := []) (vx_runSX (As := [.ref xa]) (rest := []) ⟨hx, hb, hml, hown, hts⟩ (c_L_undo l D T hl hI   _) (mkSW (n := 1) hts kcw_undo kw_0 kw_500 kw_501 ⟨by decide, by decide⟩ (by decide +kernel) ⟨rfl, rfl, (Nat.le_of_ble_eq_true rfl), (Nat.le_of_ble_eq_true rfl)⟩) (ps_x hK hST hS10 hPc158 hDc158 (vA_c (br := []) hP10 hD10 hS10 hA (isR := []) (isC := [0]) rfl (by decide))) rfl rfl hl6.1 rfl (lv_room (Nat.le_of_ble_eq_true rfl)) dL_act_336 ⟨(Nat.le_of_ble_eq_true rfl), (Nat.le_of_ble_eq_true rfl)⟩) hP10 hD10 hS10 hA [] [0] rfl (by decide) (fun E ce q9 _ux Hx lx hqx hPx hDx hSx h1 h2 h3 => absurd hqx (by simp)) (fun r_158 w_158 H159 locs159 hq_158 hP159 hD159 hS159 => ?_)
    clear hP10 hD10 hS10 hPc158 hDc158 hI
    obtain ⟨hr_158, hI⟩ := hq_158
    have hr_158 : r_158 = (if (undoP mm past kp).2.1 = nI 0 then (undoP mm past kp).1 else -30) := hr_158
    have hI : XN T xa w_158 (undoP mm past kp).2.2.1 (undoP mm past kp).2.2.2.1 (undoP mm past kp).2.2.2.2 := hI
    have hP159 : va_P D vwCl (fl [w_158]) _ := hP159
    have hD159 : va_D A (fl [w_158]) := hD159
    refine retx_i hTG (Nat.le_of_ble_eq_true rfl) (Nat.le_of_ble_eq_true rfl) hx hb hr hlocks (w_158) hP159 hD159 hS159 [0] rfl (by decide) dL_act_339 ?_
    rw [← hj]
    have eA : actF 21 (cellF xs L (k + 1)) (cellF xs L (k + 2)) mm past kp = undF (undoP mm past kp) := act_21 _ _ _ _ _
    rw [eA]
    exact ⟨hr_158, hI⟩
