/-! the law: what is known all through, and what holds at its loop's head -/
def LCX (p : Program) (l : Launch) (s : State) (m : MethodId) (c : Code) (D : va_G) (T : TI) (A : Nat → Prop) (b L : Nat) (xs : Nat → Int32) : Prop :=
  p.tables.exec = Jvm.exec ∧ c.code = cL_law ∧ c.maxLocals = 16 ∧ s.vm.findClass RL = some m.cls ∧ (∀ w ∈ W0, w.before #[Value.ref b] s = true) ∧ SCR b L xs A s s.heap ∧ KN D T s ∧ STA A s s.heap ∧ (∀ z, s.heap.size ≤ z → A z) ∧ l.stackTraces = false ∧ L ≤ 260
def LWP (p : Program) (l : Launch) (e : Env) (s : State) (m : MethodId) (below : List Frame) (meth : Method) (c : Code) (D : va_G) (T : TI) (A : Nat → Prop) (b xa t : Nat) (TG : State → Prop) (k ce se : Nat) : Prop :=
  ∀ (w : va_W) (mm past : Nat → Int32) (kp : Nat), XN T xa w mm past kp → RGB mm past kp (6 * k) → ∀ (H : Heap) (locs : List Loc), va_P D vwCl (fl [w]) H → va_D A (fl [w]) → va_S A s.heap H locs → ∀ ls : Array Slot, lv_has ls 16 [(0, .ref b), (1, .ref xa), (2, .int (nI 1)), (3, .int (nI t)), (4, .int (nI k))] → W p l e room_1 s m #[Value.ref b] below meth c H locs ce se TG (F0 m 32 ls [])
theorem act_pf {a b : Int32} {mm past : Nat → Int32} {kp j so run : Nat} (hso : so = j) (hrun : run = 1 + lowN a 6) : 17 ≤ so → so ≤ 20 → (actF j a b mm past kp).1 = byP mm mm run 0 ∧ (actF j a b mm past kp).2.2.1 = hourN mm run := by
  intro h1 h2
  have hr : 1 ≤ run ∧ run ≤ 48 := by
    have := lowN_lt a (show 0 < 6 by omega)
    omega
  have key : actF j a b mm past kp = passP (nI run) mm past kp := by
    rw [hrun]
    rcases (show j = 17 ∨ j = 18 ∨ j = 19 ∨ j = 20 by omega) with rfl | rfl | rfl | rfl
    · exact act_17 a b mm past kp
    · exact act_18 a b mm past kp
    · exact act_19 a b mm past kp
    · exact act_20 a b mm past kp
  rw [key]
  unfold passP
  rw [if_pos (inB_1 hr.1 hr.2 (by omega)), nIcl (by omega)]
  exact ⟨rfl, rfl⟩
theorem pass_m {mm past : Nat → Int32} {kp j : Nat} (h1 : 1 ≤ j) (h2 : j ≤ 48) : (passP (nI j) mm past kp).2.2.1 = hourN mm j := by
  unfold passP
  rw [if_pos (inB_1 h1 h2 (by omega)), nIcl (by omega)]
theorem pass_hours {m : Nat → Int32} {h r : Nat} (H : RGm m h 0) (hr : h + r < 1000000) : hourN m r 9 = m 9 + nI r := by
  rw [(H.hourN r hr).hours, H.hours, nI_add]
set_option maxHeartbeats 4000000 in
set_option maxRecDepth 100000 in
theorem law_body {pX : Program} {l : Launch} {eX : Env} {sX : State} {mX : MethodId} {bX : List Frame} {mtX : Method} {cX : Code} {D : va_G} {T : TI} {A : Nat → Prop} {b L : Nat} {xs : Nat → Int32} {xa t : Nat} {TG : State → Prop} (hCX : LCX pX l sX mX cX D T A b L xs) (k : Nat) (hk : k < 44) (KK : LWP pX l eX sX mX bX mtX cX D T A b xa t TG (k + 1) (160 + 3 * (k + 1)) (2200 + 18 * (k + 1))) {w : va_W} {mm past : Nat → Int32} {kp : Nat} (hI : XN T xa w mm past kp) (hG : RGB mm past kp (6 * k)) {H0 : Heap} {locs0 : List Loc} (hP0 : va_P D vwCl (fl [w]) H0) (hD0 : va_D A (fl [w])) (hS0 : va_S A sX.heap H0 locs0) {ls0 : Array Slot} (hl0 : lv_has ls0 16 [(0, .ref b), (1, .ref xa), (2, .int (nI 1)), (3, .int (nI t)), (4, .int (nI k))]) : W pX l eX room_1 sX mX #[Value.ref b] bX mtX cX H0 locs0 (160 + 3 * k) (2200 + 18 * k) TG (F0 mX 38 ls0 []) := by
  obtain ⟨hx, hb, hml, hown, hts, hSC, hK, hST, hA, hl, hL26⟩ := id hCX
  obtain ⟨hokS, hkp6, -⟩ := XINV.okS hI
  obtain ⟨hrm, hhm, hRm⟩ := id hG.1
  refine lv_iload_n hx hb dL_law_38 rfl (lv_at hl0 2 rfl) ?_
  refine n_if_eq (tgt := 325) hx hb (by omega) dL_law_39 (by decide) (fun c1 => absurd c1 (by decide)) (fun c1 => ?_)
  refine lv_aload_n hx hb dL_law_42 rfl (lv_at hl0 1 rfl) ?_
  refine lv_bipush (v := nI 8) hx hb dL_law_43 (by decide) ?_
  obtain ⟨fs2, hfs2⟩ := XINV.recv hI
  have hPc2 : va_P D vwCl (fl [w]) _ := flP_sub hP0 [0] rfl
  have hDc2 : va_D A (fl [w]) := flD_sub hD0 [0] (by decide) rfl
  refine cl_i (br := []) (va_runV (As := [.int (nI 8)]) (rest := []) ⟨hx, hb, hml, hown, hts⟩ (e_X5_count l D T hI 8 (by omega) _) (mkV hts okX5_count kw_349 kw_350 kw_351 ⟨rfl, rfl, (Nat.le_of_ble_eq_true rfl), (Nat.le_of_ble_eq_true rfl)⟩) (pv_rw hK hPc2 hDc2 hfs2 (q := (RX5, TX5, 5)) rfl rfl) rfl rfl hl0.1 rfl (lv_room (Nat.le_of_ble_eq_true rfl)) dL_law_45 ⟨by show _ ≤ 614934; omega, by show _ ≤ 7256381; omega⟩) hP0 hD0 hS0 hA [] [0] rfl (by decide) (fun r_2 w_2 H3 locs3 hq_2 hP3 hD3 hS3 => ?_)
  clear hP0 hD0 hS0 hPc2 hDc2 hfs2 hI
  obtain ⟨hr_2, hI⟩ := hq_2
  have hr_2 : r_2 = nI kp := hr_2
  subst hr_2
  have hP3 : va_P D vwCl (fl [w_2]) _ := hP3
  have hD3 : va_D A (fl [w_2]) := hD3
  refine lv_istore (lv' := [(5, .int (nI kp)), (0, .ref b), (1, .ref xa), (2, .int (nI 1)), (3, .int (nI t)), (4, .int (nI k))]) hx hb dL_law_48 hl0 (by decide) rfl (fun ls4 hl4 => ?_)
  clear hl0
  refine lv_aload_n hx hb dL_law_50 rfl (lv_at hl4 2 rfl) ?_
  refine lv_iconst (v := nI 0) hx hb dL_law_51 (by decide) ?_
  obtain ⟨fs5, hfs5⟩ := XINV.recv hI
  have hPc5 : va_P D vwCl (fl [w_2]) _ := flP_sub hP3 [0] rfl
  have hDc5 : va_D A (fl [w_2]) := flD_sub hD3 [0] (by decide) rfl
  refine cl_i (br := []) (va_runV (As := [.int (nI 0)]) (rest := []) ⟨hx, hb, hml, hown, hts⟩ (e_X5_count l D T hI 0 (by omega) _) (mkV hts okX5_count kw_349 kw_350 kw_351 ⟨rfl, rfl, (Nat.le_of_ble_eq_true rfl), (Nat.le_of_ble_eq_true rfl)⟩) (pv_rw hK hPc5 hDc5 hfs5 (q := (RX5, TX5, 5)) rfl rfl) rfl rfl hl4.1 rfl (lv_room (Nat.le_of_ble_eq_true rfl)) dL_law_52 ⟨by show _ ≤ 614934; omega, by show _ ≤ 7256381; omega⟩) hP3 hD3 hS3 hA [] [0] rfl (by decide) (fun r_5 w_5 H6 locs6 hq_5 hP6 hD6 hS6 => ?_)
  clear hP3 hD3 hS3 hPc5 hDc5 hfs5 hI
  obtain ⟨hr_5, hI⟩ := hq_5
  have hr_5 : r_5 = mm 9 := hr_5
  subst hr_5
  have hP6 : va_P D vwCl (fl [w_5]) _ := hP6
  have hD6 : va_D A (fl [w_5]) := hD6
  refine lv_istore (lv' := [(6, .int (mm 9)), (5, .int (nI kp)), (0, .ref b), (1, .ref xa), (2, .int (nI 1)), (3, .int (nI t)), (4, .int (nI k))]) hx hb dL_law_55 hl4 (by decide) rfl (fun ls7 hl7 => ?_)
  clear hl4
  refine lv_aload_n hx hb dL_law_57 rfl (lv_at hl7 3 rfl) ?_
  refine lv_iconst (v := nI 1) hx hb dL_law_58 (by decide) ?_
  obtain ⟨fs8, hfs8⟩ := XINV.recv hI
  have hPc8 : va_P D vwCl (fl [w_5]) _ := flP_sub hP6 [0] rfl
  have hDc8 : va_D A (fl [w_5]) := flD_sub hD6 [0] (by decide) rfl
  refine cl_i (br := []) (va_runV (As := [.int (nI 1)]) (rest := []) ⟨hx, hb, hml, hown, hts⟩ (e_X5_count l D T hI 1 (by omega) _) (mkV hts okX5_count kw_349 kw_350 kw_351 ⟨rfl, rfl, (Nat.le_of_ble_eq_true rfl), (Nat.le_of_ble_eq_true rfl)⟩) (pv_rw hK hPc8 hDc8 hfs8 (q := (RX5, TX5, 5)) rfl rfl) rfl rfl hl7.1 rfl (lv_room (Nat.le_of_ble_eq_true rfl)) dL_law_59 ⟨by show _ ≤ 614934; omega, by show _ ≤ 7256381; omega⟩) hP6 hD6 hS6 hA [] [0] rfl (by decide) (fun r_8 w_8 H9 locs9 hq_8 hP9 hD9 hS9 => ?_)
  clear hP6 hD6 hS6 hPc8 hDc8 hfs8 hI
  obtain ⟨hr_8, hI⟩ := hq_8
  have hr_8 : r_8 = sumM mm 0 12 := hr_8
  subst hr_8
  have hP9 : va_P D vwCl (fl [w_8]) _ := hP9
  have hD9 : va_D A (fl [w_8]) := hD9
  refine lv_aload_n hx hb dL_law_62 rfl (lv_at hl7 3 rfl) ?_
  refine lv_iconst (v := nI 4) hx hb dL_law_63 (by decide) ?_
  obtain ⟨fs10, hfs10⟩ := XINV.recv hI
  have hPc10 : va_P D vwCl (fl [w_8]) _ := flP_sub hP9 [0] rfl
  have hDc10 : va_D A (fl [w_8]) := flD_sub hD9 [0] (by decide) rfl
  refine cl_i (br := []) (va_runV (As := [.int (nI 4)]) (rest := [.int (sumM mm 0 12)]) ⟨hx, hb, hml, hown, hts⟩ (e_X5_count l D T hI 4 (by omega) _) (mkV hts okX5_count kw_349 kw_350 kw_351 ⟨rfl, rfl, (Nat.le_of_ble_eq_true rfl), (Nat.le_of_ble_eq_true rfl)⟩) (pv_rw hK hPc10 hDc10 hfs10 (q := (RX5, TX5, 5)) rfl rfl) rfl rfl hl7.1 rfl (lv_room (Nat.le_of_ble_eq_true rfl)) dL_law_64 ⟨by show _ ≤ 614934; omega, by show _ ≤ 7256381; omega⟩) hP9 hD9 hS9 hA [] [0] rfl (by decide) (fun r_10 w_10 H11 locs11 hq_10 hP11 hD11 hS11 => ?_)
  clear hP9 hD9 hS9 hPc10 hDc10 hfs10 hI
  obtain ⟨hr_10, hI⟩ := hq_10
  have hr_10 : r_10 = sumM mm 4 12 := hr_10
  subst hr_10
  have hP11 : va_P D vwCl (fl [w_10]) _ := hP11
  have hD11 : va_D A (fl [w_10]) := hD11
  refine lv_iadd hx hb dL_law_67 ?_
  refine lv_aload_n hx hb dL_law_68 rfl (lv_at hl7 3 rfl) ?_
  refine lv_bipush (v := nI 7) hx hb dL_law_69 (by decide) ?_
  obtain ⟨fs12, hfs12⟩ := XINV.recv hI
  have hPc12 : va_P D vwCl (fl [w_10]) _ := flP_sub hP11 [0] rfl
  have hDc12 : va_D A (fl [w_10]) := flD_sub hD11 [0] (by decide) rfl
  refine cl_i (br := []) (va_runV (As := [.int (nI 7)]) (rest := [.int ((sumM mm 0 12) + (sumM mm 4 12))]) ⟨hx, hb, hml, hown, hts⟩ (e_X5_count l D T hI 7 (by omega) _) (mkV hts okX5_count kw_349 kw_350 kw_351 ⟨rfl, rfl, (Nat.le_of_ble_eq_true rfl), (Nat.le_of_ble_eq_true rfl)⟩) (pv_rw hK hPc12 hDc12 hfs12 (q := (RX5, TX5, 5)) rfl rfl) rfl rfl hl7.1 rfl (lv_room (Nat.le_of_ble_eq_true rfl)) dL_law_71 ⟨by show _ ≤ 614934; omega, by show _ ≤ 7256381; omega⟩) hP11 hD11 hS11 hA [] [0] rfl (by decide) (fun r_12 w_12 H13 locs13 hq_12 hP13 hD13 hS13 => ?_)
  clear hP11 hD11 hS11 hPc12 hDc12 hfs12 hI
  obtain ⟨hr_12, hI⟩ := hq_12
  have hr_12 : r_12 = mm 11 := hr_12
  subst hr_12
  have hP13 : va_P D vwCl (fl [w_12]) _ := hP13
  have hD13 : va_D A (fl [w_12]) := hD13
  refine lv_iadd hx hb dL_law_74 ?_
  refine tp_i (y := TT mm) (rfl) ?_
  refine lv_istore (lv' := [(7, .int (TT mm)), (6, .int (mm 9)), (5, .int (nI kp)), (0, .ref b), (1, .ref xa), (2, .int (nI 1)), (3, .int (nI t)), (4, .int (nI k))]) hx hb dL_law_75 hl7 (by decide) rfl (fun ls14 hl14 => ?_)
  clear hl7
  refine lv_aload_n hx hb dL_law_77 rfl (lv_at hl14 4 rfl) ?_
  refine lv_bipush (v := nI 6) hx hb dL_law_78 (by decide) ?_
  obtain ⟨fs15, hfs15⟩ := XINV.recv hI
  have hPc15 : va_P D vwCl (fl [w_12]) _ := flP_sub hP13 [0] rfl
  have hDc15 : va_D A (fl [w_12]) := flD_sub hD13 [0] (by decide) rfl
  refine cl_i (br := []) (va_runV (As := [.int (nI 6)]) (rest := []) ⟨hx, hb, hml, hown, hts⟩ (e_X5_count l D T hI 6 (by omega) _) (mkV hts okX5_count kw_349 kw_350 kw_351 ⟨rfl, rfl, (Nat.le_of_ble_eq_true rfl), (Nat.le_of_ble_eq_true rfl)⟩) (pv_rw hK hPc15 hDc15 hfs15 (q := (RX5, TX5, 5)) rfl rfl) rfl rfl hl14.1 rfl (lv_room (Nat.le_of_ble_eq_true rfl)) dL_law_80 ⟨by show _ ≤ 614934; omega, by show _ ≤ 7256381; omega⟩) hP13 hD13 hS13 hA [] [0] rfl (by decide) (fun r_15 w_15 H16 locs16 hq_15 hP16 hD16 hS16 => ?_)
  clear hP13 hD13 hS13 hPc15 hDc15 hfs15 hI
  obtain ⟨hr_15, hI⟩ := hq_15
  have hr_15 : r_15 = inR mm := hr_15
  subst hr_15
  have hP16 : va_P D vwCl (fl [w_15]) _ := hP16
  have hD16 : va_D A (fl [w_15]) := hD16
  refine lv_istore (lv' := [(8, .int (inR mm)), (7, .int (TT mm)), (6, .int (mm 9)), (5, .int (nI kp)), (0, .ref b), (1, .ref xa), (2, .int (nI 1)), (3, .int (nI t)), (4, .int (nI k))]) hx hb dL_law_83 hl14 (by decide) rfl (fun ls17 hl17 => ?_)
  clear hl14
  refine lv_aload_n hx hb dL_law_85 rfl (lv_at hl17 5 rfl) ?_
  refine lv_iconst (v := nI 4) hx hb dL_law_86 (by decide) ?_
  obtain ⟨fs18, hfs18⟩ := XINV.recv hI
  have hPc18 : va_P D vwCl (fl [w_15]) _ := flP_sub hP16 [0] rfl
  have hDc18 : va_D A (fl [w_15]) := flD_sub hD16 [0] (by decide) rfl
  refine cl_i (br := []) (va_runV (As := [.int (nI 4)]) (rest := []) ⟨hx, hb, hml, hown, hts⟩ (e_X5_count l D T hI 4 (by omega) _) (mkV hts okX5_count kw_349 kw_350 kw_351 ⟨rfl, rfl, (Nat.le_of_ble_eq_true rfl), (Nat.le_of_ble_eq_true rfl)⟩) (pv_rw hK hPc18 hDc18 hfs18 (q := (RX5, TX5, 5)) rfl rfl) rfl rfl hl17.1 rfl (lv_room (Nat.le_of_ble_eq_true rfl)) dL_law_87 ⟨by show _ ≤ 614934; omega, by show _ ≤ 7256381; omega⟩) hP16 hD16 hS16 hA [] [0] rfl (by decide) (fun r_18 w_18 H19 locs19 hq_18 hP19 hD19 hS19 => ?_)
  clear hP16 hD16 hS16 hPc18 hDc18 hfs18 hI
  obtain ⟨hr_18, hI⟩ := hq_18
  have hr_18 : r_18 = sumM mm 4 12 := hr_18
  subst hr_18
  have hP19 : va_P D vwCl (fl [w_18]) _ := hP19
  have hD19 : va_D A (fl [w_18]) := hD19
  refine lv_istore (lv' := [(9, .int (sumM mm 4 12)), (8, .int (inR mm)), (7, .int (TT mm)), (6, .int (mm 9)), (5, .int (nI kp)), (0, .ref b), (1, .ref xa), (2, .int (nI 1)), (3, .int (nI t)), (4, .int (nI k))]) hx hb dL_law_90 hl17 (by decide) rfl (fun ls20 hl20 => ?_)
  clear hl17
  obtain ⟨so, hso⟩ : ∃ so, so = lowN (cellF xs L (3 * k)) 22 := ⟨_, rfl⟩
  obtain ⟨run, hrun⟩ : ∃ run, run = 1 + lowN (cellF xs L (3 * k + 1)) 6 := ⟨_, rfl⟩
  have hso22 : so < 22 := by rw [hso]; exact lowN_lt _ (by omega)
  have hr1 : 1 ≤ run := by omega
  have hr6 : run ≤ 6 := by
    have := lowN_lt (cellF xs L (3 * k + 1)) (show 0 < 6 by omega)
    omega
  refine lv_aload_n hx hb dL_law_92 rfl (lv_at hl20 5 rfl) ?_
  refine lv_iconst (v := nI 3) hx hb dL_law_93 (by decide) ?_
  refine lv_iload hx hb dL_law_94 (lv_at hl20 9 rfl) ?_
  refine lv_imul hx hb dL_law_96 ?_
  refine tp_i (y := nI (3 * k)) (pk_mul _ _) ?_
  refine cr_i (va_runS (As := [.ref b, .int (nI (3 * k))]) (rest := []) ⟨hx, hb, hml, hown, hts⟩ (c_L_cell l D T (b := b) (L := L) (xs := xs) (by omega) (3 * k) (by omega)) (mkS hts okL_cell kw_400 kw_401 ⟨rfl, rfl, (Nat.le_of_ble_eq_true rfl), (Nat.le_of_ble_eq_true rfl)⟩) (ps_oz hK hSC hS19) rfl rfl hl20.1 rfl (lv_room (Nat.le_of_ble_eq_true rfl)) dL_law_97 ⟨by show _ ≤ 614934; omega, by show _ ≤ 7256381; omega⟩) hP19 hS19 (fun r_21 H22 locs22 hq_21 hP22 hS22 => ?_)
  clear hP19 hS19
  have hD22 := hD19
  clear hD19
  have hq_21 : r_21 = cellF xs L (3 * k) := hq_21
  subst hq_21
  refine lv_bipush (v := nI 22) hx hb dL_law_100 (by decide) ?_
  have hPc23 : va_P D vwCl (fl []) _ := hP22.sub [] rfl
  refine cr_i (va_runS (As := [.int (cellF xs L (3 * k)), .int (nI 22)]) (rest := []) ⟨hx, hb, hml, hown, hts⟩ (c_L_low l D T (cellF xs L (3 * k)) 22 (by omega) (by omega)) (mkS hts okL_low kw_396 kw_397 ⟨rfl, rfl, Nat.le_of_ble_eq_true rfl, Nat.le_of_ble_eq_true rfl⟩) (ps_ro hK hPc23) rfl rfl hl20.1 rfl (lv_room (Nat.le_of_ble_eq_true rfl)) dL_law_102 ⟨by show _ ≤ 614934; omega, by show _ ≤ 7256381; omega⟩) hP22 hS22 (fun r_102 H24 locs24 hq_102 hP24 hS24 => ?_)
  clear hP22 hS22 hPc23
  have hD24 := hD22
  clear hD22
  have hq_102 : r_102 = nI (lowN (cellF xs L (3 * k)) 22) := hq_102
  subst hq_102
  refine tp_i (y := nI so) (by rw [hso]) ?_
  refine lv_istore (lv' := [(10, .int (nI so)), (9, .int (sumM mm 4 12)), (8, .int (inR mm)), (7, .int (TT mm)), (6, .int (mm 9)), (5, .int (nI kp)), (0, .ref b), (1, .ref xa), (2, .int (nI 1)), (3, .int (nI t)), (4, .int (nI k))]) hx hb dL_law_105 hl20 (by decide) rfl (fun ls25 hl25 => ?_)
  clear hl20
  refine lv_iconst (v := nI 1) hx hb dL_law_107 (by decide) ?_
  refine lv_aload_n hx hb dL_law_108 rfl (lv_at hl25 6 rfl) ?_
  refine lv_iconst (v := nI 3) hx hb dL_law_109 (by decide) ?_
  refine lv_iload hx hb dL_law_110 (lv_at hl25 10 rfl) ?_
  refine lv_imul hx hb dL_law_112 ?_
  refine tp_i (y := nI (3 * k)) (pk_mul _ _) ?_
  refine lv_iconst (v := nI 1) hx hb dL_law_113 (by decide) ?_
  refine lv_iadd hx hb dL_law_114 ?_
  refine tp_i (y := nI (3 * k + 1)) (nI_add _ _) ?_
  refine cr_i (va_runS (As := [.ref b, .int (nI (3 * k + 1))]) (rest := [.int (nI 1)]) ⟨hx, hb, hml, hown, hts⟩ (c_L_cell l D T (b := b) (L := L) (xs := xs) (by omega) (3 * k + 1) (by omega)) (mkS hts okL_cell kw_400 kw_401 ⟨rfl, rfl, (Nat.le_of_ble_eq_true rfl), (Nat.le_of_ble_eq_true rfl)⟩) (ps_oz hK hSC hS24) rfl rfl hl25.1 rfl (lv_room (Nat.le_of_ble_eq_true rfl)) dL_law_115 ⟨by show _ ≤ 614934; omega, by show _ ≤ 7256381; omega⟩) hP24 hS24 (fun r_26 H27 locs27 hq_26 hP27 hS27 => ?_)
  clear hP24 hS24
  have hD27 := hD24
  clear hD24
  have hq_26 : r_26 = cellF xs L (3 * k + 1) := hq_26
  subst hq_26
  refine lv_bipush (v := nI 6) hx hb dL_law_118 (by decide) ?_
  have hPc28 : va_P D vwCl (fl []) _ := hP27.sub [] rfl
  refine cr_i (va_runS (As := [.int (cellF xs L (3 * k + 1)), .int (nI 6)]) (rest := [.int (nI 1)]) ⟨hx, hb, hml, hown, hts⟩ (c_L_low l D T (cellF xs L (3 * k + 1)) 6 (by omega) (by omega)) (mkS hts okL_low kw_396 kw_397 ⟨rfl, rfl, Nat.le_of_ble_eq_true rfl, Nat.le_of_ble_eq_true rfl⟩) (ps_ro hK hPc28) rfl rfl hl25.1 rfl (lv_room (Nat.le_of_ble_eq_true rfl)) dL_law_120 ⟨by show _ ≤ 614934; omega, by show _ ≤ 7256381; omega⟩) hP27 hS27 (fun r_120 H29 locs29 hq_120 hP29 hS29 => ?_)
  clear hP27 hS27 hPc28
  have hD29 := hD27
  clear hD27
  have hq_120 : r_120 = nI (lowN (cellF xs L (3 * k + 1)) 6) := hq_120
  subst hq_120
  refine lv_iadd hx hb dL_law_123 ?_
  refine tp_i (y := nI (1 + (lowN (cellF xs L (3 * k + 1)) 6))) (nI_add _ _) ?_
  refine tp_i (y := nI run) (by rw [hrun]) ?_
  refine lv_istore (lv' := [(11, .int (nI run)), (10, .int (nI so)), (9, .int (sumM mm 4 12)), (8, .int (inR mm)), (7, .int (TT mm)), (6, .int (mm 9)), (5, .int (nI kp)), (0, .ref b), (1, .ref xa), (2, .int (nI 1)), (3, .int (nI t)), (4, .int (nI k))]) hx hb dL_law_124 hl25 (by decide) rfl (fun ls30 hl30 => ?_)
  clear hl25
  refine lv_aload_n hx hb dL_law_126 rfl (lv_at hl30 8 rfl) ?_
  refine lv_iload hx hb dL_law_127 (lv_at hl30 0 rfl) ?_
  refine lv_iconst (v := nI 0) hx hb dL_law_129 (by decide) ?_
  obtain ⟨fs31, hfs31⟩ := XINV.recv hI
  have hPc31 : va_P D vwCl (fl [w_18]) _ := flP_sub hP29 [0] rfl
  have hDc31 : va_D A (fl [w_18]) := flD_sub hD29 [0] (by decide) rfl
  refine cl_i (br := []) (va_runV (As := [.int (nI run), .int (nI 0)]) (rest := []) ⟨hx, hb, hml, hown, hts⟩ (e_X5_ifPassed l D T hI run 0 (by omega) (by omega) (by omega) _) (mkV hts okX5_ifPassed kw_386 kw_387 kw_388 ⟨rfl, rfl, (Nat.le_of_ble_eq_true rfl), (Nat.le_of_ble_eq_true rfl)⟩) (pv_rw hK hPc31 hDc31 hfs31 (q := (RX5, TX5, 5)) rfl rfl) rfl rfl hl30.1 rfl (lv_room (Nat.le_of_ble_eq_true rfl)) dL_law_130 ⟨by show _ ≤ 614934; omega, by show _ ≤ 7256381; omega⟩) hP29 hD29 hS29 hA [] [0] rfl (by decide) (fun r_31 w_31 H32 locs32 hq_31 hP32 hD32 hS32 => ?_)
  clear hP29 hD29 hS29 hPc31 hDc31 hfs31 hI
  obtain ⟨hr_31, hI⟩ := hq_31
  have hr_31 : r_31 = byP mm mm run 0 := hr_31
  subst hr_31
  have hP32 : va_P D vwCl (fl [w_31]) _ := hP32
  have hD32 : va_D A (fl [w_31]) := hD32
  refine lv_istore (lv' := [(12, .int (byP mm mm run 0)), (11, .int (nI run)), (10, .int (nI so)), (9, .int (sumM mm 4 12)), (8, .int (inR mm)), (7, .int (TT mm)), (6, .int (mm 9)), (5, .int (nI kp)), (0, .ref b), (1, .ref xa), (2, .int (nI 1)), (3, .int (nI t)), (4, .int (nI k))]) hx hb dL_law_133 hl30 (by decide) rfl (fun ls33 hl33 => ?_)
  clear hl30
  refine lv_aload_n hx hb dL_law_135 rfl (lv_at hl33 9 rfl) ?_
  refine lv_iload hx hb dL_law_136 (lv_at hl33 1 rfl) ?_
  refine lv_iconst (v := nI 1) hx hb dL_law_138 (by decide) ?_
  obtain ⟨fs34, hfs34⟩ := XINV.recv hI
  have hPc34 : va_P D vwCl (fl [w_31]) _ := flP_sub hP32 [0] rfl
  have hDc34 : va_D A (fl [w_31]) := flD_sub hD32 [0] (by decide) rfl
  refine cl_i (br := []) (va_runV (As := [.int (nI run), .int (nI 1)]) (rest := []) ⟨hx, hb, hml, hown, hts⟩ (e_X5_ifPassed l D T hI run 1 (by omega) (by omega) (by omega) _) (mkV hts okX5_ifPassed kw_386 kw_387 kw_388 ⟨rfl, rfl, (Nat.le_of_ble_eq_true rfl), (Nat.le_of_ble_eq_true rfl)⟩) (pv_rw hK hPc34 hDc34 hfs34 (q := (RX5, TX5, 5)) rfl rfl) rfl rfl hl33.1 rfl (lv_room (Nat.le_of_ble_eq_true rfl)) dL_law_139 ⟨by show _ ≤ 614934; omega, by show _ ≤ 7256381; omega⟩) hP32 hD32 hS32 hA [] [0] rfl (by decide) (fun r_34 w_34 H35 locs35 hq_34 hP35 hD35 hS35 => ?_)
  clear hP32 hD32 hS32 hPc34 hDc34 hfs34 hI
  obtain ⟨hr_34, hI⟩ := hq_34
  have hr_34 : r_34 = byP mm mm run 1 := hr_34
  subst hr_34
  have hP35 : va_P D vwCl (fl [w_34]) _ := hP35
  have hD35 : va_D A (fl [w_34]) := hD35
  refine lv_istore (lv' := [(13, .int (byP mm mm run 1)), (12, .int (byP mm mm run 0)), (11, .int (nI run)), (10, .int (nI so)), (9, .int (sumM mm 4 12)), (8, .int (inR mm)), (7, .int (TT mm)), (6, .int (mm 9)), (5, .int (nI kp)), (0, .ref b), (1, .ref xa), (2, .int (nI 1)), (3, .int (nI t)), (4, .int (nI k))]) hx hb dL_law_142 hl33 (by decide) rfl (fun ls36 hl36 => ?_)
  clear hl33
  refine lv_aload_n hx hb dL_law_144 rfl (lv_at hl36 10 rfl) ?_
  refine lv_iload hx hb dL_law_145 (lv_at hl36 2 rfl) ?_
  refine lv_iconst (v := nI 3) hx hb dL_law_147 (by decide) ?_
  obtain ⟨fs37, hfs37⟩ := XINV.recv hI
  have hPc37 : va_P D vwCl (fl [w_34]) _ := flP_sub hP35 [0] rfl
  have hDc37 : va_D A (fl [w_34]) := flD_sub hD35 [0] (by decide) rfl
  refine cl_i (br := []) (va_runV (As := [.int (nI run), .int (nI 3)]) (rest := []) ⟨hx, hb, hml, hown, hts⟩ (e_X5_ifPassed l D T hI run 3 (by omega) (by omega) (by omega) _) (mkV hts okX5_ifPassed kw_386 kw_387 kw_388 ⟨rfl, rfl, (Nat.le_of_ble_eq_true rfl), (Nat.le_of_ble_eq_true rfl)⟩) (pv_rw hK hPc37 hDc37 hfs37 (q := (RX5, TX5, 5)) rfl rfl) rfl rfl hl36.1 rfl (lv_room (Nat.le_of_ble_eq_true rfl)) dL_law_148 ⟨by show _ ≤ 614934; omega, by show _ ≤ 7256381; omega⟩) hP35 hD35 hS35 hA [] [0] rfl (by decide) (fun r_37 w_37 H38 locs38 hq_37 hP38 hD38 hS38 => ?_)
  clear hP35 hD35 hS35 hPc37 hDc37 hfs37 hI
  obtain ⟨hr_37, hI⟩ := hq_37
  have hr_37 : r_37 = byP mm mm run 3 := hr_37
  subst hr_37
  have hP38 : va_P D vwCl (fl [w_37]) _ := hP38
  have hD38 : va_D A (fl [w_37]) := hD38
  refine lv_istore (lv' := [(14, .int (byP mm mm run 3)), (13, .int (byP mm mm run 1)), (12, .int (byP mm mm run 0)), (11, .int (nI run)), (10, .int (nI so)), (9, .int (sumM mm 4 12)), (8, .int (inR mm)), (7, .int (TT mm)), (6, .int (mm 9)), (5, .int (nI kp)), (0, .ref b), (1, .ref xa), (2, .int (nI 1)), (3, .int (nI t)), (4, .int (nI k))]) hx hb dL_law_151 hl36 (by decide) rfl (fun ls39 hl39 => ?_)
  clear hl36
  refine lv_aload_n hx hb dL_law_153 rfl (lv_at hl39 11 rfl) ?_
  refine lv_aload_n hx hb dL_law_154 rfl (lv_at hl39 10 rfl) ?_
  refine lv_iconst (v := nI 3) hx hb dL_law_155 (by decide) ?_
  refine lv_iload hx hb dL_law_156 (lv_at hl39 14 rfl) ?_
  refine lv_imul hx hb dL_law_158 ?_
  refine tp_i (y := nI (3 * k)) (pk_mul _ _) ?_
  have hPc40 : va_P D vwCl (fl [w_37]) _ := flP_sub hP38 [0] rfl
  have hDc40 : va_D A (fl [w_37]) := flD_sub hD38 [0] (by decide) rfl
  refine clx_i (br := []) (vx_runS (As := [.ref xa, .ref b, .int (nI (3 * k))]) (rest := []) ⟨hx, hb, hml, hown, hts⟩ (c_L_act l D T hl xa b L xs w_37 mm past kp (3 * k) hI (by omega) (by omega) _) (mkS hts okL_act kw_436 kw_437 ⟨rfl, rfl, (Nat.le_of_ble_eq_true rfl), (Nat.le_of_ble_eq_true rfl)⟩) (ps_z hK hST hSC hS38 hPc40 hDc40 (vA_c (br := []) hP38 hD38 hS38 hA (isR := []) (isC := [0]) rfl (by decide))) rfl rfl hl39.1 rfl (lv_room (Nat.le_of_ble_eq_true rfl)) dL_law_159 ⟨by show _ ≤ 614934; omega, by show _ ≤ 7256381; omega⟩) hP38 hD38 hS38 hA [] [0] rfl (by decide) (fun E ce q9 _ux Hx lx hqx hPx hDx hSx h1 h2 h3 => absurd hqx (by simp)) (fun r_40 w_40 H41 locs41 hq_40 hP41 hD41 hS41 => ?_)
  clear hP38 hD38 hS38 hPc40 hDc40 hI
  obtain ⟨hr, hI⟩ := hq_40
  have hr : r_40 = (actF (lowN (cellF xs L (3 * k)) 22) (cellF xs L (3 * k + 1)) (cellF xs L (3 * k + 2)) mm past kp).1 := hr
  have hI : XN T xa w_40 (actF (lowN (cellF xs L (3 * k)) 22) (cellF xs L (3 * k + 1)) (cellF xs L (3 * k + 2)) mm past kp).2.2.1 (actF (lowN (cellF xs L (3 * k)) 22) (cellF xs L (3 * k + 1)) (cellF xs L (3 * k + 2)) mm past kp).2.2.2.1 (actF (lowN (cellF xs L (3 * k)) 22) (cellF xs L (3 * k + 1)) (cellF xs L (3 * k + 2)) mm past kp).2.2.2.2 := hI
  have hAC := act_ok hG hokS hkp6 (by omega) (lowN (cellF xs L (3 * k)) 22) (cellF xs L (3 * k + 1)) (cellF xs L (3 * k + 2))
  have hPF := act_pf (a := cellF xs L (3 * k + 1)) (b := cellF xs L (3 * k + 2)) (mm := mm) (past := past) (kp := kp) hso hrun
  generalize actF (lowN (cellF xs L (3 * k)) 22) (cellF xs L (3 * k + 1)) (cellF xs L (3 * k + 2)) mm past kp = P at hr hI hAC hPF
  obtain ⟨ans, th, m2, past2, kp2⟩ := P
  dsimp only at hr hI hPF
  subst hr
  have hAC1 : RGB m2 past2 kp2 (6 * k + 6) := hAC.1
  have hAC2 : r_40 = -30 → (m2, past2, kp2) = (mm, past, kp) := hAC.2
  clear hAC
  obtain ⟨hokS2, hkp62, -⟩ := XINV.okS hI
  obtain ⟨h2, hh2, hR2⟩ := id hAC1.1
  have hP41 : va_P D vwCl (fl [w_40]) _ := hP41
  have hD41 : va_D A (fl [w_40]) := hD41
  refine lv_istore (lv' := [(15, .int r_40), (14, .int (byP mm mm run 3)), (13, .int (byP mm mm run 1)), (12, .int (byP mm mm run 0)), (11, .int (nI run)), (10, .int (nI so)), (9, .int (sumM mm 4 12)), (8, .int (inR mm)), (7, .int (TT mm)), (6, .int (mm 9)), (5, .int (nI kp)), (0, .ref b), (1, .ref xa), (2, .int (nI 1)), (3, .int (nI t)), (4, .int (nI k))]) hx hb dL_law_162 hl39 (by decide) rfl (fun ls42 hl42 => ?_)
  clear hl39
  refine lv_iload hx hb dL_law_164 (lv_at hl42 0 rfl) ?_
  refine lv_bipush (v := (-30)) hx hb dL_law_166 (by decide) ?_
  refine lv_icmp_ne (tgt := 203) hx hb dL_law_168 (by decide) (fun c_168 => ?_) (fun c_168 => ?_)
  · skip
    refine lv_iconst (v := nI 1) hx hb dL_law_203 (by decide) ?_
    refine lv_goto (tgt := 208) hx hb dL_law_204 (by decide) ?_
    refine lv_istore_n (lv' := [(2, .int (nI 1)), (15, .int r_40), (14, .int (byP mm mm run 3)), (13, .int (byP mm mm run 1)), (12, .int (byP mm mm run 0)), (11, .int (nI run)), (10, .int (nI so)), (9, .int (sumM mm 4 12)), (8, .int (inR mm)), (7, .int (TT mm)), (6, .int (mm 9)), (5, .int (nI kp)), (0, .ref b), (1, .ref xa), (3, .int (nI t)), (4, .int (nI k))]) hx hb dL_law_208 rfl hl42 (by decide) rfl (fun ls44 hl44 => ?_)
    clear hl42
    refine lv_iload_n hx hb dL_law_209 rfl (lv_at hl44 0 rfl) ?_
    refine n_if_eq (tgt := 317) hx hb (by omega) dL_law_210 (by decide) (fun c45 => absurd c45 (by decide)) (fun c45 => ?_)
    refine lv_iload hx hb dL_law_213 (lv_at hl44 6 rfl) ?_
    refine lv_bipush (v := nI 17) hx hb dL_law_215 (by decide) ?_
    refine n_icmp_lt (tgt := 306) hx hb (by omega) (by omega) dL_law_217 (by decide) (fun c_217 => ?_) (fun c_217 => ?_)
    · skip
      refine lv_aload_n hx hb dL_law_306 rfl (lv_at hl44 13 rfl) ?_
      have hPc47 : va_P D vwCl (fl [w_40]) _ := flP_sub hP41 [0] rfl
      have hDc47 : va_D A (fl [w_40]) := flD_sub hD41 [0] (by decide) rfl
      refine cl_i (br := []) (va_runS (As := [.ref xa]) (rest := []) ⟨hx, hb, hml, hown, hts⟩ (c_L_town l D T xa w_40 m2 past2 kp2 h2 hI hR2 (by omega) _) (mkS hts okL_town kw_404 kw_405 ⟨rfl, rfl, (Nat.le_of_ble_eq_true rfl), (Nat.le_of_ble_eq_true rfl)⟩) (ps_rw hK hPc47 hDc47) rfl rfl hl44.1 rfl (lv_room (Nat.le_of_ble_eq_true rfl)) dL_law_307 ⟨by show _ ≤ 614934; omega, by show _ ≤ 7256381; omega⟩) hP41 hD41 hS41 hA [] [0] rfl (by decide) (fun r_47 w_47 H48 locs48 hq_47 hP48 hD48 hS48 => ?_)
      clear hP41 hD41 hS41 hPc47 hDc47 hI
      obtain ⟨hr, hI⟩ := hq_47
      have hr : r_47 = nI 1 := hr
      subst hr
      have hP48 : va_P D vwCl (fl [w_47]) _ := hP48
      have hD48 : va_D A (fl [w_47]) := hD48
      refine n_if_eq (tgt := 317) hx hb (by omega) dL_law_310 (by decide) (fun c49 => absurd c49 (by decide)) (fun c49 => ?_)
      refine lv_iconst (v := nI 1) hx hb dL_law_313 (by decide) ?_
      refine lv_goto (tgt := 318) hx hb dL_law_314 (by decide) ?_
      refine lv_istore_n (lv' := [(2, .int (nI 1)), (15, .int r_40), (14, .int (byP mm mm run 3)), (13, .int (byP mm mm run 1)), (12, .int (byP mm mm run 0)), (11, .int (nI run)), (10, .int (nI so)), (9, .int (sumM mm 4 12)), (8, .int (inR mm)), (7, .int (TT mm)), (6, .int (mm 9)), (5, .int (nI kp)), (0, .ref b), (1, .ref xa), (3, .int (nI t)), (4, .int (nI k))]) hx hb dL_law_318 rfl hl44 (by decide) rfl (fun ls50 hl50 => ?_)
      clear hl44
      refine lv_iinc (v := nI (k + 1)) (lv' := [(4, .int (nI (k + 1))), (2, .int (nI 1)), (15, .int r_40), (14, .int (byP mm mm run 3)), (13, .int (byP mm mm run 1)), (12, .int (byP mm mm run 0)), (11, .int (nI run)), (10, .int (nI so)), (9, .int (sumM mm 4 12)), (8, .int (inR mm)), (7, .int (TT mm)), (6, .int (mm 9)), (5, .int (nI kp)), (0, .ref b), (1, .ref xa), (3, .int (nI t))]) hx hb dL_law_319 hl50 (k := 15) rfl (nI_add k 1) (by decide) rfl (fun ls51 hl51 => ?_)
      clear hl50
      refine lv_goto (tgt := 32) hx hb dL_law_322 (by decide) ?_
      refine W.widen (k := 160 + 3 * (k + 1)) (n := 2200 + 18 * (k + 1)) (by omega) (by omega) ?_
      exact KK w_47 m2 past2 kp2 hI (by rw [show 6 * (k + 1) = 6 * k + 6 by omega]; exact hAC1) _ _ hP48 hD48 hS48 _ (lv_sub hl51 [13, 14, 1, 15, 0] rfl)
    · skip
      refine lv_iload hx hb dL_law_220 (lv_at hl44 6 rfl) ?_
      refine lv_bipush (v := nI 20) hx hb dL_law_222 (by decide) ?_
      refine n_icmp_gt (tgt := 306) hx hb (by omega) (by omega) dL_law_224 (by decide) (fun c_224 => ?_) (fun c_224 => ?_)
      · skip
        refine lv_aload_n hx hb dL_law_306 rfl (lv_at hl44 13 rfl) ?_
        have hPc53 : va_P D vwCl (fl [w_40]) _ := flP_sub hP41 [0] rfl
        have hDc53 : va_D A (fl [w_40]) := flD_sub hD41 [0] (by decide) rfl
        refine cl_i (br := []) (va_runS (As := [.ref xa]) (rest := []) ⟨hx, hb, hml, hown, hts⟩ (c_L_town l D T xa w_40 m2 past2 kp2 h2 hI hR2 (by omega) _) (mkS hts okL_town kw_404 kw_405 ⟨rfl, rfl, (Nat.le_of_ble_eq_true rfl), (Nat.le_of_ble_eq_true rfl)⟩) (ps_rw hK hPc53 hDc53) rfl rfl hl44.1 rfl (lv_room (Nat.le_of_ble_eq_true rfl)) dL_law_307 ⟨by show _ ≤ 614934; omega, by show _ ≤ 7256381; omega⟩) hP41 hD41 hS41 hA [] [0] rfl (by decide) (fun r_53 w_53 H54 locs54 hq_53 hP54 hD54 hS54 => ?_)
        clear hP41 hD41 hS41 hPc53 hDc53 hI
        obtain ⟨hr, hI⟩ := hq_53
        have hr : r_53 = nI 1 := hr
        subst hr
        have hP54 : va_P D vwCl (fl [w_53]) _ := hP54
        have hD54 : va_D A (fl [w_53]) := hD54
        refine n_if_eq (tgt := 317) hx hb (by omega) dL_law_310 (by decide) (fun c55 => absurd c55 (by decide)) (fun c55 => ?_)
        refine lv_iconst (v := nI 1) hx hb dL_law_313 (by decide) ?_
        refine lv_goto (tgt := 318) hx hb dL_law_314 (by decide) ?_
        refine lv_istore_n (lv' := [(2, .int (nI 1)), (15, .int r_40), (14, .int (byP mm mm run 3)), (13, .int (byP mm mm run 1)), (12, .int (byP mm mm run 0)), (11, .int (nI run)), (10, .int (nI so)), (9, .int (sumM mm 4 12)), (8, .int (inR mm)), (7, .int (TT mm)), (6, .int (mm 9)), (5, .int (nI kp)), (0, .ref b), (1, .ref xa), (3, .int (nI t)), (4, .int (nI k))]) hx hb dL_law_318 rfl hl44 (by decide) rfl (fun ls56 hl56 => ?_)
        clear hl44
        refine lv_iinc (v := nI (k + 1)) (lv' := [(4, .int (nI (k + 1))), (2, .int (nI 1)), (15, .int r_40), (14, .int (byP mm mm run 3)), (13, .int (byP mm mm run 1)), (12, .int (byP mm mm run 0)), (11, .int (nI run)), (10, .int (nI so)), (9, .int (sumM mm 4 12)), (8, .int (inR mm)), (7, .int (TT mm)), (6, .int (mm 9)), (5, .int (nI kp)), (0, .ref b), (1, .ref xa), (3, .int (nI t))]) hx hb dL_law_319 hl56 (k := 15) rfl (nI_add k 1) (by decide) rfl (fun ls57 hl57 => ?_)
        clear hl56
        refine lv_goto (tgt := 32) hx hb dL_law_322 (by decide) ?_
        refine W.widen (k := 160 + 3 * (k + 1)) (n := 2200 + 18 * (k + 1)) (by omega) (by omega) ?_
        exact KK w_53 m2 past2 kp2 hI (by rw [show 6 * (k + 1) = 6 * k + 6 by omega]; exact hAC1) _ _ hP54 hD54 hS54 _ (lv_sub hl57 [13, 14, 1, 15, 0] rfl)
      · skip
        obtain ⟨hp1, hp2⟩ := hPF (by omega) (by omega)
        refine lv_iload hx hb dL_law_227 (lv_at hl44 1 rfl) ?_
        refine lv_iload hx hb dL_law_229 (lv_at hl44 4 rfl) ?_
        refine lv_icmp_ne (tgt := 317) hx hb dL_law_231 (by decide) (fun c58 => absurd c58 (fun q => q hp1)) (fun c58 => ?_)
        refine lv_aload_n hx hb dL_law_234 rfl (lv_at hl44 13 rfl) ?_
        refine lv_iconst (v := nI 0) hx hb dL_law_235 (by decide) ?_
        obtain ⟨fs59, hfs59⟩ := XINV.recv hI
        have hPc59 : va_P D vwCl (fl [w_40]) _ := flP_sub hP41 [0] rfl
        have hDc59 : va_D A (fl [w_40]) := flD_sub hD41 [0] (by decide) rfl
        refine cl_i (br := []) (va_runV (As := [.int (nI 0)]) (rest := []) ⟨hx, hb, hml, hown, hts⟩ (e_X5_count l D T hI 0 (by omega) _) (mkV hts okX5_count kw_349 kw_350 kw_351 ⟨rfl, rfl, (Nat.le_of_ble_eq_true rfl), (Nat.le_of_ble_eq_true rfl)⟩) (pv_rw hK hPc59 hDc59 hfs59 (q := (RX5, TX5, 5)) rfl rfl) rfl rfl hl44.1 rfl (lv_room (Nat.le_of_ble_eq_true rfl)) dL_law_236 ⟨by show _ ≤ 614934; omega, by show _ ≤ 7256381; omega⟩) hP41 hD41 hS41 hA [] [0] rfl (by decide) (fun r_59 w_59 H60 locs60 hq_59 hP60 hD60 hS60 => ?_)
        clear hP41 hD41 hS41 hPc59 hDc59 hfs59 hI
        obtain ⟨hr_59, hI⟩ := hq_59
        have hr_59 : r_59 = m2 9 := hr_59
        subst hr_59
        have hP60 : va_P D vwCl (fl [w_59]) _ := hP60
        have hD60 : va_D A (fl [w_59]) := hD60
        refine lv_iload hx hb dL_law_239 (lv_at hl44 10 rfl) ?_
        refine lv_iload hx hb dL_law_241 (lv_at hl44 5 rfl) ?_
        refine lv_iadd hx hb dL_law_243 ?_
        refine lv_icmp_ne (tgt := 317) hx hb dL_law_244 (by decide) (fun c61 => absurd c61 (fun q => q (by rw [hp2]; exact pass_hours hRm (by omega)))) (fun c61 => ?_)
        refine lv_aload_n hx hb dL_law_247 rfl (lv_at hl44 13 rfl) ?_
        refine lv_iconst (v := nI 4) hx hb dL_law_248 (by decide) ?_
        obtain ⟨fs62, hfs62⟩ := XINV.recv hI
        have hPc62 : va_P D vwCl (fl [w_59]) _ := flP_sub hP60 [0] rfl
        have hDc62 : va_D A (fl [w_59]) := flD_sub hD60 [0] (by decide) rfl
        refine cl_i (br := []) (va_runV (As := [.int (nI 4)]) (rest := []) ⟨hx, hb, hml, hown, hts⟩ (e_X5_count l D T hI 4 (by omega) _) (mkV hts okX5_count kw_349 kw_350 kw_351 ⟨rfl, rfl, (Nat.le_of_ble_eq_true rfl), (Nat.le_of_ble_eq_true rfl)⟩) (pv_rw hK hPc62 hDc62 hfs62 (q := (RX5, TX5, 5)) rfl rfl) rfl rfl hl44.1 rfl (lv_room (Nat.le_of_ble_eq_true rfl)) dL_law_249 ⟨by show _ ≤ 614934; omega, by show _ ≤ 7256381; omega⟩) hP60 hD60 hS60 hA [] [0] rfl (by decide) (fun r_62 w_62 H63 locs63 hq_62 hP63 hD63 hS63 => ?_)
        clear hP60 hD60 hS60 hPc62 hDc62 hfs62 hI
        obtain ⟨hr_62, hI⟩ := hq_62
        have hr_62 : r_62 = sumM m2 4 12 := hr_62
        subst hr_62
        have hP63 : va_P D vwCl (fl [w_62]) _ := hP63
        have hD63 : va_D A (fl [w_62]) := hD63
        refine lv_iload hx hb dL_law_252 (lv_at hl44 7 rfl) ?_
        refine lv_iload hx hb dL_law_254 (lv_at hl44 3 rfl) ?_
        refine lv_iadd hx hb dL_law_256 ?_
        refine lv_icmp_ne (tgt := 317) hx hb dL_law_257 (by decide) (fun c64 => absurd c64 (fun q => q (by rw [hp2]; exact (i32_add_sub _ _).symm))) (fun c64 => ?_)
        refine lv_aload_n hx hb dL_law_260 rfl (lv_at hl44 13 rfl) ?_
        refine lv_bipush (v := nI 6) hx hb dL_law_261 (by decide) ?_
        obtain ⟨fs65, hfs65⟩ := XINV.recv hI
        have hPc65 : va_P D vwCl (fl [w_62]) _ := flP_sub hP63 [0] rfl
        have hDc65 : va_D A (fl [w_62]) := flD_sub hD63 [0] (by decide) rfl
        refine cl_i (br := []) (va_runV (As := [.int (nI 6)]) (rest := []) ⟨hx, hb, hml, hown, hts⟩ (e_X5_count l D T hI 6 (by omega) _) (mkV hts okX5_count kw_349 kw_350 kw_351 ⟨rfl, rfl, (Nat.le_of_ble_eq_true rfl), (Nat.le_of_ble_eq_true rfl)⟩) (pv_rw hK hPc65 hDc65 hfs65 (q := (RX5, TX5, 5)) rfl rfl) rfl rfl hl44.1 rfl (lv_room (Nat.le_of_ble_eq_true rfl)) dL_law_263 ⟨by show _ ≤ 614934; omega, by show _ ≤ 7256381; omega⟩) hP63 hD63 hS63 hA [] [0] rfl (by decide) (fun r_65 w_65 H66 locs66 hq_65 hP66 hD66 hS66 => ?_)
        clear hP63 hD63 hS63 hPc65 hDc65 hfs65 hI
        obtain ⟨hr_65, hI⟩ := hq_65
        have hr_65 : r_65 = inR m2 := hr_65
        subst hr_65
        have hP66 : va_P D vwCl (fl [w_65]) _ := hP66
        have hD66 : va_D A (fl [w_65]) := hD66
        refine lv_iload hx hb dL_law_266 (lv_at hl44 2 rfl) ?_
        refine lv_icmp_ne (tgt := 317) hx hb dL_law_268 (by decide) (fun c67 => absurd c67 (fun q => q (by rw [hp2]; rfl))) (fun c67 => ?_)
        refine lv_aload_n hx hb dL_law_271 rfl (lv_at hl44 13 rfl) ?_
        refine lv_iconst (v := nI 1) hx hb dL_law_272 (by decide) ?_
        obtain ⟨fs68, hfs68⟩ := XINV.recv hI
        have hPc68 : va_P D vwCl (fl [w_65]) _ := flP_sub hP66 [0] rfl
        have hDc68 : va_D A (fl [w_65]) := flD_sub hD66 [0] (by decide) rfl
        refine cl_i (br := []) (va_runV (As := [.int (nI 1)]) (rest := []) ⟨hx, hb, hml, hown, hts⟩ (e_X5_count l D T hI 1 (by omega) _) (mkV hts okX5_count kw_349 kw_350 kw_351 ⟨rfl, rfl, (Nat.le_of_ble_eq_true rfl), (Nat.le_of_ble_eq_true rfl)⟩) (pv_rw hK hPc68 hDc68 hfs68 (q := (RX5, TX5, 5)) rfl rfl) rfl rfl hl44.1 rfl (lv_room (Nat.le_of_ble_eq_true rfl)) dL_law_273 ⟨by show _ ≤ 614934; omega, by show _ ≤ 7256381; omega⟩) hP66 hD66 hS66 hA [] [0] rfl (by decide) (fun r_68 w_68 H69 locs69 hq_68 hP69 hD69 hS69 => ?_)
        clear hP66 hD66 hS66 hPc68 hDc68 hfs68 hI
        obtain ⟨hr_68, hI⟩ := hq_68
        have hr_68 : r_68 = sumM m2 0 12 := hr_68
        subst hr_68
        have hP69 : va_P D vwCl (fl [w_68]) _ := hP69
        have hD69 : va_D A (fl [w_68]) := hD69
        refine lv_aload_n hx hb dL_law_276 rfl (lv_at hl44 13 rfl) ?_
        refine lv_iconst (v := nI 4) hx hb dL_law_277 (by decide) ?_
        obtain ⟨fs70, hfs70⟩ := XINV.recv hI
        have hPc70 : va_P D vwCl (fl [w_68]) _ := flP_sub hP69 [0] rfl
        have hDc70 : va_D A (fl [w_68]) := flD_sub hD69 [0] (by decide) rfl
        refine cl_i (br := []) (va_runV (As := [.int (nI 4)]) (rest := [.int (sumM m2 0 12)]) ⟨hx, hb, hml, hown, hts⟩ (e_X5_count l D T hI 4 (by omega) _) (mkV hts okX5_count kw_349 kw_350 kw_351 ⟨rfl, rfl, (Nat.le_of_ble_eq_true rfl), (Nat.le_of_ble_eq_true rfl)⟩) (pv_rw hK hPc70 hDc70 hfs70 (q := (RX5, TX5, 5)) rfl rfl) rfl rfl hl44.1 rfl (lv_room (Nat.le_of_ble_eq_true rfl)) dL_law_278 ⟨by show _ ≤ 614934; omega, by show _ ≤ 7256381; omega⟩) hP69 hD69 hS69 hA [] [0] rfl (by decide) (fun r_70 w_70 H71 locs71 hq_70 hP71 hD71 hS71 => ?_)
        clear hP69 hD69 hS69 hPc70 hDc70 hfs70 hI
        obtain ⟨hr_70, hI⟩ := hq_70
        have hr_70 : r_70 = sumM m2 4 12 := hr_70
        subst hr_70
        have hP71 : va_P D vwCl (fl [w_70]) _ := hP71
        have hD71 : va_D A (fl [w_70]) := hD71
        refine lv_iadd hx hb dL_law_281 ?_
        refine lv_aload_n hx hb dL_law_282 rfl (lv_at hl44 13 rfl) ?_
        refine lv_bipush (v := nI 7) hx hb dL_law_283 (by decide) ?_
        obtain ⟨fs72, hfs72⟩ := XINV.recv hI
        have hPc72 : va_P D vwCl (fl [w_70]) _ := flP_sub hP71 [0] rfl
        have hDc72 : va_D A (fl [w_70]) := flD_sub hD71 [0] (by decide) rfl
        refine cl_i (br := []) (va_runV (As := [.int (nI 7)]) (rest := [.int ((sumM m2 0 12) + (sumM m2 4 12))]) ⟨hx, hb, hml, hown, hts⟩ (e_X5_count l D T hI 7 (by omega) _) (mkV hts okX5_count kw_349 kw_350 kw_351 ⟨rfl, rfl, (Nat.le_of_ble_eq_true rfl), (Nat.le_of_ble_eq_true rfl)⟩) (pv_rw hK hPc72 hDc72 hfs72 (q := (RX5, TX5, 5)) rfl rfl) rfl rfl hl44.1 rfl (lv_room (Nat.le_of_ble_eq_true rfl)) dL_law_285 ⟨by show _ ≤ 614934; omega, by show _ ≤ 7256381; omega⟩) hP71 hD71 hS71 hA [] [0] rfl (by decide) (fun r_72 w_72 H73 locs73 hq_72 hP73 hD73 hS73 => ?_)
        clear hP71 hD71 hS71 hPc72 hDc72 hfs72 hI
        obtain ⟨hr_72, hI⟩ := hq_72
        have hr_72 : r_72 = m2 11 := hr_72
        subst hr_72
        have hP73 : va_P D vwCl (fl [w_72]) _ := hP73
        have hD73 : va_D A (fl [w_72]) := hD73
        refine lv_iadd hx hb dL_law_288 ?_
        refine tp_i (y := TT m2) (rfl) ?_
        refine lv_iload hx hb dL_law_289 (lv_at hl44 9 rfl) ?_
        refine lv_bipush (v := nI 12) hx hb dL_law_291 (by decide) ?_
        refine lv_iload hx hb dL_law_293 (lv_at hl44 5 rfl) ?_
        refine lv_imul hx hb dL_law_295 ?_
        refine tp_i (y := nI (12 * run)) (pk_mul _ _) ?_
        refine lv_aload_n hx hb dL_law_296 rfl (lv_at hl44 13 rfl) ?_
        refine lv_iconst (v := nI 3) hx hb dL_law_297 (by decide) ?_
        obtain ⟨fs74, hfs74⟩ := XINV.recv hI
        have hPc74 : va_P D vwCl (fl [w_72]) _ := flP_sub hP73 [0] rfl
        have hDc74 : va_D A (fl [w_72]) := flD_sub hD73 [0] (by decide) rfl
        refine cl_i (br := []) (va_runV (As := [.int (nI 3)]) (rest := [.int (nI (12 * run)), .int (TT mm), .int (TT m2)]) ⟨hx, hb, hml, hown, hts⟩ (e_X5_setting l D T hI 3 (by omega) _) (mkV hts okX5_setting kw_363 kw_364 kw_365 ⟨rfl, rfl, (Nat.le_of_ble_eq_true rfl), (Nat.le_of_ble_eq_true rfl)⟩) (pv_rw hK hPc74 hDc74 hfs74 (q := (RX5, TX5, 5)) rfl rfl) rfl rfl hl44.1 rfl (lv_room (Nat.le_of_ble_eq_true rfl)) dL_law_298 ⟨by show _ ≤ 614934; omega, by show _ ≤ 7256381; omega⟩) hP73 hD73 hS73 hA [] [0] rfl (by decide) (fun r_74 w_74 H75 locs75 hq_74 hP75 hD75 hS75 => ?_)
        clear hP73 hD73 hS73 hPc74 hDc74 hfs74 hI
        obtain ⟨hr_74, hI⟩ := hq_74
        have hr_74 : r_74 = m2 3 := hr_74
        subst hr_74
        have hP75 : va_P D vwCl (fl [w_74]) _ := hP75
        have hD75 : va_D A (fl [w_74]) := hD75
        refine lv_imul hx hb dL_law_301 ?_
        refine lv_iadd hx hb dL_law_302 ?_
        refine lv_icmp_ne (tgt := 317) hx hb dL_law_303 (by decide) (fun c76 => absurd c76 (fun q => q (by rw [hp2, TT_hourN, hourN_lo _ (by omega)]))) (fun c76 => ?_)
        refine lv_aload_n hx hb dL_law_306 rfl (lv_at hl44 13 rfl) ?_
        have hPc77 : va_P D vwCl (fl [w_74]) _ := flP_sub hP75 [0] rfl
        have hDc77 : va_D A (fl [w_74]) := flD_sub hD75 [0] (by decide) rfl
        refine cl_i (br := []) (va_runS (As := [.ref xa]) (rest := []) ⟨hx, hb, hml, hown, hts⟩ (c_L_town l D T xa w_74 m2 past2 kp2 h2 hI hR2 (by omega) _) (mkS hts okL_town kw_404 kw_405 ⟨rfl, rfl, (Nat.le_of_ble_eq_true rfl), (Nat.le_of_ble_eq_true rfl)⟩) (ps_rw hK hPc77 hDc77) rfl rfl hl44.1 rfl (lv_room (Nat.le_of_ble_eq_true rfl)) dL_law_307 ⟨by show _ ≤ 614934; omega, by show _ ≤ 7256381; omega⟩) hP75 hD75 hS75 hA [] [0] rfl (by decide) (fun r_77 w_77 H78 locs78 hq_77 hP78 hD78 hS78 => ?_)
        clear hP75 hD75 hS75 hPc77 hDc77 hI
        obtain ⟨hr, hI⟩ := hq_77
        have hr : r_77 = nI 1 := hr
        subst hr
        have hP78 : va_P D vwCl (fl [w_77]) _ := hP78
        have hD78 : va_D A (fl [w_77]) := hD78
        refine n_if_eq (tgt := 317) hx hb (by omega) dL_law_310 (by decide) (fun c79 => absurd c79 (by decide)) (fun c79 => ?_)
        refine lv_iconst (v := nI 1) hx hb dL_law_313 (by decide) ?_
        refine lv_goto (tgt := 318) hx hb dL_law_314 (by decide) ?_
        refine lv_istore_n (lv' := [(2, .int (nI 1)), (15, .int r_40), (14, .int (byP mm mm run 3)), (13, .int (byP mm mm run 1)), (12, .int (byP mm mm run 0)), (11, .int (nI run)), (10, .int (nI so)), (9, .int (sumM mm 4 12)), (8, .int (inR mm)), (7, .int (TT mm)), (6, .int (mm 9)), (5, .int (nI kp)), (0, .ref b), (1, .ref xa), (3, .int (nI t)), (4, .int (nI k))]) hx hb dL_law_318 rfl hl44 (by decide) rfl (fun ls80 hl80 => ?_)
        clear hl44
        refine lv_iinc (v := nI (k + 1)) (lv' := [(4, .int (nI (k + 1))), (2, .int (nI 1)), (15, .int r_40), (14, .int (byP mm mm run 3)), (13, .int (byP mm mm run 1)), (12, .int (byP mm mm run 0)), (11, .int (nI run)), (10, .int (nI so)), (9, .int (sumM mm 4 12)), (8, .int (inR mm)), (7, .int (TT mm)), (6, .int (mm 9)), (5, .int (nI kp)), (0, .ref b), (1, .ref xa), (3, .int (nI t))]) hx hb dL_law_319 hl80 (k := 15) rfl (nI_add k 1) (by decide) rfl (fun ls81 hl81 => ?_)
        clear hl80
        refine lv_goto (tgt := 32) hx hb dL_law_322 (by decide) ?_
        refine W.widen (k := 160 + 3 * (k + 1)) (n := 2200 + 18 * (k + 1)) (by omega) (by omega) ?_
        exact KK w_77 m2 past2 kp2 hI (by rw [show 6 * (k + 1) = 6 * k + 6 by omega]; exact hAC1) _ _ hP78 hD78 hS78 _ (lv_sub hl81 [13, 14, 1, 15, 0] rfl)
  · skip
    have hE := hAC2 c_168
    have e1 : m2 = mm := congrArg Prod.fst hE
    have e2 : kp2 = kp := congrArg (fun q => q.2.2) hE
    refine lv_aload_n hx hb dL_law_171 rfl (lv_at hl42 12 rfl) ?_
    refine lv_bipush (v := nI 8) hx hb dL_law_172 (by decide) ?_
    obtain ⟨fs82, hfs82⟩ := XINV.recv hI
    have hPc82 : va_P D vwCl (fl [w_40]) _ := flP_sub hP41 [0] rfl
    have hDc82 : va_D A (fl [w_40]) := flD_sub hD41 [0] (by decide) rfl
    refine cl_i (br := []) (va_runV (As := [.int (nI 8)]) (rest := []) ⟨hx, hb, hml, hown, hts⟩ (e_X5_count l D T hI 8 (by omega) _) (mkV hts okX5_count kw_349 kw_350 kw_351 ⟨rfl, rfl, (Nat.le_of_ble_eq_true rfl), (Nat.le_of_ble_eq_true rfl)⟩) (pv_rw hK hPc82 hDc82 hfs82 (q := (RX5, TX5, 5)) rfl rfl) rfl rfl hl42.1 rfl (lv_room (Nat.le_of_ble_eq_true rfl)) dL_law_174 ⟨by show _ ≤ 614934; omega, by show _ ≤ 7256381; omega⟩) hP41 hD41 hS41 hA [] [0] rfl (by decide) (fun r_82 w_82 H83 locs83 hq_82 hP83 hD83 hS83 => ?_)
    clear hP41 hD41 hS41 hPc82 hDc82 hfs82 hI
    obtain ⟨hr_82, hI⟩ := hq_82
    have hr_82 : r_82 = nI kp2 := hr_82
    subst hr_82
    have hP83 : va_P D vwCl (fl [w_82]) _ := hP83
    have hD83 : va_D A (fl [w_82]) := hD83
    refine lv_iload hx hb dL_law_177 (lv_at hl42 10 rfl) ?_
    refine n_icmp_ne (tgt := 207) hx hb (by omega) (by omega) dL_law_179 (by decide) (fun c84 => absurd c84 (by omega)) (fun c84 => ?_)
    refine lv_aload_n hx hb dL_law_182 rfl (lv_at hl42 12 rfl) ?_
    refine lv_iconst (v := nI 0) hx hb dL_law_183 (by decide) ?_
    obtain ⟨fs85, hfs85⟩ := XINV.recv hI
    have hPc85 : va_P D vwCl (fl [w_82]) _ := flP_sub hP83 [0] rfl
    have hDc85 : va_D A (fl [w_82]) := flD_sub hD83 [0] (by decide) rfl
    refine cl_i (br := []) (va_runV (As := [.int (nI 0)]) (rest := []) ⟨hx, hb, hml, hown, hts⟩ (e_X5_count l D T hI 0 (by omega) _) (mkV hts okX5_count kw_349 kw_350 kw_351 ⟨rfl, rfl, (Nat.le_of_ble_eq_true rfl), (Nat.le_of_ble_eq_true rfl)⟩) (pv_rw hK hPc85 hDc85 hfs85 (q := (RX5, TX5, 5)) rfl rfl) rfl rfl hl42.1 rfl (lv_room (Nat.le_of_ble_eq_true rfl)) dL_law_184 ⟨by show _ ≤ 614934; omega, by show _ ≤ 7256381; omega⟩) hP83 hD83 hS83 hA [] [0] rfl (by decide) (fun r_85 w_85 H86 locs86 hq_85 hP86 hD86 hS86 => ?_)
    clear hP83 hD83 hS83 hPc85 hDc85 hfs85 hI
    obtain ⟨hr_85, hI⟩ := hq_85
    have hr_85 : r_85 = m2 9 := hr_85
    subst hr_85
    have hP86 : va_P D vwCl (fl [w_85]) _ := hP86
    have hD86 : va_D A (fl [w_85]) := hD86
    refine lv_iload hx hb dL_law_187 (lv_at hl42 9 rfl) ?_
    refine lv_icmp_ne (tgt := 207) hx hb dL_law_189 (by decide) (fun c87 => absurd c87 (fun q => q (by rw [e1]))) (fun c87 => ?_)
    refine lv_aload_n hx hb dL_law_192 rfl (lv_at hl42 12 rfl) ?_
    refine lv_bipush (v := nI 6) hx hb dL_law_193 (by decide) ?_
    obtain ⟨fs88, hfs88⟩ := XINV.recv hI
    have hPc88 : va_P D vwCl (fl [w_85]) _ := flP_sub hP86 [0] rfl
    have hDc88 : va_D A (fl [w_85]) := flD_sub hD86 [0] (by decide) rfl
    refine cl_i (br := []) (va_runV (As := [.int (nI 6)]) (rest := []) ⟨hx, hb, hml, hown, hts⟩ (e_X5_count l D T hI 6 (by omega) _) (mkV hts okX5_count kw_349 kw_350 kw_351 ⟨rfl, rfl, (Nat.le_of_ble_eq_true rfl), (Nat.le_of_ble_eq_true rfl)⟩) (pv_rw hK hPc88 hDc88 hfs88 (q := (RX5, TX5, 5)) rfl rfl) rfl rfl hl42.1 rfl (lv_room (Nat.le_of_ble_eq_true rfl)) dL_law_195 ⟨by show _ ≤ 614934; omega, by show _ ≤ 7256381; omega⟩) hP86 hD86 hS86 hA [] [0] rfl (by decide) (fun r_88 w_88 H89 locs89 hq_88 hP89 hD89 hS89 => ?_)
    clear hP86 hD86 hS86 hPc88 hDc88 hfs88 hI
    obtain ⟨hr_88, hI⟩ := hq_88
    have hr_88 : r_88 = inR m2 := hr_88
    subst hr_88
    have hP89 : va_P D vwCl (fl [w_88]) _ := hP89
    have hD89 : va_D A (fl [w_88]) := hD89
    refine lv_iload hx hb dL_law_198 (lv_at hl42 7 rfl) ?_
    refine lv_icmp_ne (tgt := 207) hx hb dL_law_200 (by decide) (fun c90 => absurd c90 (fun q => q (by rw [e1]))) (fun c90 => ?_)
    refine lv_iconst (v := nI 1) hx hb dL_law_203 (by decide) ?_
    refine lv_goto (tgt := 208) hx hb dL_law_204 (by decide) ?_
    refine lv_istore_n (lv' := [(2, .int (nI 1)), (15, .int r_40), (14, .int (byP mm mm run 3)), (13, .int (byP mm mm run 1)), (12, .int (byP mm mm run 0)), (11, .int (nI run)), (10, .int (nI so)), (9, .int (sumM mm 4 12)), (8, .int (inR mm)), (7, .int (TT mm)), (6, .int (mm 9)), (5, .int (nI kp)), (0, .ref b), (1, .ref xa), (3, .int (nI t)), (4, .int (nI k))]) hx hb dL_law_208 rfl hl42 (by decide) rfl (fun ls91 hl91 => ?_)
    clear hl42
    refine lv_iload_n hx hb dL_law_209 rfl (lv_at hl91 0 rfl) ?_
    refine n_if_eq (tgt := 317) hx hb (by omega) dL_law_210 (by decide) (fun c92 => absurd c92 (by decide)) (fun c92 => ?_)
    refine lv_iload hx hb dL_law_213 (lv_at hl91 6 rfl) ?_
    refine lv_bipush (v := nI 17) hx hb dL_law_215 (by decide) ?_
    refine n_icmp_lt (tgt := 306) hx hb (by omega) (by omega) dL_law_217 (by decide) (fun c_217 => ?_) (fun c_217 => ?_)
    · skip
      refine lv_aload_n hx hb dL_law_306 rfl (lv_at hl91 13 rfl) ?_
      have hPc94 : va_P D vwCl (fl [w_88]) _ := flP_sub hP89 [0] rfl
      have hDc94 : va_D A (fl [w_88]) := flD_sub hD89 [0] (by decide) rfl
      refine cl_i (br := []) (va_runS (As := [.ref xa]) (rest := []) ⟨hx, hb, hml, hown, hts⟩ (c_L_town l D T xa w_88 m2 past2 kp2 h2 hI hR2 (by omega) _) (mkS hts okL_town kw_404 kw_405 ⟨rfl, rfl, (Nat.le_of_ble_eq_true rfl), (Nat.le_of_ble_eq_true rfl)⟩) (ps_rw hK hPc94 hDc94) rfl rfl hl91.1 rfl (lv_room (Nat.le_of_ble_eq_true rfl)) dL_law_307 ⟨by show _ ≤ 614934; omega, by show _ ≤ 7256381; omega⟩) hP89 hD89 hS89 hA [] [0] rfl (by decide) (fun r_94 w_94 H95 locs95 hq_94 hP95 hD95 hS95 => ?_)
      clear hP89 hD89 hS89 hPc94 hDc94 hI
      obtain ⟨hr, hI⟩ := hq_94
      have hr : r_94 = nI 1 := hr
      subst hr
      have hP95 : va_P D vwCl (fl [w_94]) _ := hP95
      have hD95 : va_D A (fl [w_94]) := hD95
      refine n_if_eq (tgt := 317) hx hb (by omega) dL_law_310 (by decide) (fun c96 => absurd c96 (by decide)) (fun c96 => ?_)
      refine lv_iconst (v := nI 1) hx hb dL_law_313 (by decide) ?_
      refine lv_goto (tgt := 318) hx hb dL_law_314 (by decide) ?_
      refine lv_istore_n (lv' := [(2, .int (nI 1)), (15, .int r_40), (14, .int (byP mm mm run 3)), (13, .int (byP mm mm run 1)), (12, .int (byP mm mm run 0)), (11, .int (nI run)), (10, .int (nI so)), (9, .int (sumM mm 4 12)), (8, .int (inR mm)), (7, .int (TT mm)), (6, .int (mm 9)), (5, .int (nI kp)), (0, .ref b), (1, .ref xa), (3, .int (nI t)), (4, .int (nI k))]) hx hb dL_law_318 rfl hl91 (by decide) rfl (fun ls97 hl97 => ?_)
      clear hl91
      refine lv_iinc (v := nI (k + 1)) (lv' := [(4, .int (nI (k + 1))), (2, .int (nI 1)), (15, .int r_40), (14, .int (byP mm mm run 3)), (13, .int (byP mm mm run 1)), (12, .int (byP mm mm run 0)), (11, .int (nI run)), (10, .int (nI so)), (9, .int (sumM mm 4 12)), (8, .int (inR mm)), (7, .int (TT mm)), (6, .int (mm 9)), (5, .int (nI kp)), (0, .ref b), (1, .ref xa), (3, .int (nI t))]) hx hb dL_law_319 hl97 (k := 15) rfl (nI_add k 1) (by decide) rfl (fun ls98 hl98 => ?_)
      clear hl97
      refine lv_goto (tgt := 32) hx hb dL_law_322 (by decide) ?_
      refine W.widen (k := 160 + 3 * (k + 1)) (n := 2200 + 18 * (k + 1)) (by omega) (by omega) ?_
      exact KK w_94 m2 past2 kp2 hI (by rw [show 6 * (k + 1) = 6 * k + 6 by omega]; exact hAC1) _ _ hP95 hD95 hS95 _ (lv_sub hl98 [13, 14, 1, 15, 0] rfl)
    · skip
      refine lv_iload hx hb dL_law_220 (lv_at hl91 6 rfl) ?_
      refine lv_bipush (v := nI 20) hx hb dL_law_222 (by decide) ?_
      refine n_icmp_gt (tgt := 306) hx hb (by omega) (by omega) dL_law_224 (by decide) (fun c_224 => ?_) (fun c_224 => ?_)
      · skip
        refine lv_aload_n hx hb dL_law_306 rfl (lv_at hl91 13 rfl) ?_
        have hPc100 : va_P D vwCl (fl [w_88]) _ := flP_sub hP89 [0] rfl
        have hDc100 : va_D A (fl [w_88]) := flD_sub hD89 [0] (by decide) rfl
        refine cl_i (br := []) (va_runS (As := [.ref xa]) (rest := []) ⟨hx, hb, hml, hown, hts⟩ (c_L_town l D T xa w_88 m2 past2 kp2 h2 hI hR2 (by omega) _) (mkS hts okL_town kw_404 kw_405 ⟨rfl, rfl, (Nat.le_of_ble_eq_true rfl), (Nat.le_of_ble_eq_true rfl)⟩) (ps_rw hK hPc100 hDc100) rfl rfl hl91.1 rfl (lv_room (Nat.le_of_ble_eq_true rfl)) dL_law_307 ⟨by show _ ≤ 614934; omega, by show _ ≤ 7256381; omega⟩) hP89 hD89 hS89 hA [] [0] rfl (by decide) (fun r_100 w_100 H101 locs101 hq_100 hP101 hD101 hS101 => ?_)
        clear hP89 hD89 hS89 hPc100 hDc100 hI
        obtain ⟨hr, hI⟩ := hq_100
        have hr : r_100 = nI 1 := hr
        subst hr
        have hP101 : va_P D vwCl (fl [w_100]) _ := hP101
        have hD101 : va_D A (fl [w_100]) := hD101
        refine n_if_eq (tgt := 317) hx hb (by omega) dL_law_310 (by decide) (fun c102 => absurd c102 (by decide)) (fun c102 => ?_)
        refine lv_iconst (v := nI 1) hx hb dL_law_313 (by decide) ?_
        refine lv_goto (tgt := 318) hx hb dL_law_314 (by decide) ?_
        refine lv_istore_n (lv' := [(2, .int (nI 1)), (15, .int r_40), (14, .int (byP mm mm run 3)), (13, .int (byP mm mm run 1)), (12, .int (byP mm mm run 0)), (11, .int (nI run)), (10, .int (nI so)), (9, .int (sumM mm 4 12)), (8, .int (inR mm)), (7, .int (TT mm)), (6, .int (mm 9)), (5, .int (nI kp)), (0, .ref b), (1, .ref xa), (3, .int (nI t)), (4, .int (nI k))]) hx hb dL_law_318 rfl hl91 (by decide) rfl (fun ls103 hl103 => ?_)
        clear hl91
        refine lv_iinc (v := nI (k + 1)) (lv' := [(4, .int (nI (k + 1))), (2, .int (nI 1)), (15, .int r_40), (14, .int (byP mm mm run 3)), (13, .int (byP mm mm run 1)), (12, .int (byP mm mm run 0)), (11, .int (nI run)), (10, .int (nI so)), (9, .int (sumM mm 4 12)), (8, .int (inR mm)), (7, .int (TT mm)), (6, .int (mm 9)), (5, .int (nI kp)), (0, .ref b), (1, .ref xa), (3, .int (nI t))]) hx hb dL_law_319 hl103 (k := 15) rfl (nI_add k 1) (by decide) rfl (fun ls104 hl104 => ?_)
        clear hl103
        refine lv_goto (tgt := 32) hx hb dL_law_322 (by decide) ?_
        refine W.widen (k := 160 + 3 * (k + 1)) (n := 2200 + 18 * (k + 1)) (by omega) (by omega) ?_
        exact KK w_100 m2 past2 kp2 hI (by rw [show 6 * (k + 1) = 6 * k + 6 by omega]; exact hAC1) _ _ hP101 hD101 hS101 _ (lv_sub hl104 [13, 14, 1, 15, 0] rfl)
      · skip
        obtain ⟨hp1, hp2⟩ := hPF (by omega) (by omega)
        refine lv_iload hx hb dL_law_227 (lv_at hl91 1 rfl) ?_
        refine lv_iload hx hb dL_law_229 (lv_at hl91 4 rfl) ?_
        refine lv_icmp_ne (tgt := 317) hx hb dL_law_231 (by decide) (fun c105 => absurd c105 (fun q => q hp1)) (fun c105 => ?_)
        refine lv_aload_n hx hb dL_law_234 rfl (lv_at hl91 13 rfl) ?_
        refine lv_iconst (v := nI 0) hx hb dL_law_235 (by decide) ?_
        obtain ⟨fs106, hfs106⟩ := XINV.recv hI
        have hPc106 : va_P D vwCl (fl [w_88]) _ := flP_sub hP89 [0] rfl
        have hDc106 : va_D A (fl [w_88]) := flD_sub hD89 [0] (by decide) rfl
        refine cl_i (br := []) (va_runV (As := [.int (nI 0)]) (rest := []) ⟨hx, hb, hml, hown, hts⟩ (e_X5_count l D T hI 0 (by omega) _) (mkV hts okX5_count kw_349 kw_350 kw_351 ⟨rfl, rfl, (Nat.le_of_ble_eq_true rfl), (Nat.le_of_ble_eq_true rfl)⟩) (pv_rw hK hPc106 hDc106 hfs106 (q := (RX5, TX5, 5)) rfl rfl) rfl rfl hl91.1 rfl (lv_room (Nat.le_of_ble_eq_true rfl)) dL_law_236 ⟨by show _ ≤ 614934; omega, by show _ ≤ 7256381; omega⟩) hP89 hD89 hS89 hA [] [0] rfl (by decide) (fun r_106 w_106 H107 locs107 hq_106 hP107 hD107 hS107 => ?_)
        clear hP89 hD89 hS89 hPc106 hDc106 hfs106 hI
        obtain ⟨hr_106, hI⟩ := hq_106
        have hr_106 : r_106 = m2 9 := hr_106
        subst hr_106
        have hP107 : va_P D vwCl (fl [w_106]) _ := hP107
        have hD107 : va_D A (fl [w_106]) := hD107
        refine lv_iload hx hb dL_law_239 (lv_at hl91 10 rfl) ?_
        refine lv_iload hx hb dL_law_241 (lv_at hl91 5 rfl) ?_
        refine lv_iadd hx hb dL_law_243 ?_
        refine lv_icmp_ne (tgt := 317) hx hb dL_law_244 (by decide) (fun c108 => absurd c108 (fun q => q (by rw [hp2]; exact pass_hours hRm (by omega)))) (fun c108 => ?_)
        refine lv_aload_n hx hb dL_law_247 rfl (lv_at hl91 13 rfl) ?_
        refine lv_iconst (v := nI 4) hx hb dL_law_248 (by decide) ?_
        obtain ⟨fs109, hfs109⟩ := XINV.recv hI
        have hPc109 : va_P D vwCl (fl [w_106]) _ := flP_sub hP107 [0] rfl
        have hDc109 : va_D A (fl [w_106]) := flD_sub hD107 [0] (by decide) rfl
        refine cl_i (br := []) (va_runV (As := [.int (nI 4)]) (rest := []) ⟨hx, hb, hml, hown, hts⟩ (e_X5_count l D T hI 4 (by omega) _) (mkV hts okX5_count kw_349 kw_350 kw_351 ⟨rfl, rfl, (Nat.le_of_ble_eq_true rfl), (Nat.le_of_ble_eq_true rfl)⟩) (pv_rw hK hPc109 hDc109 hfs109 (q := (RX5, TX5, 5)) rfl rfl) rfl rfl hl91.1 rfl (lv_room (Nat.le_of_ble_eq_true rfl)) dL_law_249 ⟨by show _ ≤ 614934; omega, by show _ ≤ 7256381; omega⟩) hP107 hD107 hS107 hA [] [0] rfl (by decide) (fun r_109 w_109 H110 locs110 hq_109 hP110 hD110 hS110 => ?_)
        clear hP107 hD107 hS107 hPc109 hDc109 hfs109 hI
        obtain ⟨hr_109, hI⟩ := hq_109
        have hr_109 : r_109 = sumM m2 4 12 := hr_109
        subst hr_109
        have hP110 : va_P D vwCl (fl [w_109]) _ := hP110
        have hD110 : va_D A (fl [w_109]) := hD110
        refine lv_iload hx hb dL_law_252 (lv_at hl91 7 rfl) ?_
        refine lv_iload hx hb dL_law_254 (lv_at hl91 3 rfl) ?_
        refine lv_iadd hx hb dL_law_256 ?_
        refine lv_icmp_ne (tgt := 317) hx hb dL_law_257 (by decide) (fun c111 => absurd c111 (fun q => q (by rw [hp2]; exact (i32_add_sub _ _).symm))) (fun c111 => ?_)
        refine lv_aload_n hx hb dL_law_260 rfl (lv_at hl91 13 rfl) ?_
        refine lv_bipush (v := nI 6) hx hb dL_law_261 (by decide) ?_
        obtain ⟨fs112, hfs112⟩ := XINV.recv hI
        have hPc112 : va_P D vwCl (fl [w_109]) _ := flP_sub hP110 [0] rfl
        have hDc112 : va_D A (fl [w_109]) := flD_sub hD110 [0] (by decide) rfl
        refine cl_i (br := []) (va_runV (As := [.int (nI 6)]) (rest := []) ⟨hx, hb, hml, hown, hts⟩ (e_X5_count l D T hI 6 (by omega) _) (mkV hts okX5_count kw_349 kw_350 kw_351 ⟨rfl, rfl, (Nat.le_of_ble_eq_true rfl), (Nat.le_of_ble_eq_true rfl)⟩) (pv_rw hK hPc112 hDc112 hfs112 (q := (RX5, TX5, 5)) rfl rfl) rfl rfl hl91.1 rfl (lv_room (Nat.le_of_ble_eq_true rfl)) dL_law_263 ⟨by show _ ≤ 614934; omega, by show _ ≤ 7256381; omega⟩) hP110 hD110 hS110 hA [] [0] rfl (by decide) (fun r_112 w_112 H113 locs113 hq_112 hP113 hD113 hS113 => ?_)
        clear hP110 hD110 hS110 hPc112 hDc112 hfs112 hI
        obtain ⟨hr_112, hI⟩ := hq_112
        have hr_112 : r_112 = inR m2 := hr_112
        subst hr_112
        have hP113 : va_P D vwCl (fl [w_112]) _ := hP113
        have hD113 : va_D A (fl [w_112]) := hD113
        refine lv_iload hx hb dL_law_266 (lv_at hl91 2 rfl) ?_
        refine lv_icmp_ne (tgt := 317) hx hb dL_law_268 (by decide) (fun c114 => absurd c114 (fun q => q (by rw [hp2]; rfl))) (fun c114 => ?_)
        refine lv_aload_n hx hb dL_law_271 rfl (lv_at hl91 13 rfl) ?_
        refine lv_iconst (v := nI 1) hx hb dL_law_272 (by decide) ?_
        obtain ⟨fs115, hfs115⟩ := XINV.recv hI
        have hPc115 : va_P D vwCl (fl [w_112]) _ := flP_sub hP113 [0] rfl
        have hDc115 : va_D A (fl [w_112]) := flD_sub hD113 [0] (by decide) rfl
        refine cl_i (br := []) (va_runV (As := [.int (nI 1)]) (rest := []) ⟨hx, hb, hml, hown, hts⟩ (e_X5_count l D T hI 1 (by omega) _) (mkV hts okX5_count kw_349 kw_350 kw_351 ⟨rfl, rfl, (Nat.le_of_ble_eq_true rfl), (Nat.le_of_ble_eq_true rfl)⟩) (pv_rw hK hPc115 hDc115 hfs115 (q := (RX5, TX5, 5)) rfl rfl) rfl rfl hl91.1 rfl (lv_room (Nat.le_of_ble_eq_true rfl)) dL_law_273 ⟨by show _ ≤ 614934; omega, by show _ ≤ 7256381; omega⟩) hP113 hD113 hS113 hA [] [0] rfl (by decide) (fun r_115 w_115 H116 locs116 hq_115 hP116 hD116 hS116 => ?_)
        clear hP113 hD113 hS113 hPc115 hDc115 hfs115 hI
        obtain ⟨hr_115, hI⟩ := hq_115
        have hr_115 : r_115 = sumM m2 0 12 := hr_115
        subst hr_115
        have hP116 : va_P D vwCl (fl [w_115]) _ := hP116
        have hD116 : va_D A (fl [w_115]) := hD116
        refine lv_aload_n hx hb dL_law_276 rfl (lv_at hl91 13 rfl) ?_
        refine lv_iconst (v := nI 4) hx hb dL_law_277 (by decide) ?_
        obtain ⟨fs117, hfs117⟩ := XINV.recv hI
        have hPc117 : va_P D vwCl (fl [w_115]) _ := flP_sub hP116 [0] rfl
        have hDc117 : va_D A (fl [w_115]) := flD_sub hD116 [0] (by decide) rfl
        refine cl_i (br := []) (va_runV (As := [.int (nI 4)]) (rest := [.int (sumM m2 0 12)]) ⟨hx, hb, hml, hown, hts⟩ (e_X5_count l D T hI 4 (by omega) _) (mkV hts okX5_count kw_349 kw_350 kw_351 ⟨rfl, rfl, (Nat.le_of_ble_eq_true rfl), (Nat.le_of_ble_eq_true rfl)⟩) (pv_rw hK hPc117 hDc117 hfs117 (q := (RX5, TX5, 5)) rfl rfl) rfl rfl hl91.1 rfl (lv_room (Nat.le_of_ble_eq_true rfl)) dL_law_278 ⟨by show _ ≤ 614934; omega, by show _ ≤ 7256381; omega⟩) hP116 hD116 hS116 hA [] [0] rfl (by decide) (fun r_117 w_117 H118 locs118 hq_117 hP118 hD118 hS118 => ?_)
        clear hP116 hD116 hS116 hPc117 hDc117 hfs117 hI
        obtain ⟨hr_117, hI⟩ := hq_117
        have hr_117 : r_117 = sumM m2 4 12 := hr_117
        subst hr_117
        have hP118 : va_P D vwCl (fl [w_117]) _ := hP118
        have hD118 : va_D A (fl [w_117]) := hD118
        refine lv_iadd hx hb dL_law_281 ?_
        refine lv_aload_n hx hb dL_law_282 rfl (lv_at hl91 13 rfl) ?_
        refine lv_bipush (v := nI 7) hx hb dL_law_283 (by decide) ?_
        obtain ⟨fs119, hfs119⟩ := XINV.recv hI
        have hPc119 : va_P D vwCl (fl [w_117]) _ := flP_sub hP118 [0] rfl
        have hDc119 : va_D A (fl [w_117]) := flD_sub hD118 [0] (by decide) rfl
        refine cl_i (br := []) (va_runV (As := [.int (nI 7)]) (rest := [.int ((sumM m2 0 12) + (sumM m2 4 12))]) ⟨hx, hb, hml, hown, hts⟩ (e_X5_count l D T hI 7 (by omega) _) (mkV hts okX5_count kw_349 kw_350 kw_351 ⟨rfl, rfl, (Nat.le_of_ble_eq_true rfl), (Nat.le_of_ble_eq_true rfl)⟩) (pv_rw hK hPc119 hDc119 hfs119 (q := (RX5, TX5, 5)) rfl rfl) rfl rfl hl91.1 rfl (lv_room (Nat.le_of_ble_eq_true rfl)) dL_law_285 ⟨by show _ ≤ 614934; omega, by show _ ≤ 7256381; omega⟩) hP118 hD118 hS118 hA [] [0] rfl (by decide) (fun r_119 w_119 H120 locs120 hq_119 hP120 hD120 hS120 => ?_)
        clear hP118 hD118 hS118 hPc119 hDc119 hfs119 hI
        obtain ⟨hr_119, hI⟩ := hq_119
        have hr_119 : r_119 = m2 11 := hr_119
        subst hr_119
        have hP120 : va_P D vwCl (fl [w_119]) _ := hP120
        have hD120 : va_D A (fl [w_119]) := hD120
        refine lv_iadd hx hb dL_law_288 ?_
        refine tp_i (y := TT m2) (rfl) ?_
        refine lv_iload hx hb dL_law_289 (lv_at hl91 9 rfl) ?_
        refine lv_bipush (v := nI 12) hx hb dL_law_291 (by decide) ?_
        refine lv_iload hx hb dL_law_293 (lv_at hl91 5 rfl) ?_
        refine lv_imul hx hb dL_law_295 ?_
        refine tp_i (y := nI (12 * run)) (pk_mul _ _) ?_
        refine lv_aload_n hx hb dL_law_296 rfl (lv_at hl91 13 rfl) ?_
        refine lv_iconst (v := nI 3) hx hb dL_law_297 (by decide) ?_
        obtain ⟨fs121, hfs121⟩ := XINV.recv hI
        have hPc121 : va_P D vwCl (fl [w_119]) _ := flP_sub hP120 [0] rfl
        have hDc121 : va_D A (fl [w_119]) := flD_sub hD120 [0] (by decide) rfl
        refine cl_i (br := []) (va_runV (As := [.int (nI 3)]) (rest := [.int (nI (12 * run)), .int (TT mm), .int (TT m2)]) ⟨hx, hb, hml, hown, hts⟩ (e_X5_setting l D T hI 3 (by omega) _) (mkV hts okX5_setting kw_363 kw_364 kw_365 ⟨rfl, rfl, (Nat.le_of_ble_eq_true rfl), (Nat.le_of_ble_eq_true rfl)⟩) (pv_rw hK hPc121 hDc121 hfs121 (q := (RX5, TX5, 5)) rfl rfl) rfl rfl hl91.1 rfl (lv_room (Nat.le_of_ble_eq_true rfl)) dL_law_298 ⟨by show _ ≤ 614934; omega, by show _ ≤ 7256381; omega⟩) hP120 hD120 hS120 hA [] [0] rfl (by decide) (fun r_121 w_121 H122 locs122 hq_121 hP122 hD122 hS122 => ?_)
        clear hP120 hD120 hS120 hPc121 hDc121 hfs121 hI
        obtain ⟨hr_121, hI⟩ := hq_121
        have hr_121 : r_121 = m2 3 := hr_121
        subst hr_121
        have hP122 : va_P D vwCl (fl [w_121]) _ := hP122
        have hD122 : va_D A (fl [w_121]) := hD122
        refine lv_imul hx hb dL_law_301 ?_
        refine lv_iadd hx hb dL_law_302 ?_
        refine lv_icmp_ne (tgt := 317) hx hb dL_law_303 (by decide) (fun c123 => absurd c123 (fun q => q (by rw [hp2, TT_hourN, hourN_lo _ (by omega)]))) (fun c123 => ?_)
        refine lv_aload_n hx hb dL_law_306 rfl (lv_at hl91 13 rfl) ?_
        have hPc124 : va_P D vwCl (fl [w_121]) _ := flP_sub hP122 [0] rfl
        have hDc124 : va_D A (fl [w_121]) := flD_sub hD122 [0] (by decide) rfl
        refine cl_i (br := []) (va_runS (As := [.ref xa]) (rest := []) ⟨hx, hb, hml, hown, hts⟩ (c_L_town l D T xa w_121 m2 past2 kp2 h2 hI hR2 (by omega) _) (mkS hts okL_town kw_404 kw_405 ⟨rfl, rfl, (Nat.le_of_ble_eq_true rfl), (Nat.le_of_ble_eq_true rfl)⟩) (ps_rw hK hPc124 hDc124) rfl rfl hl91.1 rfl (lv_room (Nat.le_of_ble_eq_true rfl)) dL_law_307 ⟨by show _ ≤ 614934; omega, by show _ ≤ 7256381; omega⟩) hP122 hD122 hS122 hA [] [0] rfl (by decide) (fun r_124 w_124 H125 locs125 hq_124 hP125 hD125 hS125 => ?_)
        clear hP122 hD122 hS122 hPc124 hDc124 hI
        obtain ⟨hr, hI⟩ := hq_124
        have hr : r_124 = nI 1 := hr
        subst hr
        have hP125 : va_P D vwCl (fl [w_124]) _ := hP125
        have hD125 : va_D A (fl [w_124]) := hD125
        refine n_if_eq (tgt := 317) hx hb (by omega) dL_law_310 (by decide) (fun c126 => absurd c126 (by decide)) (fun c126 => ?_)
        refine lv_iconst (v := nI 1) hx hb dL_law_313 (by decide) ?_
        refine lv_goto (tgt := 318) hx hb dL_law_314 (by decide) ?_
        refine lv_istore_n (lv' := [(2, .int (nI 1)), (15, .int r_40), (14, .int (byP mm mm run 3)), (13, .int (byP mm mm run 1)), (12, .int (byP mm mm run 0)), (11, .int (nI run)), (10, .int (nI so)), (9, .int (sumM mm 4 12)), (8, .int (inR mm)), (7, .int (TT mm)), (6, .int (mm 9)), (5, .int (nI kp)), (0, .ref b), (1, .ref xa), (3, .int (nI t)), (4, .int (nI k))]) hx hb dL_law_318 rfl hl91 (by decide) rfl (fun ls127 hl127 => ?_)
        clear hl91
        refine lv_iinc (v := nI (k + 1)) (lv' := [(4, .int (nI (k + 1))), (2, .int (nI 1)), (15, .int r_40), (14, .int (byP mm mm run 3)), (13, .int (byP mm mm run 1)), (12, .int (byP mm mm run 0)), (11, .int (nI run)), (10, .int (nI so)), (9, .int (sumM mm 4 12)), (8, .int (inR mm)), (7, .int (TT mm)), (6, .int (mm 9)), (5, .int (nI kp)), (0, .ref b), (1, .ref xa), (3, .int (nI t))]) hx hb dL_law_319 hl127 (k := 15) rfl (nI_add k 1) (by decide) rfl (fun ls128 hl128 => ?_)
        clear hl127
        refine lv_goto (tgt := 32) hx hb dL_law_322 (by decide) ?_
        refine W.widen (k := 160 + 3 * (k + 1)) (n := 2200 + 18 * (k + 1)) (by omega) (by omega) ?_
        exact KK w_124 m2 past2 kp2 hI (by rw [show 6 * (k + 1) = 6 * k + 6 by omega]; exact hAC1) _ _ hP125 hD125 hS125 _ (lv_sub hl128 [13, 14, 1, 15, 0] rfl)
set_option maxHeartbeats 4000000 in
set_option maxRecDepth 100000 in
theorem law_end {pX : Program} {l : Launch} {eX : Env} {sX : State} {mX : MethodId} {bX : List Frame} {mtX : Method} {cX : Code} {D : va_G} {T : TI} {A : Nat → Prop} {b L : Nat} {xs : Nat → Int32} {xa t : Nat} {TG : State → Prop} (hCX : LCX pX l sX mX cX D T A b L xs) (hA2 : ∀ z, A z → sX.heap.size ≤ z) (hEnd : ∀ (H : Heap) (ls : Array Slot), W pX l eX room_1 sX mX #[Value.ref b] bX mtX cX H [] 614934 7256381 TG (F0 mX 419 ls [.int (nI 1)])) (k : Nat) (hk : k ≤ 44) {w : va_W} {mm past : Nat → Int32} {kp : Nat} (hI : XN T xa w mm past kp) (hG : RGB mm past kp (6 * k)) {H0 : Heap} {locs0 : List Loc} (hP0 : va_P D vwCl (fl [w]) H0) (hD0 : va_D A (fl [w])) (hS0 : va_S A sX.heap H0 locs0) {ls0 : Array Slot} (hl0 : lv_has ls0 16 [(0, .ref b), (1, .ref xa), (2, .int (nI 1)), (3, .int (nI t)), (4, .int (nI k))]) : W pX l eX room_1 sX mX #[Value.ref b] bX mtX cX H0 locs0 (160 + 3 * k) (2200 + 18 * k) TG (F0 mX 325 ls0 []) := by
  obtain ⟨hx, hb, hml, hown, hts, hSC, hK, hST, hA, hl, hL26⟩ := id hCX
  obtain ⟨hokS, hkp6, -⟩ := XINV.okS hI
  have hbm := brNM_le mm 12
  rcases cl_ans mm with ⟨hcl, hb0⟩ | ⟨hcl, hb0⟩ | ⟨j, hj0, hj200, hcl, hb0, hbj⟩
  · skip
    refine lv_aload_n hx hb dL_law_325 rfl (lv_at hl0 1 rfl) ?_
    obtain ⟨fs1, hfs1⟩ := XINV.recv hI
    have hPc1 : va_P D vwCl (fl [w]) _ := flP_sub hP0 [0] rfl
    have hDc1 : va_D A (fl [w]) := flD_sub hD0 [0] (by decide) rfl
    refine cl_i (br := []) (va_runV (As := []) (rest := []) ⟨hx, hb, hml, hown, hts⟩ (e_X5_clearIn l D T hI  _) (mkV hts okX5_clearIn kw_391 kw_392 kw_393 ⟨rfl, rfl, (Nat.le_of_ble_eq_true rfl), (Nat.le_of_ble_eq_true rfl)⟩) (pv_rw hK hPc1 hDc1 hfs1 (q := (RX5, TX5, 5)) rfl rfl) rfl rfl hl0.1 rfl (lv_room (Nat.le_of_ble_eq_true rfl)) dL_law_326 ⟨by show _ ≤ 614934; omega, by show _ ≤ 7256381; omega⟩) hP0 hD0 hS0 hA [] [0] rfl (by decide) (fun r_1 w_1 H2 locs2 hq_1 hP2 hD2 hS2 => ?_)
    clear hP0 hD0 hS0 hPc1 hDc1 hfs1 hI
    obtain ⟨hr_1, hI⟩ := hq_1
    have hr_1 : r_1 = clG mm 0 201 := hr_1
    subst hr_1
    have hP2 : va_P D vwCl (fl [w_1]) _ := hP2
    have hD2 : va_D A (fl [w_1]) := hD2
    refine tp_i (y := (-1)) (hcl) ?_
    refine lv_istore (lv' := [(4, .int (-1)), (0, .ref b), (1, .ref xa), (2, .int (nI 1)), (3, .int (nI t))]) hx hb dL_law_329 hl0 (by decide) rfl (fun ls3 hl3 => ?_)
    clear hl0
    refine lv_iload_n hx hb dL_law_331 rfl (lv_at hl3 3 rfl) ?_
    refine n_if_eq (tgt := 379) hx hb (by omega) dL_law_332 (by decide) (fun c4 => absurd c4 (by decide)) (fun c4 => ?_)
    refine lv_iload hx hb dL_law_335 (lv_at hl3 0 rfl) ?_
    refine lv_iconst (v := (-1)) hx hb dL_law_337 (by decide) ?_
    refine lv_icmp_lt (tgt := 379) hx hb dL_law_338 (by decide) (fun c5 => absurd c5 (by decide)) (fun c5 => ?_)
    refine lv_iload hx hb dL_law_341 (lv_at hl3 0 rfl) ?_
    refine lv_sipush (v := nI 200) hx hb dL_law_343 (by decide) ?_
    refine lv_icmp_gt (tgt := 379) hx hb dL_law_346 (by decide) (fun c6 => absurd c6 (by decide)) (fun c6 => ?_)
    refine lv_iload hx hb dL_law_349 (lv_at hl3 0 rfl) ?_
    refine lv_if_ne (tgt := 358) hx hb dL_law_351 (by decide) (fun c7 => ?_) (fun c7 => absurd c7 (by decide))
    refine lv_iconst (v := nI 0) hx hb dL_law_358 (by decide) ?_
    refine lv_aload_n hx hb dL_law_359 rfl (lv_at hl3 2 rfl) ?_
    refine lv_iconst (v := nI 2) hx hb dL_law_360 (by decide) ?_
    obtain ⟨fs8, hfs8⟩ := XINV.recv hI
    have hPc8 : va_P D vwCl (fl [w_1]) _ := flP_sub hP2 [0] rfl
    have hDc8 : va_D A (fl [w_1]) := flD_sub hD2 [0] (by decide) rfl
    refine cl_i (br := []) (va_runV (As := [.int (nI 2)]) (rest := [.int (nI 0)]) ⟨hx, hb, hml, hown, hts⟩ (e_X5_count l D T hI 2 (by omega) _) (mkV hts okX5_count kw_349 kw_350 kw_351 ⟨rfl, rfl, (Nat.le_of_ble_eq_true rfl), (Nat.le_of_ble_eq_true rfl)⟩) (pv_rw hK hPc8 hDc8 hfs8 (q := (RX5, TX5, 5)) rfl rfl) rfl rfl hl3.1 rfl (lv_room (Nat.le_of_ble_eq_true rfl)) dL_law_361 ⟨by show _ ≤ 614934; omega, by show _ ≤ 7256381; omega⟩) hP2 hD2 hS2 hA [] [0] rfl (by decide) (fun r_8 w_8 H9 locs9 hq_8 hP9 hD9 hS9 => ?_)
    clear hP2 hD2 hS2 hPc8 hDc8 hfs8 hI
    obtain ⟨hr_8, hI⟩ := hq_8
    have hr_8 : r_8 = nI (brNM mm 12) := hr_8
    subst hr_8
    have hP9 : va_P D vwCl (fl [w_8]) _ := hP9
    have hD9 : va_D A (fl [w_8]) := hD9
    refine n_if_ne (tgt := 371) hx hb (by omega) dL_law_364 (by decide) (fun c10 => ?_) (fun c10 => absurd c10 (by omega))
    refine lv_iconst (v := nI 0) hx hb dL_law_371 (by decide) ?_
    refine n_icmp_ne (tgt := 379) hx hb (by omega) (by omega) dL_law_372 (by decide) (fun c11 => absurd c11 (by decide)) (fun c11 => ?_)
    refine lv_iconst (v := nI 1) hx hb dL_law_375 (by decide) ?_
    refine lv_goto (tgt := 380) hx hb dL_law_376 (by decide) ?_
    refine lv_istore_n (lv' := [(2, .int (nI 1)), (4, .int (-1)), (0, .ref b), (1, .ref xa), (3, .int (nI t))]) hx hb dL_law_380 rfl hl3 (by decide) rfl (fun ls12 hl12 => ?_)
    clear hl3
    refine lv_iload hx hb dL_law_381 (lv_at hl12 1 rfl) ?_
    refine lv_if_le (tgt := 418) hx hb dL_law_383 (by decide) (fun c13 => ?_) (fun c13 => absurd (by decide) c13)
    refine lv_iload_n hx hb dL_law_418 rfl (lv_at hl12 0 rfl) ?_
    refine va_forget (fun z hz => hA2 _ (hS9.2.2 z hz)) ?_
    refine W.widen (k := 614934) (n := 7256381) (by omega) (by omega) ?_
    exact hEnd _ _
  · skip
    refine lv_aload_n hx hb dL_law_325 rfl (lv_at hl0 1 rfl) ?_
    obtain ⟨fs14, hfs14⟩ := XINV.recv hI
    have hPc14 : va_P D vwCl (fl [w]) _ := flP_sub hP0 [0] rfl
    have hDc14 : va_D A (fl [w]) := flD_sub hD0 [0] (by decide) rfl
    refine cl_i (br := []) (va_runV (As := []) (rest := []) ⟨hx, hb, hml, hown, hts⟩ (e_X5_clearIn l D T hI  _) (mkV hts okX5_clearIn kw_391 kw_392 kw_393 ⟨rfl, rfl, (Nat.le_of_ble_eq_true rfl), (Nat.le_of_ble_eq_true rfl)⟩) (pv_rw hK hPc14 hDc14 hfs14 (q := (RX5, TX5, 5)) rfl rfl) rfl rfl hl0.1 rfl (lv_room (Nat.le_of_ble_eq_true rfl)) dL_law_326 ⟨by show _ ≤ 614934; omega, by show _ ≤ 7256381; omega⟩) hP0 hD0 hS0 hA [] [0] rfl (by decide) (fun r_14 w_14 H15 locs15 hq_14 hP15 hD15 hS15 => ?_)
    clear hP0 hD0 hS0 hPc14 hDc14 hfs14 hI
    obtain ⟨hr_14, hI⟩ := hq_14
    have hr_14 : r_14 = clG mm 0 201 := hr_14
    subst hr_14
    have hP15 : va_P D vwCl (fl [w_14]) _ := hP15
    have hD15 : va_D A (fl [w_14]) := hD15
    refine tp_i (y := nI 0) (hcl) ?_
    refine lv_istore (lv' := [(4, .int (nI 0)), (0, .ref b), (1, .ref xa), (2, .int (nI 1)), (3, .int (nI t))]) hx hb dL_law_329 hl0 (by decide) rfl (fun ls16 hl16 => ?_)
    clear hl0
    refine lv_iload_n hx hb dL_law_331 rfl (lv_at hl16 3 rfl) ?_
    refine n_if_eq (tgt := 379) hx hb (by omega) dL_law_332 (by decide) (fun c17 => absurd c17 (by decide)) (fun c17 => ?_)
    refine lv_iload hx hb dL_law_335 (lv_at hl16 0 rfl) ?_
    refine lv_iconst (v := (-1)) hx hb dL_law_337 (by decide) ?_
    refine lv_icmp_lt (tgt := 379) hx hb dL_law_338 (by decide) (fun c18 => absurd c18 (n_m1 (by omega))) (fun c18 => ?_)
    refine lv_iload hx hb dL_law_341 (lv_at hl16 0 rfl) ?_
    refine lv_sipush (v := nI 200) hx hb dL_law_343 (by decide) ?_
    refine n_icmp_gt (tgt := 379) hx hb (by omega) (by omega) dL_law_346 (by decide) (fun c19 => absurd c19 (by omega)) (fun c19 => ?_)
    refine lv_iload hx hb dL_law_349 (lv_at hl16 0 rfl) ?_
    refine n_if_ne (tgt := 358) hx hb (by omega) dL_law_351 (by decide) (fun c20 => absurd c20 (by decide)) (fun c20 => ?_)
    refine lv_iconst (v := nI 1) hx hb dL_law_354 (by decide) ?_
    refine lv_goto (tgt := 359) hx hb dL_law_355 (by decide) ?_
    refine lv_aload_n hx hb dL_law_359 rfl (lv_at hl16 2 rfl) ?_
    refine lv_iconst (v := nI 2) hx hb dL_law_360 (by decide) ?_
    obtain ⟨fs21, hfs21⟩ := XINV.recv hI
    have hPc21 : va_P D vwCl (fl [w_14]) _ := flP_sub hP15 [0] rfl
    have hDc21 : va_D A (fl [w_14]) := flD_sub hD15 [0] (by decide) rfl
    refine cl_i (br := []) (va_runV (As := [.int (nI 2)]) (rest := [.int (nI 1)]) ⟨hx, hb, hml, hown, hts⟩ (e_X5_count l D T hI 2 (by omega) _) (mkV hts okX5_count kw_349 kw_350 kw_351 ⟨rfl, rfl, (Nat.le_of_ble_eq_true rfl), (Nat.le_of_ble_eq_true rfl)⟩) (pv_rw hK hPc21 hDc21 hfs21 (q := (RX5, TX5, 5)) rfl rfl) rfl rfl hl16.1 rfl (lv_room (Nat.le_of_ble_eq_true rfl)) dL_law_361 ⟨by show _ ≤ 614934; omega, by show _ ≤ 7256381; omega⟩) hP15 hD15 hS15 hA [] [0] rfl (by decide) (fun r_21 w_21 H22 locs22 hq_21 hP22 hD22 hS22 => ?_)
    clear hP15 hD15 hS15 hPc21 hDc21 hfs21 hI
    obtain ⟨hr_21, hI⟩ := hq_21
    have hr_21 : r_21 = nI (brNM mm 12) := hr_21
    subst hr_21
    have hP22 : va_P D vwCl (fl [w_21]) _ := hP22
    have hD22 : va_D A (fl [w_21]) := hD22
    refine n_if_ne (tgt := 371) hx hb (by omega) dL_law_364 (by decide) (fun c23 => absurd c23 (by omega)) (fun c23 => ?_)
    refine lv_iconst (v := nI 1) hx hb dL_law_367 (by decide) ?_
    refine lv_goto (tgt := 372) hx hb dL_law_368 (by decide) ?_
    refine n_icmp_ne (tgt := 379) hx hb (by omega) (by omega) dL_law_372 (by decide) (fun c24 => absurd c24 (by decide)) (fun c24 => ?_)
    refine lv_iconst (v := nI 1) hx hb dL_law_375 (by decide) ?_
    refine lv_goto (tgt := 380) hx hb dL_law_376 (by decide) ?_
    refine lv_istore_n (lv' := [(2, .int (nI 1)), (4, .int (nI 0)), (0, .ref b), (1, .ref xa), (3, .int (nI t))]) hx hb dL_law_380 rfl hl16 (by decide) rfl (fun ls25 hl25 => ?_)
    clear hl16
    refine lv_iload hx hb dL_law_381 (lv_at hl25 1 rfl) ?_
    refine n_if_le (tgt := 418) hx hb (by omega) dL_law_383 (by decide) (fun c26 => ?_) (fun c26 => absurd (by decide) c26)
    refine lv_iload_n hx hb dL_law_418 rfl (lv_at hl25 0 rfl) ?_
    refine va_forget (fun z hz => hA2 _ (hS22.2.2 z hz)) ?_
    refine W.widen (k := 614934) (n := 7256381) (by omega) (by omega) ?_
    exact hEnd _ _
  · skip
    refine lv_aload_n hx hb dL_law_325 rfl (lv_at hl0 1 rfl) ?_
    obtain ⟨fs27, hfs27⟩ := XINV.recv hI
    have hPc27 : va_P D vwCl (fl [w]) _ := flP_sub hP0 [0] rfl
    have hDc27 : va_D A (fl [w]) := flD_sub hD0 [0] (by decide) rfl
    refine cl_i (br := []) (va_runV (As := []) (rest := []) ⟨hx, hb, hml, hown, hts⟩ (e_X5_clearIn l D T hI  _) (mkV hts okX5_clearIn kw_391 kw_392 kw_393 ⟨rfl, rfl, (Nat.le_of_ble_eq_true rfl), (Nat.le_of_ble_eq_true rfl)⟩) (pv_rw hK hPc27 hDc27 hfs27 (q := (RX5, TX5, 5)) rfl rfl) rfl rfl hl0.1 rfl (lv_room (Nat.le_of_ble_eq_true rfl)) dL_law_326 ⟨by show _ ≤ 614934; omega, by show _ ≤ 7256381; omega⟩) hP0 hD0 hS0 hA [] [0] rfl (by decide) (fun r_27 w_27 H28 locs28 hq_27 hP28 hD28 hS28 => ?_)
    clear hP0 hD0 hS0 hPc27 hDc27 hfs27 hI
    obtain ⟨hr_27, hI⟩ := hq_27
    have hr_27 : r_27 = clG mm 0 201 := hr_27
    subst hr_27
    have hP28 : va_P D vwCl (fl [w_27]) _ := hP28
    have hD28 : va_D A (fl [w_27]) := hD28
    refine tp_i (y := nI j) (hcl) ?_
    refine lv_istore (lv' := [(4, .int (nI j)), (0, .ref b), (1, .ref xa), (2, .int (nI 1)), (3, .int (nI t))]) hx hb dL_law_329 hl0 (by decide) rfl (fun ls29 hl29 => ?_)
    clear hl0
    refine lv_iload_n hx hb dL_law_331 rfl (lv_at hl29 3 rfl) ?_
    refine n_if_eq (tgt := 379) hx hb (by omega) dL_law_332 (by decide) (fun c30 => absurd c30 (by decide)) (fun c30 => ?_)
    refine lv_iload hx hb dL_law_335 (lv_at hl29 0 rfl) ?_
    refine lv_iconst (v := (-1)) hx hb dL_law_337 (by decide) ?_
    refine lv_icmp_lt (tgt := 379) hx hb dL_law_338 (by decide) (fun c31 => absurd c31 (n_m1 (by omega))) (fun c31 => ?_)
    refine lv_iload hx hb dL_law_341 (lv_at hl29 0 rfl) ?_
    refine lv_sipush (v := nI 200) hx hb dL_law_343 (by decide) ?_
    refine n_icmp_gt (tgt := 379) hx hb (by omega) (by omega) dL_law_346 (by decide) (fun c32 => absurd c32 (by omega)) (fun c32 => ?_)
    refine lv_iload hx hb dL_law_349 (lv_at hl29 0 rfl) ?_
    refine n_if_ne (tgt := 358) hx hb (by omega) dL_law_351 (by decide) (fun c33 => ?_) (fun c33 => absurd c33 (by omega))
    refine lv_iconst (v := nI 0) hx hb dL_law_358 (by decide) ?_
    refine lv_aload_n hx hb dL_law_359 rfl (lv_at hl29 2 rfl) ?_
    refine lv_iconst (v := nI 2) hx hb dL_law_360 (by decide) ?_
    obtain ⟨fs34, hfs34⟩ := XINV.recv hI
    have hPc34 : va_P D vwCl (fl [w_27]) _ := flP_sub hP28 [0] rfl
    have hDc34 : va_D A (fl [w_27]) := flD_sub hD28 [0] (by decide) rfl
    refine cl_i (br := []) (va_runV (As := [.int (nI 2)]) (rest := [.int (nI 0)]) ⟨hx, hb, hml, hown, hts⟩ (e_X5_count l D T hI 2 (by omega) _) (mkV hts okX5_count kw_349 kw_350 kw_351 ⟨rfl, rfl, (Nat.le_of_ble_eq_true rfl), (Nat.le_of_ble_eq_true rfl)⟩) (pv_rw hK hPc34 hDc34 hfs34 (q := (RX5, TX5, 5)) rfl rfl) rfl rfl hl29.1 rfl (lv_room (Nat.le_of_ble_eq_true rfl)) dL_law_361 ⟨by show _ ≤ 614934; omega, by show _ ≤ 7256381; omega⟩) hP28 hD28 hS28 hA [] [0] rfl (by decide) (fun r_34 w_34 H35 locs35 hq_34 hP35 hD35 hS35 => ?_)
    clear hP28 hD28 hS28 hPc34 hDc34 hfs34 hI
    obtain ⟨hr_34, hI⟩ := hq_34
    have hr_34 : r_34 = nI (brNM mm 12) := hr_34
    subst hr_34
    have hP35 : va_P D vwCl (fl [w_34]) _ := hP35
    have hD35 : va_D A (fl [w_34]) := hD35
    refine n_if_ne (tgt := 371) hx hb (by omega) dL_law_364 (by decide) (fun c36 => ?_) (fun c36 => absurd c36 (by omega))
    refine lv_iconst (v := nI 0) hx hb dL_law_371 (by decide) ?_
    refine n_icmp_ne (tgt := 379) hx hb (by omega) (by omega) dL_law_372 (by decide) (fun c37 => absurd c37 (by decide)) (fun c37 => ?_)
    refine lv_iconst (v := nI 1) hx hb dL_law_375 (by decide) ?_
    refine lv_goto (tgt := 380) hx hb dL_law_376 (by decide) ?_
    refine lv_istore_n (lv' := [(2, .int (nI 1)), (4, .int (nI j)), (0, .ref b), (1, .ref xa), (3, .int (nI t))]) hx hb dL_law_380 rfl hl29 (by decide) rfl (fun ls38 hl38 => ?_)
    clear hl29
    refine lv_iload hx hb dL_law_381 (lv_at hl38 1 rfl) ?_
    refine n_if_le (tgt := 418) hx hb (by omega) dL_law_383 (by decide) (fun c39 => absurd c39 (by omega)) (fun c39 => ?_)
    refine lv_iload hx hb dL_law_386 (lv_at hl38 1 rfl) ?_
    refine lv_bipush (v := nI 49) hx hb dL_law_388 (by decide) ?_
    refine n_icmp_ge (tgt := 418) hx hb (by omega) (by omega) dL_law_390 (by decide) (fun c_390 => ?_) (fun c_390 => ?_)
    · skip
      refine lv_iload_n hx hb dL_law_418 rfl (lv_at hl38 0 rfl) ?_
      refine va_forget (fun z hz => hA2 _ (hS35.2.2 z hz)) ?_
      refine W.widen (k := 614934) (n := 7256381) (by omega) (by omega) ?_
      exact hEnd _ _
    · skip
      refine lv_aload_n hx hb dL_law_393 rfl (lv_at hl38 3 rfl) ?_
      refine lv_iload hx hb dL_law_394 (lv_at hl38 1 rfl) ?_
      have hnt41 : (passP (nI j) mm past kp).2.1 = nI 0 := nt_pass (by omega) (by omega)
      obtain ⟨fs41, hfs41⟩ := XINV.recv hI
      have hPc41 : va_P D vwCl (fl [w_34]) _ := flP_sub hP35 [0] rfl
      have hDc41 : va_D A (fl [w_34]) := flD_sub hD35 [0] (by decide) rfl
      refine clx_i (br := []) (vx_runV (As := [.int (nI j)]) (rest := []) ⟨hx, hb, hml, hown, hts⟩ (d_X5_pass l D T hl hI (by omega) (nI j) _) (mkV hts okX5_pass kw_188 kw_189 kw_190 ⟨rfl, rfl, (Nat.le_of_ble_eq_true rfl), (Nat.le_of_ble_eq_true rfl)⟩) (pv_x hK hST hS35 hPc41 hDc41 (vA_c (br := []) hP35 hD35 hS35 hA (isR := []) (isC := [0]) rfl (by decide)) hfs41 (q := (RX5, TX5, 5)) rfl rfl) rfl rfl hl38.1 rfl (lv_room (Nat.le_of_ble_eq_true rfl)) dL_law_396 ⟨by show _ ≤ 614934; omega, by show _ ≤ 7256381; omega⟩) hP35 hD35 hS35 hA [] [0] rfl (by decide) (fun E ce q9 _ux Hx lx hqx hPx hDx hSx h1 h2 h3 => absurd hqx (noX1 hnt41)) (fun r_41 w_41 H42 locs42 hq_41 hP42 hD42 hS42 => ?_)
      clear hP35 hD35 hS35 hPc41 hDc41 hfs41 hI
      obtain ⟨hr_41, -, hI⟩ := hq_41
      have hI : XN T xa w_41 (passP (nI j) mm past kp).2.2.1 (passP (nI j) mm past kp).2.2.2.1 (passP (nI j) mm past kp).2.2.2.2 := XN.of hI
      have hP42 : va_P D vwCl (fl [w_41]) _ := hP42
      have hD42 : va_D A (fl [w_41]) := hD42
      rw [pass_m (by omega) (by omega)] at hI
      have hbl := brNM_le (hourN mm j) 12
      refine lv_pop hx hb dL_law_399 rfl ?_
      refine lv_iload_n hx hb dL_law_400 rfl (lv_at hl38 0 rfl) ?_
      refine n_if_eq (tgt := 416) hx hb (by omega) dL_law_401 (by decide) (fun c43 => absurd c43 (by decide)) (fun c43 => ?_)
      refine lv_aload_n hx hb dL_law_404 rfl (lv_at hl38 3 rfl) ?_
      refine lv_iconst (v := nI 2) hx hb dL_law_405 (by decide) ?_
      obtain ⟨fs44, hfs44⟩ := XINV.recv hI
      have hPc44 : va_P D vwCl (fl [w_41]) _ := flP_sub hP42 [0] rfl
      have hDc44 : va_D A (fl [w_41]) := flD_sub hD42 [0] (by decide) rfl
      refine cl_i (br := []) (va_runV (As := [.int (nI 2)]) (rest := []) ⟨hx, hb, hml, hown, hts⟩ (e_X5_count l D T hI 2 (by omega) _) (mkV hts okX5_count kw_349 kw_350 kw_351 ⟨rfl, rfl, (Nat.le_of_ble_eq_true rfl), (Nat.le_of_ble_eq_true rfl)⟩) (pv_rw hK hPc44 hDc44 hfs44 (q := (RX5, TX5, 5)) rfl rfl) rfl rfl hl38.1 rfl (lv_room (Nat.le_of_ble_eq_true rfl)) dL_law_406 ⟨by show _ ≤ 614934; omega, by show _ ≤ 7256381; omega⟩) hP42 hD42 hS42 hA [] [0] rfl (by decide) (fun r_44 w_44 H45 locs45 hq_44 hP45 hD45 hS45 => ?_)
      clear hP42 hD42 hS42 hPc44 hDc44 hfs44 hI
      obtain ⟨hr_44, hI⟩ := hq_44
      have hr_44 : r_44 = nI (brNM (hourN mm j) 12) := hr_44
      subst hr_44
      have hP45 : va_P D vwCl (fl [w_44]) _ := hP45
      have hD45 : va_D A (fl [w_44]) := hD45
      refine n_if_ne (tgt := 416) hx hb (by omega) dL_law_409 (by decide) (fun c46 => absurd c46 (by omega)) (fun c46 => ?_)
      refine lv_iconst (v := nI 1) hx hb dL_law_412 (by decide) ?_
      refine lv_goto (tgt := 417) hx hb dL_law_413 (by decide) ?_
      refine lv_istore_n (lv' := [(2, .int (nI 1)), (4, .int (nI j)), (0, .ref b), (1, .ref xa), (3, .int (nI t))]) hx hb dL_law_417 rfl hl38 (by decide) rfl (fun ls47 hl47 => ?_)
      clear hl38
      refine lv_iload_n hx hb dL_law_418 rfl (lv_at hl47 0 rfl) ?_
      refine va_forget (fun z hz => hA2 _ (hS45.2.2 z hz)) ?_
      refine W.widen (k := 614934) (n := 7256381) (by omega) (by omega) ?_
      exact hEnd _ _
set_option maxHeartbeats 4000000 in
set_option maxRecDepth 100000 in
theorem law_loop {pX : Program} {l : Launch} {eX : Env} {sX : State} {mX : MethodId} {bX : List Frame} {mtX : Method} {cX : Code} {D : va_G} {T : TI} {A : Nat → Prop} {b L : Nat} {xs : Nat → Int32} {xa t : Nat} {TG : State → Prop} (hCX : LCX pX l sX mX cX D T A b L xs) (ht : t ≤ 44) (hA2 : ∀ z, A z → sX.heap.size ≤ z) (hEnd : ∀ (H : Heap) (ls : Array Slot), W pX l eX room_1 sX mX #[Value.ref b] bX mtX cX H [] 614934 7256381 TG (F0 mX 419 ls [.int (nI 1)])) : ∀ (N k : Nat), 50 ≤ N + k → k ≤ t → LWP pX l eX sX mX bX mtX cX D T A b xa t TG k (160 + 3 * k) (2200 + 18 * k) := by
  obtain ⟨hx, hb, hml, hown, hts, hSC, hK, hST, hA, hl, hL26⟩ := id hCX
  intro N
  induction N with
  | zero => intro k h1 h2; omega
  | succ N ih =>
    intro k h1 h2 w mm past kp hI hG H locs hP hD hS ls hl0
    refine lv_iload hx hb dL_law_32 (lv_at hl0 4 rfl) ?_
    refine lv_iload_n hx hb dL_law_34 rfl (lv_at hl0 3 rfl) ?_
    refine n_icmp_ge (tgt := 325) hx hb (by omega) (by omega) dL_law_35 (by decide) (fun c_35 => ?_) (fun c_35 => ?_)
    · exact law_end hCX hA2 hEnd k (by omega) hI hG hP hD hS hl0
    · exact law_body hCX k (by omega) (ih (k + 1) (by omega) (by omega)) hI hG hP hD hS hl0
