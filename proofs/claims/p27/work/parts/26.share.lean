set_option maxHeartbeats 4000000 in
set_option maxRecDepth 100000 in
theorem c_X5_cleanShare (l : Launch) (D : va_G) (T : TI) (xa : Nat) (qn : Nat → Nat) (c : Nat → Nat → Int32) (L : Nat → Nat) (qt : Nat → Nat) (qh : Nat → Nat) (ya : Nat) (ga : Nat)  : OD l yX5_cleanShare cX5_cleanShare 1 (rmD 3 0 0) D T [.ref xa] [xW xa (qn 0) (qt 0) (qh 0) ya ga, sW T qn c] (fun r => r = shareD (12 - brN c 12)) := by
  refine met_ro rfl (Nat.le_of_ble_eq_true rfl) ?_
  intro pX eX sX mX bX mtX cX hC hP0 hS0 ls0 hl0 TG hTG
  obtain ⟨hx, hb, hr, hml, hown, hts, hlocks, hin, hK⟩ := hC
  have hown : sX.vm.findClass RX5 = some mX.cls := hown
  have hl0 : lv_has ls0 1 [(0, .ref xa)] := hl0
  refine lv_bipush (v := nI 12) hx hb dX5_cleanShare_0 (by decide) ?_
  refine lv_aload_n hx hb dX5_cleanShare_2 rfl (lv_at hl0 0 rfl) ?_
  refine r_get (own := RX5) (C := RX5) (F := TX5) (N := 5) (ci := 5) (v := .ref (qn 0)) hx hb hK hts in_X5 hown hP0 0 rfl rfl 0 (by decide) kw_172 rfl dX5_cleanShare_3 ?_
  have hPc1 : va_P D vwCl (fl [sW T qn c]) _ := hP0.sub [1, 2, 3, 4, 5, 6, 7, 8, 9, 10, 11] rfl
  refine cr_i (va_runV (As := []) (rest := [.int (nI 12)]) ⟨hx, hb, hml, hown, hts⟩ (c_X3_brownStreets l D T qn c ) (mkV hts okX3_brownStreets kw_354 kw_355 kw_356 ⟨rfl, rfl, Nat.le_of_ble_eq_true rfl, Nat.le_of_ble_eq_true rfl⟩) (pv_ro hK hPc1 (q0 := 0) rfl rfl rfl) rfl rfl hl0.1 rfl (lv_room (Nat.le_of_ble_eq_true rfl)) dX5_cleanShare_6 ⟨Nat.le_of_ble_eq_true rfl, Nat.le_of_ble_eq_true rfl⟩) hP0 hS0 (fun r_6 H2 locs2 hq_6 hP2 hS2 => ?_)
  clear hP0 hS0 hPc1
  have hq_6 : r_6 = nI (brN c 12) := hq_6
  subst hq_6
  have hb12 := brN_le c 12
  refine lv_isub hx hb dX5_cleanShare_9 ?_
  refine tp_i (y := nI (12 - (brN c 12))) (pk_sub (by omega)) ?_
  refine lv_i2d hx hb dX5_cleanShare_10 ?_
  refine lv_ldc2d (v := 4622945017495814144) hx hb hown (hts _ kw_434) dX5_cleanShare_11 ?_
  refine lv_ddiv hx hb dX5_cleanShare_14 (shareD_ok _ (by omega)) ?_
  refine ro_d hTG (Nat.le_refl _) (Nat.le_refl _) hx hb hr hlocks hS2 dX5_cleanShare_15 ?_
  first | rfl | trivial
