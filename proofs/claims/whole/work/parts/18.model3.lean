set_option maxHeartbeats 4000000 in
set_option maxRecDepth 100000 in
theorem c_X6_inRounds (l : Launch) (D : va_G) (T : TI) (b : Nat) (a : Nat → Int32)  : OI l yX6_inRounds cX6_inRounds 1 .int (rmD 0 0 0) D T [.ref b] [aW T 0 b 111 a] (fun r => r = inR a) := by
  refine met_ro rfl (Nat.le_of_ble_eq_true rfl) ?_
  intro pX eX sX mX bX mtX cX hC hP0 hS0 ls0 hl0 TG hTG
  obtain ⟨hx, hb, hr, hml, hown, hts, hlocks, hin, hK⟩ := hC
  have hown : sX.vm.findClass RX6 = some mX.cls := hown
  have hl0 : lv_has ls0 1 [(0, .ref b)] := hl0
  refine lv_aload_n hx hb dX6_inRounds_0 rfl (lv_at hl0 0 rfl) ?_
  refine lv_bipush (v := nI 84) hx hb dX6_inRounds_1 (by decide) ?_
  refine r_iald hx hb hK hP0 0 (f := a) (n := 111) rfl 84 (by decide) dX6_inRounds_3 (by decide) ?_
  refine lv_aload_n hx hb dX6_inRounds_4 rfl (lv_at hl0 0 rfl) ?_
  refine lv_bipush (v := nI 93) hx hb dX6_inRounds_5 (by decide) ?_
  refine r_iald hx hb hK hP0 0 (f := a) (n := 111) rfl 93 (by decide) dX6_inRounds_7 (by decide) ?_
  refine lv_iadd hx hb dX6_inRounds_8 ?_
  refine lv_aload_n hx hb dX6_inRounds_9 rfl (lv_at hl0 0 rfl) ?_
  refine lv_bipush (v := nI 102) hx hb dX6_inRounds_10 (by decide) ?_
  refine r_iald hx hb hK hP0 0 (f := a) (n := 111) rfl 102 (by decide) dX6_inRounds_12 (by decide) ?_
  refine lv_iadd hx hb dX6_inRounds_13 ?_
  refine ro_i hTG (Nat.le_refl _) (Nat.le_refl _) hx hb hr hlocks hS0 dX6_inRounds_14 ?_
  first | rfl | trivial
set_option maxHeartbeats 4000000 in
set_option maxRecDepth 100000 in
theorem c_X6_ofStreet (l : Launch) (D : va_G) (T : TI) (q : Nat → Nat) (kp : Nat) (ty : Nat) (th : Int32) (at_ : Nat) (isF : Bool) (op : Int32) (now : Nat → Int32) (s : Nat) (w : Nat) (hs : s < 12) (hw : w ≤ 7) : OI l yX6_ofStreet cX6_ofStreet 3 .int (rmD 3 0 0) D T [.ref (q 0), .int (nI s), .int (nI w)] [mO q (nI kp) (nI ty) th (nI at_) isF op, aW T 0 (q 1) 111 now] (fun r => r = ofSt now s w) := by
  refine met_ro rfl (Nat.le_of_ble_eq_true rfl) ?_
  intro pX eX sX mX bX mtX cX hC hP0 hS0 ls0 hl0 TG hTG
  obtain ⟨hx, hb, hr, hml, hown, hts, hlocks, hin, hK⟩ := hC
  have hown : sX.vm.findClass RX6 = some mX.cls := hown
  have hl0 : lv_has ls0 3 [(0, .ref (q 0)), (1, .int (nI s)), (2, .int (nI w))] := hl0
  rcases (show w = 0 ∨ w = 1 ∨ w = 2 ∨ w = 3 ∨ w = 4 ∨ w = 5 ∨ w = 6 ∨ w = 7 by omega) with rfl | rfl | rfl | rfl | rfl | rfl | rfl | rfl
  · skip
    refine lv_iload_n hx hb dX6_ofStreet_0 rfl (lv_at hl0 2 rfl) ?_
    refine lv_tableIn (tgt := 36) hx hb dX6_ofStreet_1 (by decide) (by decide) rfl (by decide) ?_
    refine lv_aload_n hx hb dX6_ofStreet_36 rfl (lv_at hl0 0 rfl) ?_
    refine r_get (own := RX6) (C := RX6) (F := TX6) (N := 12) (ci := 6) (v := .ref (q 1)) hx hb hK hts in_X6 hown hP0 0 rfl rfl 0 (by decide) kw_670 rfl dX6_ofStreet_37 ?_
    refine lv_iload_n hx hb dX6_ofStreet_40 rfl (lv_at hl0 1 rfl) ?_
    refine lv_iload_n hx hb dX6_ofStreet_41 rfl (lv_at hl0 2 rfl) ?_
    have hPc1 : va_P D vwCl (fl [aW T 0 (q 1) 111 now]) _ := hP0.sub [1] rfl
    refine cr_i (va_runS (As := [.ref (q 1), .int (nI s), .int (nI 0)]) (rest := []) ⟨hx, hb, hml, hown, hts⟩ (c_X6_of l D T (q 1) now s 0 (by omega) (by omega)) (mkS hts okX6_of kw_783 kw_784 ⟨rfl, rfl, Nat.le_of_ble_eq_true rfl, Nat.le_of_ble_eq_true rfl⟩) (ps_ro hK hPc1) rfl rfl hl0.1 rfl (lv_room (Nat.le_of_ble_eq_true rfl)) dX6_ofStreet_42 ⟨Nat.le_of_ble_eq_true rfl, Nat.le_of_ble_eq_true rfl⟩) hP0 hS0 (fun r_42 H2 locs2 hq_42 hP2 hS2 => ?_)
    clear hP0 hS0 hPc1
    have hq_42 : r_42 = now (12 + 6 * s + 0) := hq_42
    subst hq_42
    refine ro_i hTG (Nat.le_refl _) (Nat.le_refl _) hx hb hr hlocks hS2 dX6_ofStreet_45 ?_
    first | rfl | (show _ = bI (brM now s); rw [c_54]; rfl)
  · skip
    refine lv_iload_n hx hb dX6_ofStreet_0 rfl (lv_at hl0 2 rfl) ?_
    refine lv_tableIn (tgt := 36) hx hb dX6_ofStreet_1 (by decide) (by decide) rfl (by decide) ?_
    refine lv_aload_n hx hb dX6_ofStreet_36 rfl (lv_at hl0 0 rfl) ?_
    refine r_get (own := RX6) (C := RX6) (F := TX6) (N := 12) (ci := 6) (v := .ref (q 1)) hx hb hK hts in_X6 hown hP0 0 rfl rfl 0 (by decide) kw_670 rfl dX6_ofStreet_37 ?_
    refine lv_iload_n hx hb dX6_ofStreet_40 rfl (lv_at hl0 1 rfl) ?_
    refine lv_iload_n hx hb dX6_ofStreet_41 rfl (lv_at hl0 2 rfl) ?_
    have hPc3 : va_P D vwCl (fl [aW T 0 (q 1) 111 now]) _ := hP0.sub [1] rfl
    refine cr_i (va_runS (As := [.ref (q 1), .int (nI s), .int (nI 1)]) (rest := []) ⟨hx, hb, hml, hown, hts⟩ (c_X6_of l D T (q 1) now s 1 (by omega) (by omega)) (mkS hts okX6_of kw_783 kw_784 ⟨rfl, rfl, Nat.le_of_ble_eq_true rfl, Nat.le_of_ble_eq_true rfl⟩) (ps_ro hK hPc3) rfl rfl hl0.1 rfl (lv_room (Nat.le_of_ble_eq_true rfl)) dX6_ofStreet_42 ⟨Nat.le_of_ble_eq_true rfl, Nat.le_of_ble_eq_true rfl⟩) hP0 hS0 (fun r_42 H4 locs4 hq_42 hP4 hS4 => ?_)
    clear hP0 hS0 hPc3
    have hq_42 : r_42 = now (12 + 6 * s + 1) := hq_42
    subst hq_42
    refine ro_i hTG (Nat.le_refl _) (Nat.le_refl _) hx hb hr hlocks hS4 dX6_ofStreet_45 ?_
    first | rfl | (show _ = bI (brM now s); rw [c_54]; rfl)
  · skip
    refine lv_iload_n hx hb dX6_ofStreet_0 rfl (lv_at hl0 2 rfl) ?_
    refine lv_tableIn (tgt := 46) hx hb dX6_ofStreet_1 (by decide) (by decide) rfl (by decide) ?_
    refine lv_aload_n hx hb dX6_ofStreet_46 rfl (lv_at hl0 0 rfl) ?_
    refine r_get (own := RX6) (C := RX6) (F := TX6) (N := 12) (ci := 6) (v := .ref (q 1)) hx hb hK hts in_X6 hown hP0 0 rfl rfl 0 (by decide) kw_670 rfl dX6_ofStreet_47 ?_
    refine lv_iload_n hx hb dX6_ofStreet_50 rfl (lv_at hl0 1 rfl) ?_
    have hPc5 : va_P D vwCl (fl [aW T 0 (q 1) 111 now]) _ := hP0.sub [1] rfl
    refine cr_i (va_runS (As := [.ref (q 1), .int (nI s)]) (rest := []) ⟨hx, hb, hml, hown, hts⟩ (c_X6_isBrown l D T (q 1) now s (by omega)) (mkS hts okX6_isBrown kw_803 kw_804 ⟨rfl, rfl, Nat.le_of_ble_eq_true rfl, Nat.le_of_ble_eq_true rfl⟩) (ps_ro hK hPc5) rfl rfl hl0.1 rfl (lv_room (Nat.le_of_ble_eq_true rfl)) dX6_ofStreet_51 ⟨Nat.le_of_ble_eq_true rfl, Nat.le_of_ble_eq_true rfl⟩) hP0 hS0 (fun r_51 H6 locs6 hq_51 hP6 hS6 => ?_)
    clear hP0 hS0 hPc5
    have hq_51 : r_51 = bI (brM now s) := hq_51
    subst hq_51
    refine z_if_eq (tgt := 61) hx hb dX6_ofStreet_54 (by decide) (fun c_54 => ?_) (fun c_54 => ?_)
    · skip
      refine lv_iconst (v := nI 0) hx hb dX6_ofStreet_61 (by decide) ?_
      refine ro_i hTG (Nat.le_refl _) (Nat.le_refl _) hx hb hr hlocks hS6 dX6_ofStreet_62 ?_
      first | rfl | (show _ = bI (brM now s); rw [c_54]; rfl)
    · skip
      refine lv_iconst (v := nI 1) hx hb dX6_ofStreet_57 (by decide) ?_
      refine lv_goto (tgt := 62) hx hb dX6_ofStreet_58 (by decide) ?_
      refine ro_i hTG (Nat.le_refl _) (Nat.le_refl _) hx hb hr hlocks hS6 dX6_ofStreet_62 ?_
      first | rfl | (show _ = bI (brM now s); rw [c_54]; rfl)
  · skip
    refine lv_iload_n hx hb dX6_ofStreet_0 rfl (lv_at hl0 2 rfl) ?_
    refine lv_tableIn (tgt := 63) hx hb dX6_ofStreet_1 (by decide) (by decide) rfl (by decide) ?_
    refine lv_aload_n hx hb dX6_ofStreet_63 rfl (lv_at hl0 0 rfl) ?_
    refine r_get (own := RX6) (C := RX6) (F := TX6) (N := 12) (ci := 6) (v := .ref (q 1)) hx hb hK hts in_X6 hown hP0 0 rfl rfl 0 (by decide) kw_670 rfl dX6_ofStreet_64 ?_
    refine lv_iload_n hx hb dX6_ofStreet_67 rfl (lv_at hl0 1 rfl) ?_
    refine lv_iconst (v := nI 0) hx hb dX6_ofStreet_68 (by decide) ?_
    have hPc8 : va_P D vwCl (fl [aW T 0 (q 1) 111 now]) _ := hP0.sub [1] rfl
    refine cr_i (va_runS (As := [.ref (q 1), .int (nI s), .int (nI 0)]) (rest := []) ⟨hx, hb, hml, hown, hts⟩ (c_X6_pressureAt l D T (q 1) now s (nI 0) (by omega)) (mkS hts okX6_pressureAt kw_797 kw_798 ⟨rfl, rfl, Nat.le_of_ble_eq_true rfl, Nat.le_of_ble_eq_true rfl⟩) (ps_ro hK hPc8) rfl rfl hl0.1 rfl (lv_room (Nat.le_of_ble_eq_true rfl)) dX6_ofStreet_69 ⟨Nat.le_of_ble_eq_true rfl, Nat.le_of_ble_eq_true rfl⟩) hP0 hS0 (fun r_69 H9 locs9 hq_69 hP9 hS9 => ?_)
    clear hP0 hS0 hPc8
    have hq_69 : r_69 = prM now (nI 0) s := hq_69
    subst hq_69
    refine ro_i hTG (Nat.le_refl _) (Nat.le_refl _) hx hb hr hlocks hS9 dX6_ofStreet_72 ?_
    first | rfl | (show _ = bI (brM now s); rw [c_54]; rfl)
  · skip
    refine lv_iload_n hx hb dX6_ofStreet_0 rfl (lv_at hl0 2 rfl) ?_
    refine lv_tableIn (tgt := 73) hx hb dX6_ofStreet_1 (by decide) (by decide) rfl (by decide) ?_
    refine lv_aload_n hx hb dX6_ofStreet_73 rfl (lv_at hl0 0 rfl) ?_
    refine r_get (own := RX6) (C := RX6) (F := TX6) (N := 12) (ci := 6) (v := .ref (q 1)) hx hb hK hts in_X6 hown hP0 0 rfl rfl 0 (by decide) kw_670 rfl dX6_ofStreet_74 ?_
    refine lv_iload_n hx hb dX6_ofStreet_77 rfl (lv_at hl0 1 rfl) ?_
    have hPc10 : va_P D vwCl (fl [aW T 0 (q 1) 111 now]) _ := hP0.sub [1] rfl
    refine cr_i (va_runS (As := [.ref (q 1), .int (nI s)]) (rest := []) ⟨hx, hb, hml, hown, hts⟩ (c_X6_source l D T (q 1) now s (by omega)) (mkS hts okX6_source kw_794 kw_795 ⟨rfl, rfl, Nat.le_of_ble_eq_true rfl, Nat.le_of_ble_eq_true rfl⟩) (ps_ro hK hPc10) rfl rfl hl0.1 rfl (lv_room (Nat.le_of_ble_eq_true rfl)) dX6_ofStreet_78 ⟨Nat.le_of_ble_eq_true rfl, Nat.le_of_ble_eq_true rfl⟩) hP0 hS0 (fun r_78 H11 locs11 hq_78 hP11 hS11 => ?_)
    clear hP0 hS0 hPc10
    have hq_78 : r_78 = srcM now s := hq_78
    subst hq_78
    refine ro_i hTG (Nat.le_refl _) (Nat.le_refl _) hx hb hr hlocks hS11 dX6_ofStreet_81 ?_
    first | rfl | (show _ = bI (brM now s); rw [c_54]; rfl)
  · skip
    refine lv_iload_n hx hb dX6_ofStreet_0 rfl (lv_at hl0 2 rfl) ?_
    refine lv_tableOut (tgt := 82) hx hb dX6_ofStreet_1 (by decide) (by decide) ?_
    refine lv_aload_n hx hb dX6_ofStreet_82 rfl (lv_at hl0 0 rfl) ?_
    refine r_get (own := RX6) (C := RX6) (F := TX6) (N := 12) (ci := 6) (v := .ref (q 1)) hx hb hK hts in_X6 hown hP0 0 rfl rfl 0 (by decide) kw_670 rfl dX6_ofStreet_83 ?_
    refine lv_iload_n hx hb dX6_ofStreet_86 rfl (lv_at hl0 1 rfl) ?_
    refine lv_iload_n hx hb dX6_ofStreet_87 rfl (lv_at hl0 2 rfl) ?_
    refine lv_iconst (v := nI 2) hx hb dX6_ofStreet_88 (by decide) ?_
    refine lv_isub hx hb dX6_ofStreet_89 ?_
    refine tp_i (y := nI 3) (by decide) ?_
    have hPc12 : va_P D vwCl (fl [aW T 0 (q 1) 111 now]) _ := hP0.sub [1] rfl
    refine cr_i (va_runS (As := [.ref (q 1), .int (nI s), .int (nI 3)]) (rest := []) ⟨hx, hb, hml, hown, hts⟩ (c_X6_of l D T (q 1) now s 3 (by omega) (by omega)) (mkS hts okX6_of kw_783 kw_784 ⟨rfl, rfl, Nat.le_of_ble_eq_true rfl, Nat.le_of_ble_eq_true rfl⟩) (ps_ro hK hPc12) rfl rfl hl0.1 rfl (lv_room (Nat.le_of_ble_eq_true rfl)) dX6_ofStreet_90 ⟨Nat.le_of_ble_eq_true rfl, Nat.le_of_ble_eq_true rfl⟩) hP0 hS0 (fun r_90 H13 locs13 hq_90 hP13 hS13 => ?_)
    clear hP0 hS0 hPc12
    have hq_90 : r_90 = now (12 + 6 * s + 3) := hq_90
    subst hq_90
    refine ro_i hTG (Nat.le_refl _) (Nat.le_refl _) hx hb hr hlocks hS13 dX6_ofStreet_93 ?_
    first | rfl | (show _ = bI (brM now s); rw [c_54]; rfl)
  · skip
    refine lv_iload_n hx hb dX6_ofStreet_0 rfl (lv_at hl0 2 rfl) ?_
    refine lv_tableOut (tgt := 82) hx hb dX6_ofStreet_1 (by decide) (by decide) ?_
    refine lv_aload_n hx hb dX6_ofStreet_82 rfl (lv_at hl0 0 rfl) ?_
    refine r_get (own := RX6) (C := RX6) (F := TX6) (N := 12) (ci := 6) (v := .ref (q 1)) hx hb hK hts in_X6 hown hP0 0 rfl rfl 0 (by decide) kw_670 rfl dX6_ofStreet_83 ?_
    refine lv_iload_n hx hb dX6_ofStreet_86 rfl (lv_at hl0 1 rfl) ?_
    refine lv_iload_n hx hb dX6_ofStreet_87 rfl (lv_at hl0 2 rfl) ?_
    refine lv_iconst (v := nI 2) hx hb dX6_ofStreet_88 (by decide) ?_
    refine lv_isub hx hb dX6_ofStreet_89 ?_
    refine tp_i (y := nI 4) (by decide) ?_
    have hPc14 : va_P D vwCl (fl [aW T 0 (q 1) 111 now]) _ := hP0.sub [1] rfl
    refine cr_i (va_runS (As := [.ref (q 1), .int (nI s), .int (nI 4)]) (rest := []) ⟨hx, hb, hml, hown, hts⟩ (c_X6_of l D T (q 1) now s 4 (by omega) (by omega)) (mkS hts okX6_of kw_783 kw_784 ⟨rfl, rfl, Nat.le_of_ble_eq_true rfl, Nat.le_of_ble_eq_true rfl⟩) (ps_ro hK hPc14) rfl rfl hl0.1 rfl (lv_room (Nat.le_of_ble_eq_true rfl)) dX6_ofStreet_90 ⟨Nat.le_of_ble_eq_true rfl, Nat.le_of_ble_eq_true rfl⟩) hP0 hS0 (fun r_90 H15 locs15 hq_90 hP15 hS15 => ?_)
    clear hP0 hS0 hPc14
    have hq_90 : r_90 = now (12 + 6 * s + 4) := hq_90
    subst hq_90
    refine ro_i hTG (Nat.le_refl _) (Nat.le_refl _) hx hb hr hlocks hS15 dX6_ofStreet_93 ?_
    first | rfl | (show _ = bI (brM now s); rw [c_54]; rfl)
  · skip
    refine lv_iload_n hx hb dX6_ofStreet_0 rfl (lv_at hl0 2 rfl) ?_
    refine lv_tableOut (tgt := 82) hx hb dX6_ofStreet_1 (by decide) (by decide) ?_
    refine lv_aload_n hx hb dX6_ofStreet_82 rfl (lv_at hl0 0 rfl) ?_
    refine r_get (own := RX6) (C := RX6) (F := TX6) (N := 12) (ci := 6) (v := .ref (q 1)) hx hb hK hts in_X6 hown hP0 0 rfl rfl 0 (by decide) kw_670 rfl dX6_ofStreet_83 ?_
    refine lv_iload_n hx hb dX6_ofStreet_86 rfl (lv_at hl0 1 rfl) ?_
    refine lv_iload_n hx hb dX6_ofStreet_87 rfl (lv_at hl0 2 rfl) ?_
    refine lv_iconst (v := nI 2) hx hb dX6_ofStreet_88 (by decide) ?_
    refine lv_isub hx hb dX6_ofStreet_89 ?_
    refine tp_i (y := nI 5) (by decide) ?_
    have hPc16 : va_P D vwCl (fl [aW T 0 (q 1) 111 now]) _ := hP0.sub [1] rfl
    refine cr_i (va_runS (As := [.ref (q 1), .int (nI s), .int (nI 5)]) (rest := []) ⟨hx, hb, hml, hown, hts⟩ (c_X6_of l D T (q 1) now s 5 (by omega) (by omega)) (mkS hts okX6_of kw_783 kw_784 ⟨rfl, rfl, Nat.le_of_ble_eq_true rfl, Nat.le_of_ble_eq_true rfl⟩) (ps_ro hK hPc16) rfl rfl hl0.1 rfl (lv_room (Nat.le_of_ble_eq_true rfl)) dX6_ofStreet_90 ⟨Nat.le_of_ble_eq_true rfl, Nat.le_of_ble_eq_true rfl⟩) hP0 hS0 (fun r_90 H17 locs17 hq_90 hP17 hS17 => ?_)
    clear hP0 hS0 hPc16
    have hq_90 : r_90 = now (12 + 6 * s + 5) := hq_90
    subst hq_90
    refine ro_i hTG (Nat.le_refl _) (Nat.le_refl _) hx hb hr hlocks hS17 dX6_ofStreet_93 ?_
    first | rfl | (show _ = bI (brM now s); rw [c_54]; rfl)
set_option maxHeartbeats 4000000 in
set_option maxRecDepth 100000 in
theorem c_X6_street (l : Launch) (D : va_G) (T : TI) (q : Nat → Nat) (kp : Nat) (ty : Nat) (th : Int32) (at_ : Nat) (isF : Bool) (op : Int32) (now : Nat → Int32) (st : Int32) (w : Int32)  : CI l yX6_street cX6_street 3 .int (rmD 4 0 0) D T [.ref (q 0), .int st, .int w] [mO q (nI kp) (nI ty) th (nI at_) isF op, aW T 0 (q 1) 111 now] 0 0 (β := Int32) (fun (th2 : Int32) => [mO q (nI kp) (nI ty) th2 (nI at_) isF op, aW T 0 (q 1) 111 now]) (fun (r : Int32) (th2 : Int32) => (r, th2) = streetP st w now) := by
  intro sz
  refine met_rw (Qc := fun A => va_Qi _ (PST D _ A) A) rfl (Nat.le_of_ble_eq_true rfl) ?_
  intro pX eX sX mX bX mtX cX A hAe hC hA hP0 hD0 hS0 ls0 hl0 TG hTG
  clear hAe
  obtain ⟨hx, hb, hr, hml, hown, hts, hlocks, hin, hK⟩ := hC
  have hown : sX.vm.findClass RX6 = some mX.cls := hown
  have hl0 : lv_has ls0 3 [(0, .ref (q 0)), (1, .int st), (2, .int w)] := hl0
  refine lv_aload_n hx hb dX6_street_0 rfl (lv_at hl0 0 rfl) ?_
  refine lv_iconst (v := nI 0) hx hb dX6_street_1 (by decide) ?_
  refine r_put (own := RX6) (C := RX6) (F := TX6) (N := 12) (ci := 6) (v := nI 0) hx hb hK hts in_X6 tyX6 tyX6_ok nmX6 hown hP0 hD0 hS0 0 rfl rfl 6 (by decide) kw_676 rfl rfl (Nat.le_of_ble_eq_true rfl) dX6_street_2 (fun (H1 : Heap) (locs1 : List Loc) (hP1 : va_P D vwCl (fl [mO q (nI kp) (nI ty) (nI 0) (nI at_) isF op, aW T 0 (q 1) 111 now]) H1) (hD1 : va_D A (fl [mO q (nI kp) (nI ty) (nI 0) (nI at_) isF op, aW T 0 (q 1) 111 now])) hS1 => ?_)
  clear hP0 hD0 hS0
  refine lv_iload_n hx hb dX6_street_5 rfl (lv_at hl0 1 rfl) ?_
  have hPc2 : va_P D vwCl (fl []) _ := hP1.sub [] rfl
  refine cr_i (va_runS (As := [.int st]) (rest := []) ⟨hx, hb, hml, hown, hts⟩ (c_X6_isStreet l D T st ) (mkS hts okX6_isStreet kw_745 kw_746 ⟨rfl, rfl, Nat.le_of_ble_eq_true rfl, Nat.le_of_ble_eq_true rfl⟩) (ps_ro hK hPc2) rfl rfl hl0.1 rfl (lv_room (Nat.le_of_ble_eq_true rfl)) dX6_street_6 ⟨Nat.le_of_ble_eq_true rfl, Nat.le_of_ble_eq_true rfl⟩) hP1 hS1 (fun r_6 H3 locs3 hq_6 hP3 hS3 => ?_)
  clear hP1 hS1 hPc2
  have hD3 := hD1
  clear hD1
  have hq_6 : r_6 = bI (inB st (nI 0) (nI 11)) := hq_6
  subst hq_6
  refine z_if_ne (tgt := 18) hx hb dX6_street_9 (by decide) (fun c_9 => ?_) (fun c_9 => ?_)
  · skip
    obtain ⟨s, hs, rfl⟩ := inB_t c_9 (by decide)
    refine lv_iload_n hx hb dX6_street_18 rfl (lv_at hl0 2 rfl) ?_
    refine lv_iconst (v := nI 0) hx hb dX6_street_19 (by decide) ?_
    refine lv_bipush (v := nI 7) hx hb dX6_street_20 (by decide) ?_
    have hPc5 : va_P D vwCl (fl []) _ := hP3.sub [] rfl
    refine cr_i (va_runS (As := [.int w, .int (nI 0), .int (nI 7)]) (rest := []) ⟨hx, hb, hml, hown, hts⟩ (c_X6_in l D T w (nI 0) (nI 7) ) (mkS hts okX6_in kw_726 kw_727 ⟨rfl, rfl, Nat.le_of_ble_eq_true rfl, Nat.le_of_ble_eq_true rfl⟩) (ps_ro hK hPc5) rfl rfl hl0.1 rfl (lv_room (Nat.le_of_ble_eq_true rfl)) dX6_street_22 ⟨Nat.le_of_ble_eq_true rfl, Nat.le_of_ble_eq_true rfl⟩) hP3 hS3 (fun r_22 H6 locs6 hq_22 hP6 hS6 => ?_)
    clear hP3 hS3 hPc5
    have hD6 := hD3
    clear hD3
    have hq_22 : r_22 = bI (inB w (nI 0) (nI 7)) := hq_22
    subst hq_22
    refine z_if_eq (tgt := 37) hx hb dX6_street_25 (by decide) (fun c_25 => ?_) (fun c_25 => ?_)
    · skip
      refine lv_aload_n hx hb dX6_street_37 rfl (lv_at hl0 0 rfl) ?_
      refine lv_iconst (v := nI 2) hx hb dX6_street_38 (by decide) ?_
      have hPc8 : va_P D vwCl (fl [mO q (nI kp) (nI ty) (nI 0) (nI at_) isF op]) _ := flP_sub hP6 [0] rfl
      have hDc8 : va_D A (fl [mO q (nI kp) (nI ty) (nI 0) (nI at_) isF op]) := flD_sub hD6 [0] (by decide) rfl
      refine cl_i (br := [aW T 0 (q 1) 111 now]) (va_runV (As := [.int (nI 2)]) (rest := []) ⟨hx, hb, hml, hown, hts⟩ (c_X6_fails l D T q kp ty (nI 0) at_ isF op (nI 2)  _) (mkV hts okX6_fails kw_715 kw_717 ks_12 ⟨rfl, rfl, Nat.le_of_ble_eq_true rfl, Nat.le_of_ble_eq_true rfl⟩) (pv_rw hK hPc8 hDc8 (q0 := 0) rfl rfl rfl) rfl rfl hl0.1 rfl (lv_room (Nat.le_of_ble_eq_true rfl)) dX6_street_39 ⟨Nat.le_of_ble_eq_true rfl, Nat.le_of_ble_eq_true rfl⟩) hP6 hD6 hS6 hA [1] [0] rfl (by decide) (fun r_39 th2_39 H9 locs9 hq_39 hP9 hD9 hS9 => ?_)
      clear hP6 hD6 hS6 hPc8 hDc8
      have hP9 : va_P D vwCl (fl [aW T 0 (q 1) 111 now, mO q (nI kp) (nI ty) th2_39 (nI at_) isF op]) _ := hP9
      have hD9 : va_D A (fl [aW T 0 (q 1) 111 now, mO q (nI kp) (nI ty) th2_39 (nI at_) isF op]) := hD9
      obtain ⟨hr_39, hq_39⟩ : r_39 = nI 0 ∧ ((nI 2) = th2_39) := hq_39
      subst hr_39
      have hu_th2_39 : (nI 2) = th2_39 := hq_39
      subst hu_th2_39
      refine ret_i hTG (Nat.le_refl _) (Nat.le_refl _) hx hb hr hlocks (((nI 2))) hP9 hD9 hS9 [1, 0] rfl (by decide) dX6_street_42 ?_
      first | (simp only [streetP, c_9, c_25, if_true, nIcl (show s < 2147483648 by omega), nIcl (show k < 2147483648 by omega), ↓reduceIte, Bool.false_eq_true]; done) | (simp only [streetP, c_9, c_25, if_true, nIcl (show s < 2147483648 by omega), ↓reduceIte, Bool.false_eq_true]; done)
    · skip
      obtain ⟨k, hk, rfl⟩ := inB_t c_25 (by decide)
      refine lv_aload_n hx hb dX6_street_28 rfl (lv_at hl0 0 rfl) ?_
      refine lv_iload_n hx hb dX6_street_29 rfl (lv_at hl0 1 rfl) ?_
      refine lv_iload_n hx hb dX6_street_30 rfl (lv_at hl0 2 rfl) ?_
      have hPc10 : va_P D vwCl (fl [mO q (nI kp) (nI ty) (nI 0) (nI at_) isF op, aW T 0 (q 1) 111 now]) _ := hP6.sub [0, 1] rfl
      refine cr_i (va_runV (As := [.int (nI s), .int (nI k)]) (rest := []) ⟨hx, hb, hml, hown, hts⟩ (c_X6_ofStreet l D T q kp ty (nI 0) at_ isF op now s k (by omega) (by omega)) (mkV hts okX6_ofStreet kw_848 kw_850 ks_21 ⟨rfl, rfl, Nat.le_of_ble_eq_true rfl, Nat.le_of_ble_eq_true rfl⟩) (pv_ro hK hPc10 (q0 := 0) rfl rfl rfl) rfl rfl hl0.1 rfl (lv_room (Nat.le_of_ble_eq_true rfl)) dX6_street_31 ⟨Nat.le_of_ble_eq_true rfl, Nat.le_of_ble_eq_true rfl⟩) hP6 hS6 (fun r_31 H11 locs11 hq_31 hP11 hS11 => ?_)
      clear hP6 hS6 hPc10
      have hD11 := hD6
      clear hD6
      have hq_31 : r_31 = ofSt now s k := hq_31
      subst hq_31
      refine lv_goto (tgt := 42) hx hb dX6_street_34 (by decide) ?_
      refine ret_i hTG (Nat.le_refl _) (Nat.le_refl _) hx hb hr hlocks (((nI 0))) hP11 hD11 hS11 [0, 1] rfl (by decide) dX6_street_42 ?_
      first | (simp only [streetP, c_9, c_25, if_true, nIcl (show s < 2147483648 by omega), nIcl (show k < 2147483648 by omega), ↓reduceIte, Bool.false_eq_true]; done) | (simp only [streetP, c_9, c_25, if_true, nIcl (show s < 2147483648 by omega), ↓reduceIte, Bool.false_eq_true]; done)
  · skip
    refine lv_aload_n hx hb dX6_street_12 rfl (lv_at hl0 0 rfl) ?_
    refine lv_iconst (v := nI 1) hx hb dX6_street_13 (by decide) ?_
    have hPc12 : va_P D vwCl (fl [mO q (nI kp) (nI ty) (nI 0) (nI at_) isF op]) _ := flP_sub hP3 [0] rfl
    have hDc12 : va_D A (fl [mO q (nI kp) (nI ty) (nI 0) (nI at_) isF op]) := flD_sub hD3 [0] (by decide) rfl
    refine cl_i (br := [aW T 0 (q 1) 111 now]) (va_runV (As := [.int (nI 1)]) (rest := []) ⟨hx, hb, hml, hown, hts⟩ (c_X6_fails l D T q kp ty (nI 0) at_ isF op (nI 1)  _) (mkV hts okX6_fails kw_715 kw_717 ks_12 ⟨rfl, rfl, Nat.le_of_ble_eq_true rfl, Nat.le_of_ble_eq_true rfl⟩) (pv_rw hK hPc12 hDc12 (q0 := 0) rfl rfl rfl) rfl rfl hl0.1 rfl (lv_room (Nat.le_of_ble_eq_true rfl)) dX6_street_14 ⟨Nat.le_of_ble_eq_true rfl, Nat.le_of_ble_eq_true rfl⟩) hP3 hD3 hS3 hA [1] [0] rfl (by decide) (fun r_14 th2_14 H13 locs13 hq_14 hP13 hD13 hS13 => ?_)
    clear hP3 hD3 hS3 hPc12 hDc12
    have hP13 : va_P D vwCl (fl [aW T 0 (q 1) 111 now, mO q (nI kp) (nI ty) th2_14 (nI at_) isF op]) _ := hP13
    have hD13 : va_D A (fl [aW T 0 (q 1) 111 now, mO q (nI kp) (nI ty) th2_14 (nI at_) isF op]) := hD13
    obtain ⟨hr_14, hq_14⟩ : r_14 = nI 0 ∧ ((nI 1) = th2_14) := hq_14
    subst hr_14
    have hu_th2_14 : (nI 1) = th2_14 := hq_14
    subst hu_th2_14
    refine ret_i hTG (Nat.le_refl _) (Nat.le_refl _) hx hb hr hlocks (((nI 1))) hP13 hD13 hS13 [1, 0] rfl (by decide) dX6_street_17 ?_
    simp only [streetP, c_9, if_true, ↓reduceIte, Bool.false_eq_true] <;> rfl
set_option maxHeartbeats 4000000 in
set_option maxRecDepth 100000 in
theorem c_X6_round (l : Launch) (D : va_G) (T : TI) (q : Nat → Nat) (kp : Nat) (ty : Nat) (th : Int32) (at_ : Nat) (isF : Bool) (op : Int32) (now : Nat → Int32) (cr : Int32) (pl : Int32) (hok : okM now) : CI l yX6_round cX6_round 4 .int (rmD 2 0 0) D T [.ref (q 0), .int cr, .int pl] [mO q (nI kp) (nI ty) th (nI at_) isF op, aW T 0 (q 1) 111 now] 0 0 (β := Int32) (fun (th2 : Int32) => [mO q (nI kp) (nI ty) th2 (nI at_) isF op, aW T 0 (q 1) 111 now]) (fun (r : Int32) (th2 : Int32) => (r, th2) = roundP cr pl now) := by
  intro sz
  refine met_rw (Qc := fun A => va_Qi _ (PST D _ A) A) rfl (Nat.le_of_ble_eq_true rfl) ?_
  intro pX eX sX mX bX mtX cX A hAe hC hA hP0 hD0 hS0 ls0 hl0 TG hTG
  clear hAe
  obtain ⟨hx, hb, hr, hml, hown, hts, hlocks, hin, hK⟩ := hC
  have hown : sX.vm.findClass RX6 = some mX.cls := hown
  have hl0 : lv_has ls0 4 [(0, .ref (q 0)), (1, .int cr), (2, .int pl)] := hl0
  refine lv_aload_n hx hb dX6_round_0 rfl (lv_at hl0 0 rfl) ?_
  refine lv_iconst (v := nI 0) hx hb dX6_round_1 (by decide) ?_
  refine r_put (own := RX6) (C := RX6) (F := TX6) (N := 12) (ci := 6) (v := nI 0) hx hb hK hts in_X6 tyX6 tyX6_ok nmX6 hown hP0 hD0 hS0 0 rfl rfl 6 (by decide) kw_676 rfl rfl (Nat.le_of_ble_eq_true rfl) dX6_round_2 (fun (H1 : Heap) (locs1 : List Loc) (hP1 : va_P D vwCl (fl [mO q (nI kp) (nI ty) (nI 0) (nI at_) isF op, aW T 0 (q 1) 111 now]) H1) (hD1 : va_D A (fl [mO q (nI kp) (nI ty) (nI 0) (nI at_) isF op, aW T 0 (q 1) 111 now])) hS1 => ?_)
  clear hP0 hD0 hS0
  refine lv_iload_n hx hb dX6_round_5 rfl (lv_at hl0 1 rfl) ?_
  have hPc2 : va_P D vwCl (fl []) _ := hP1.sub [] rfl
  refine cr_i (va_runS (As := [.int cr]) (rest := []) ⟨hx, hb, hml, hown, hts⟩ (c_X6_isCrew l D T cr ) (mkS hts okX6_isCrew kw_756 kw_757 ⟨rfl, rfl, Nat.le_of_ble_eq_true rfl, Nat.le_of_ble_eq_true rfl⟩) (ps_ro hK hPc2) rfl rfl hl0.1 rfl (lv_room (Nat.le_of_ble_eq_true rfl)) dX6_round_6 ⟨Nat.le_of_ble_eq_true rfl, Nat.le_of_ble_eq_true rfl⟩) hP1 hS1 (fun r_6 H3 locs3 hq_6 hP3 hS3 => ?_)
  clear hP1 hS1 hPc2
  have hD3 := hD1
  clear hD1
  have hq_6 : r_6 = bI (inB cr (nI 0) (nI 2)) := hq_6
  subst hq_6
  refine z_if_ne (tgt := 18) hx hb dX6_round_9 (by decide) (fun c_9 => ?_) (fun c_9 => ?_)
  · skip
    obtain ⟨z, hz, rfl⟩ := inB_t c_9 (by decide)
    obtain ⟨n, hn8, hna, -⟩ := hok z (by omega)
    refine lv_iload_n hx hb dX6_round_18 rfl (lv_at hl0 2 rfl) ?_
    refine lv_if_ge (tgt := 28) hx hb dX6_round_19 (by decide) (fun c_19 => ?_) (fun c_19 => ?_)
    · skip
      obtain ⟨j, hj, rfl⟩ := nI_of (Int32.not_lt.mpr c_19)
      refine lv_bipush (v := nI 84) hx hb dX6_round_28 (by decide) ?_
      refine lv_bipush (v := nI 9) hx hb dX6_round_30 (by decide) ?_
      refine lv_iload_n hx hb dX6_round_32 rfl (lv_at hl0 1 rfl) ?_
      refine lv_imul hx hb dX6_round_33 ?_
      refine tp_i (y := nI (9 * z)) (pk_mul _ _) ?_
      refine lv_iadd hx hb dX6_round_34 ?_
      refine tp_i (y := nI (84 + (9 * z))) (nI_add _ _) ?_
      refine lv_istore_n (lv' := [(3, .int (nI (84 + (9 * z)))), (0, .ref (q 0)), (1, .int (nI z)), (2, .int (nI j))]) hx hb dX6_round_35 rfl hl0 (by decide) rfl (fun ls6 hl6 => ?_)
      clear hl0
      refine lv_iload_n hx hb dX6_round_36 rfl (lv_at hl6 3 rfl) ?_
      refine lv_aload_n hx hb dX6_round_37 rfl (lv_at hl6 1 rfl) ?_
      refine r_get (own := RX6) (C := RX6) (F := TX6) (N := 12) (ci := 6) (v := .ref (q 1)) hx hb hK hts in_X6 hown hP3 0 rfl rfl 0 (by decide) kw_670 rfl dX6_round_38 ?_
      refine lv_iload_n hx hb dX6_round_41 rfl (lv_at hl6 0 rfl) ?_
      refine r_iald hx hb hK hP3 1 (f := now) (n := 111) rfl (84 + (9 * z)) (by decide) dX6_round_42 (by omega) ?_
      refine tp_i (y := nI n) (hna) ?_
      refine n_icmp_ge (tgt := 59) hx hb (by omega) (by omega) dX6_round_43 (by decide) (fun c_43 => ?_) (fun c_43 => ?_)
      · skip
        refine lv_iconst (v := (-1)) hx hb dX6_round_59 (by decide) ?_
        refine ret_i hTG (Nat.le_refl _) (Nat.le_refl _) hx hb hr hlocks (((nI 0))) hP3 hD3 hS3 [0, 1] rfl (by decide) dX6_round_60 ?_
        simp only [roundP, c_9, if_true, nI_pos (show j < 2 ^ 31 by omega), hna, nIcl (show z < 2147483648 by omega), nIcl (show j < 2147483648 by omega), nIcl (show n < 2147483648 by omega), ↓reduceIte]
        first | rw [if_neg (by omega)] | rw [if_pos (by omega)]
      · skip
        refine lv_aload_n hx hb dX6_round_46 rfl (lv_at hl6 1 rfl) ?_
        refine r_get (own := RX6) (C := RX6) (F := TX6) (N := 12) (ci := 6) (v := .ref (q 1)) hx hb hK hts in_X6 hown hP3 0 rfl rfl 0 (by decide) kw_670 rfl dX6_round_47 ?_
        refine lv_iload_n hx hb dX6_round_50 rfl (lv_at hl6 0 rfl) ?_
        refine lv_iconst (v := nI 1) hx hb dX6_round_51 (by decide) ?_
        refine lv_iadd hx hb dX6_round_52 ?_
        refine tp_i (y := nI (84 + (9 * z) + 1)) (nI_add _ _) ?_
        refine lv_iload_n hx hb dX6_round_53 rfl (lv_at hl6 3 rfl) ?_
        refine lv_iadd hx hb dX6_round_54 ?_
        refine tp_i (y := nI (84 + (9 * z) + 1 + j)) (nI_add _ _) ?_
        refine r_iald hx hb hK hP3 1 (f := now) (n := 111) rfl (84 + (9 * z) + 1 + j) (by decide) dX6_round_55 (by omega) ?_
        refine lv_goto (tgt := 60) hx hb dX6_round_56 (by decide) ?_
        refine ret_i hTG (Nat.le_refl _) (Nat.le_refl _) hx hb hr hlocks (((nI 0))) hP3 hD3 hS3 [0, 1] rfl (by decide) dX6_round_60 ?_
        simp only [roundP, c_9, if_true, nI_pos (show j < 2 ^ 31 by omega), hna, nIcl (show z < 2147483648 by omega), nIcl (show j < 2147483648 by omega), nIcl (show n < 2147483648 by omega), ↓reduceIte]
        first | rw [if_neg (by omega)] | rw [if_pos (by omega)]
    · skip
      have hlt : pl < 0 := Int32.not_le.mp c_19
      refine lv_aload_n hx hb dX6_round_22 rfl (lv_at hl0 0 rfl) ?_
      refine lv_iconst (v := nI 2) hx hb dX6_round_23 (by decide) ?_
      have hPc8 : va_P D vwCl (fl [mO q (nI kp) (nI ty) (nI 0) (nI at_) isF op]) _ := flP_sub hP3 [0] rfl
      have hDc8 : va_D A (fl [mO q (nI kp) (nI ty) (nI 0) (nI at_) isF op]) := flD_sub hD3 [0] (by decide) rfl
      refine cl_i (br := [aW T 0 (q 1) 111 now]) (va_runV (As := [.int (nI 2)]) (rest := []) ⟨hx, hb, hml, hown, hts⟩ (c_X6_fails l D T q kp ty (nI 0) at_ isF op (nI 2)  _) (mkV hts okX6_fails kw_715 kw_717 ks_12 ⟨rfl, rfl, Nat.le_of_ble_eq_true rfl, Nat.le_of_ble_eq_true rfl⟩) (pv_rw hK hPc8 hDc8 (q0 := 0) rfl rfl rfl) rfl rfl hl0.1 rfl (lv_room (Nat.le_of_ble_eq_true rfl)) dX6_round_24 ⟨Nat.le_of_ble_eq_true rfl, Nat.le_of_ble_eq_true rfl⟩) hP3 hD3 hS3 hA [1] [0] rfl (by decide) (fun r_24 th2_24 H9 locs9 hq_24 hP9 hD9 hS9 => ?_)
      clear hP3 hD3 hS3 hPc8 hDc8
      have hP9 : va_P D vwCl (fl [aW T 0 (q 1) 111 now, mO q (nI kp) (nI ty) th2_24 (nI at_) isF op]) _ := hP9
      have hD9 : va_D A (fl [aW T 0 (q 1) 111 now, mO q (nI kp) (nI ty) th2_24 (nI at_) isF op]) := hD9
      obtain ⟨hr_24, hq_24⟩ : r_24 = nI 0 ∧ ((nI 2) = th2_24) := hq_24
      subst hr_24
      have hu_th2_24 : (nI 2) = th2_24 := hq_24
      subst hu_th2_24
      refine ret_i hTG (Nat.le_refl _) (Nat.le_refl _) hx hb hr hlocks (((nI 2))) hP9 hD9 hS9 [1, 0] rfl (by decide) dX6_round_27 ?_
      simp only [roundP, c_9, if_true, hlt, ↓reduceIte]
  · skip
    refine lv_aload_n hx hb dX6_round_12 rfl (lv_at hl0 0 rfl) ?_
    refine lv_iconst (v := nI 1) hx hb dX6_round_13 (by decide) ?_
    have hPc10 : va_P D vwCl (fl [mO q (nI kp) (nI ty) (nI 0) (nI at_) isF op]) _ := flP_sub hP3 [0] rfl
    have hDc10 : va_D A (fl [mO q (nI kp) (nI ty) (nI 0) (nI at_) isF op]) := flD_sub hD3 [0] (by decide) rfl
    refine cl_i (br := [aW T 0 (q 1) 111 now]) (va_runV (As := [.int (nI 1)]) (rest := []) ⟨hx, hb, hml, hown, hts⟩ (c_X6_fails l D T q kp ty (nI 0) at_ isF op (nI 1)  _) (mkV hts okX6_fails kw_715 kw_717 ks_12 ⟨rfl, rfl, Nat.le_of_ble_eq_true rfl, Nat.le_of_ble_eq_true rfl⟩) (pv_rw hK hPc10 hDc10 (q0 := 0) rfl rfl rfl) rfl rfl hl0.1 rfl (lv_room (Nat.le_of_ble_eq_true rfl)) dX6_round_14 ⟨Nat.le_of_ble_eq_true rfl, Nat.le_of_ble_eq_true rfl⟩) hP3 hD3 hS3 hA [1] [0] rfl (by decide) (fun r_14 th2_14 H11 locs11 hq_14 hP11 hD11 hS11 => ?_)
    clear hP3 hD3 hS3 hPc10 hDc10
    have hP11 : va_P D vwCl (fl [aW T 0 (q 1) 111 now, mO q (nI kp) (nI ty) th2_14 (nI at_) isF op]) _ := hP11
    have hD11 : va_D A (fl [aW T 0 (q 1) 111 now, mO q (nI kp) (nI ty) th2_14 (nI at_) isF op]) := hD11
    obtain ⟨hr_14, hq_14⟩ : r_14 = nI 0 ∧ ((nI 1) = th2_14) := hq_14
    subst hr_14
    have hu_th2_14 : (nI 1) = th2_14 := hq_14
    subst hu_th2_14
    refine ret_i hTG (Nat.le_refl _) (Nat.le_refl _) hx hb hr hlocks (((nI 1))) hP11 hD11 hS11 [1, 0] rfl (by decide) dX6_round_17 ?_
    simp only [roundP, c_9, if_true, ↓reduceIte, Bool.false_eq_true] <;> rfl
set_option maxHeartbeats 4000000 in
set_option maxRecDepth 100000 in
theorem c_X6_counted (l : Launch) (D : va_G) (T : TI) (q : Nat → Nat) (kp : Nat) (ty : Nat) (th : Int32) (at_ : Nat) (isF : Bool) (op : Int32) (now : Nat → Int32) (w : Nat) (hw : w ≤ 8) : OI l yX6_counted cX6_counted 2 .int (rmD 3 0 0) D T [.ref (q 0), .int (nI w)] [mO q (nI kp) (nI ty) th (nI at_) isF op, aW T 0 (q 1) 111 now] (fun r => r = cntd now kp w) := by
  refine met_ro rfl (Nat.le_of_ble_eq_true rfl) ?_
  intro pX eX sX mX bX mtX cX hC hP0 hS0 ls0 hl0 TG hTG
  obtain ⟨hx, hb, hr, hml, hown, hts, hlocks, hin, hK⟩ := hC
  have hown : sX.vm.findClass RX6 = some mX.cls := hown
  have hl0 : lv_has ls0 2 [(0, .ref (q 0)), (1, .int (nI w))] := hl0
  rcases (show w = 0 ∨ w = 1 ∨ w = 2 ∨ w = 3 ∨ w = 4 ∨ w = 5 ∨ w = 6 ∨ w = 7 ∨ w = 8 by omega) with rfl | rfl | rfl | rfl | rfl | rfl | rfl | rfl | rfl
  · skip
    refine lv_iload_n hx hb dX6_counted_0 rfl (lv_at hl0 1 rfl) ?_
    refine lv_tableIn (tgt := 48) hx hb dX6_counted_1 (by decide) (by decide) rfl (by decide) ?_
    refine lv_aload_n hx hb dX6_counted_48 rfl (lv_at hl0 0 rfl) ?_
    refine r_get (own := RX6) (C := RX6) (F := TX6) (N := 12) (ci := 6) (v := .ref (q 1)) hx hb hK hts in_X6 hown hP0 0 rfl rfl 0 (by decide) kw_670 rfl dX6_counted_49 ?_
    refine lv_bipush (v := nI 9) hx hb dX6_counted_52 (by decide) ?_
    refine r_iald hx hb hK hP0 1 (f := now) (n := 111) rfl 9 (by decide) dX6_counted_54 (by decide) ?_
    refine ro_i hTG (Nat.le_refl _) (Nat.le_refl _) hx hb hr hlocks hS0 dX6_counted_55 ?_
    first | rfl | trivial
  · skip
    refine lv_iload_n hx hb dX6_counted_0 rfl (lv_at hl0 1 rfl) ?_
    refine lv_tableIn (tgt := 56) hx hb dX6_counted_1 (by decide) (by decide) rfl (by decide) ?_
    refine lv_aload_n hx hb dX6_counted_56 rfl (lv_at hl0 0 rfl) ?_
    refine r_get (own := RX6) (C := RX6) (F := TX6) (N := 12) (ci := 6) (v := .ref (q 1)) hx hb hK hts in_X6 hown hP0 0 rfl rfl 0 (by decide) kw_670 rfl dX6_counted_57 ?_
    refine lv_iconst (v := nI 0) hx hb dX6_counted_60 (by decide) ?_
    have hPc1 : va_P D vwCl (fl [aW T 0 (q 1) 111 now]) _ := hP0.sub [1] rfl
    refine cr_i (va_runS (As := [.ref (q 1), .int (nI 0)]) (rest := []) ⟨hx, hb, hml, hown, hts⟩ (c_X6_sum l D T (q 1) now 0 (by omega)) (mkS hts okX6_sum kw_780 kw_781 ⟨rfl, rfl, Nat.le_of_ble_eq_true rfl, Nat.le_of_ble_eq_true rfl⟩) (ps_ro hK hPc1) rfl rfl hl0.1 rfl (lv_room (Nat.le_of_ble_eq_true rfl)) dX6_counted_61 ⟨Nat.le_of_ble_eq_true rfl, Nat.le_of_ble_eq_true rfl⟩) hP0 hS0 (fun r_61 H2 locs2 hq_61 hP2 hS2 => ?_)
    clear hP0 hS0 hPc1
    have hq_61 : r_61 = sumM now 0 12 := hq_61
    subst hq_61
    refine ro_i hTG (Nat.le_refl _) (Nat.le_refl _) hx hb hr hlocks hS2 dX6_counted_64 ?_
    first | rfl | trivial
  · skip
    refine lv_iload_n hx hb dX6_counted_0 rfl (lv_at hl0 1 rfl) ?_
    refine lv_tableIn (tgt := 65) hx hb dX6_counted_1 (by decide) (by decide) rfl (by decide) ?_
    refine lv_aload_n hx hb dX6_counted_65 rfl (lv_at hl0 0 rfl) ?_
    refine r_get (own := RX6) (C := RX6) (F := TX6) (N := 12) (ci := 6) (v := .ref (q 1)) hx hb hK hts in_X6 hown hP0 0 rfl rfl 0 (by decide) kw_670 rfl dX6_counted_66 ?_
    have hPc3 : va_P D vwCl (fl [aW T 0 (q 1) 111 now]) _ := hP0.sub [1] rfl
    refine cr_i (va_runS (As := [.ref (q 1)]) (rest := []) ⟨hx, hb, hml, hown, hts⟩ (c_X6_brown l D T (q 1) now ) (mkS hts okX6_brown kw_864 kw_865 ⟨rfl, rfl, Nat.le_of_ble_eq_true rfl, Nat.le_of_ble_eq_true rfl⟩) (ps_ro hK hPc3) rfl rfl hl0.1 rfl (lv_room (Nat.le_of_ble_eq_true rfl)) dX6_counted_69 ⟨Nat.le_of_ble_eq_true rfl, Nat.le_of_ble_eq_true rfl⟩) hP0 hS0 (fun r_69 H4 locs4 hq_69 hP4 hS4 => ?_)
    clear hP0 hS0 hPc3
    have hq_69 : r_69 = nI (brNM now 12) := hq_69
    subst hq_69
    refine ro_i hTG (Nat.le_refl _) (Nat.le_refl _) hx hb hr hlocks hS4 dX6_counted_72 ?_
    first | rfl | trivial
  · skip
    refine lv_iload_n hx hb dX6_counted_0 rfl (lv_at hl0 1 rfl) ?_
    refine lv_tableIn (tgt := 73) hx hb dX6_counted_1 (by decide) (by decide) rfl (by decide) ?_
    refine lv_aload_n hx hb dX6_counted_73 rfl (lv_at hl0 0 rfl) ?_
    refine r_get (own := RX6) (C := RX6) (F := TX6) (N := 12) (ci := 6) (v := .ref (q 1)) hx hb hK hts in_X6 hown hP0 0 rfl rfl 0 (by decide) kw_670 rfl dX6_counted_74 ?_
    refine lv_iload_n hx hb dX6_counted_77 rfl (lv_at hl0 1 rfl) ?_
    have hPc5 : va_P D vwCl (fl [aW T 0 (q 1) 111 now]) _ := hP0.sub [1] rfl
    refine cr_i (va_runS (As := [.ref (q 1), .int (nI 3)]) (rest := []) ⟨hx, hb, hml, hown, hts⟩ (c_X6_sum l D T (q 1) now 3 (by omega)) (mkS hts okX6_sum kw_780 kw_781 ⟨rfl, rfl, Nat.le_of_ble_eq_true rfl, Nat.le_of_ble_eq_true rfl⟩) (ps_ro hK hPc5) rfl rfl hl0.1 rfl (lv_room (Nat.le_of_ble_eq_true rfl)) dX6_counted_78 ⟨Nat.le_of_ble_eq_true rfl, Nat.le_of_ble_eq_true rfl⟩) hP0 hS0 (fun r_78 H6 locs6 hq_78 hP6 hS6 => ?_)
    clear hP0 hS0 hPc5
    have hq_78 : r_78 = sumM now 3 12 := hq_78
    subst hq_78
    refine ro_i hTG (Nat.le_refl _) (Nat.le_refl _) hx hb hr hlocks hS6 dX6_counted_81 ?_
    first | rfl | trivial
  · skip
    refine lv_iload_n hx hb dX6_counted_0 rfl (lv_at hl0 1 rfl) ?_
    refine lv_tableIn (tgt := 73) hx hb dX6_counted_1 (by decide) (by decide) rfl (by decide) ?_
    refine lv_aload_n hx hb dX6_counted_73 rfl (lv_at hl0 0 rfl) ?_
    refine r_get (own := RX6) (C := RX6) (F := TX6) (N := 12) (ci := 6) (v := .ref (q 1)) hx hb hK hts in_X6 hown hP0 0 rfl rfl 0 (by decide) kw_670 rfl dX6_counted_74 ?_
    refine lv_iload_n hx hb dX6_counted_77 rfl (lv_at hl0 1 rfl) ?_
    have hPc7 : va_P D vwCl (fl [aW T 0 (q 1) 111 now]) _ := hP0.sub [1] rfl
    refine cr_i (va_runS (As := [.ref (q 1), .int (nI 4)]) (rest := []) ⟨hx, hb, hml, hown, hts⟩ (c_X6_sum l D T (q 1) now 4 (by omega)) (mkS hts okX6_sum kw_780 kw_781 ⟨rfl, rfl, Nat.le_of_ble_eq_true rfl, Nat.le_of_ble_eq_true rfl⟩) (ps_ro hK hPc7) rfl rfl hl0.1 rfl (lv_room (Nat.le_of_ble_eq_true rfl)) dX6_counted_78 ⟨Nat.le_of_ble_eq_true rfl, Nat.le_of_ble_eq_true rfl⟩) hP0 hS0 (fun r_78 H8 locs8 hq_78 hP8 hS8 => ?_)
    clear hP0 hS0 hPc7
    have hq_78 : r_78 = sumM now 4 12 := hq_78
    subst hq_78
    refine ro_i hTG (Nat.le_refl _) (Nat.le_refl _) hx hb hr hlocks hS8 dX6_counted_81 ?_
    first | rfl | trivial
  · skip
    refine lv_iload_n hx hb dX6_counted_0 rfl (lv_at hl0 1 rfl) ?_
    refine lv_tableIn (tgt := 82) hx hb dX6_counted_1 (by decide) (by decide) rfl (by decide) ?_
    refine lv_aload_n hx hb dX6_counted_82 rfl (lv_at hl0 0 rfl) ?_
    refine r_get (own := RX6) (C := RX6) (F := TX6) (N := 12) (ci := 6) (v := .ref (q 1)) hx hb hK hts in_X6 hown hP0 0 rfl rfl 0 (by decide) kw_670 rfl dX6_counted_83 ?_
    refine lv_bipush (v := nI 10) hx hb dX6_counted_86 (by decide) ?_
    refine r_iald hx hb hK hP0 1 (f := now) (n := 111) rfl 10 (by decide) dX6_counted_88 (by decide) ?_
    refine ro_i hTG (Nat.le_refl _) (Nat.le_refl _) hx hb hr hlocks hS0 dX6_counted_89 ?_
    first | rfl | trivial
  · skip
    refine lv_iload_n hx hb dX6_counted_0 rfl (lv_at hl0 1 rfl) ?_
    refine lv_tableIn (tgt := 90) hx hb dX6_counted_1 (by decide) (by decide) rfl (by decide) ?_
    refine lv_aload_n hx hb dX6_counted_90 rfl (lv_at hl0 0 rfl) ?_
    refine r_get (own := RX6) (C := RX6) (F := TX6) (N := 12) (ci := 6) (v := .ref (q 1)) hx hb hK hts in_X6 hown hP0 0 rfl rfl 0 (by decide) kw_670 rfl dX6_counted_91 ?_
    have hPc9 : va_P D vwCl (fl [aW T 0 (q 1) 111 now]) _ := hP0.sub [1] rfl
    refine cr_i (va_runS (As := [.ref (q 1)]) (rest := []) ⟨hx, hb, hml, hown, hts⟩ (c_X6_inRounds l D T (q 1) now ) (mkS hts okX6_inRounds kw_841 kw_842 ⟨rfl, rfl, Nat.le_of_ble_eq_true rfl, Nat.le_of_ble_eq_true rfl⟩) (ps_ro hK hPc9) rfl rfl hl0.1 rfl (lv_room (Nat.le_of_ble_eq_true rfl)) dX6_counted_94 ⟨Nat.le_of_ble_eq_true rfl, Nat.le_of_ble_eq_true rfl⟩) hP0 hS0 (fun r_94 H10 locs10 hq_94 hP10 hS10 => ?_)
    clear hP0 hS0 hPc9
    have hq_94 : r_94 = inR now := hq_94
    subst hq_94
    refine ro_i hTG (Nat.le_refl _) (Nat.le_refl _) hx hb hr hlocks hS10 dX6_counted_97 ?_
    first | rfl | trivial
  · skip
    refine lv_iload_n hx hb dX6_counted_0 rfl (lv_at hl0 1 rfl) ?_
    refine lv_tableIn (tgt := 98) hx hb dX6_counted_1 (by decide) (by decide) rfl (by decide) ?_
    refine lv_aload_n hx hb dX6_counted_98 rfl (lv_at hl0 0 rfl) ?_
    refine r_get (own := RX6) (C := RX6) (F := TX6) (N := 12) (ci := 6) (v := .ref (q 1)) hx hb hK hts in_X6 hown hP0 0 rfl rfl 0 (by decide) kw_670 rfl dX6_counted_99 ?_
    refine lv_bipush (v := nI 11) hx hb dX6_counted_102 (by decide) ?_
    refine r_iald hx hb hK hP0 1 (f := now) (n := 111) rfl 11 (by decide) dX6_counted_104 (by decide) ?_
    refine ro_i hTG (Nat.le_refl _) (Nat.le_refl _) hx hb hr hlocks hS0 dX6_counted_105 ?_
    first | rfl | trivial
  · skip
    refine lv_iload_n hx hb dX6_counted_0 rfl (lv_at hl0 1 rfl) ?_
    refine lv_tableOut (tgt := 106) hx hb dX6_counted_1 (by decide) (by decide) ?_
    refine lv_aload_n hx hb dX6_counted_106 rfl (lv_at hl0 0 rfl) ?_
    refine r_get (own := RX6) (C := RX6) (F := TX6) (N := 12) (ci := 6) (v := .int (nI kp)) hx hb hK hts in_X6 hown hP0 0 rfl rfl 3 (by decide) kw_673 rfl dX6_counted_107 ?_
    refine ro_i hTG (Nat.le_refl _) (Nat.le_refl _) hx hb hr hlocks hS0 dX6_counted_110 ?_
    first | rfl | trivial
set_option maxHeartbeats 4000000 in
set_option maxRecDepth 100000 in
theorem c_X6_count (l : Launch) (D : va_G) (T : TI) (q : Nat → Nat) (kp : Nat) (ty : Nat) (th : Int32) (at_ : Nat) (isF : Bool) (op : Int32) (now : Nat → Int32) (w : Int32)  : CI l yX6_count cX6_count 2 .int (rmD 4 0 0) D T [.ref (q 0), .int w] [mO q (nI kp) (nI ty) th (nI at_) isF op, aW T 0 (q 1) 111 now] 0 0 (β := Int32) (fun (th2 : Int32) => [mO q (nI kp) (nI ty) th2 (nI at_) isF op, aW T 0 (q 1) 111 now]) (fun (r : Int32) (th2 : Int32) => (r, th2) = countP w now kp) := by
  intro sz
  refine met_rw (Qc := fun A => va_Qi _ (PST D _ A) A) rfl (Nat.le_of_ble_eq_true rfl) ?_
  intro pX eX sX mX bX mtX cX A hAe hC hA hP0 hD0 hS0 ls0 hl0 TG hTG
  clear hAe
  obtain ⟨hx, hb, hr, hml, hown, hts, hlocks, hin, hK⟩ := hC
  have hown : sX.vm.findClass RX6 = some mX.cls := hown
  have hl0 : lv_has ls0 2 [(0, .ref (q 0)), (1, .int w)] := hl0
  refine lv_aload_n hx hb dX6_count_0 rfl (lv_at hl0 0 rfl) ?_
  refine lv_iconst (v := nI 0) hx hb dX6_count_1 (by decide) ?_
  refine r_put (own := RX6) (C := RX6) (F := TX6) (N := 12) (ci := 6) (v := nI 0) hx hb hK hts in_X6 tyX6 tyX6_ok nmX6 hown hP0 hD0 hS0 0 rfl rfl 6 (by decide) kw_676 rfl rfl (Nat.le_of_ble_eq_true rfl) dX6_count_2 (fun (H1 : Heap) (locs1 : List Loc) (hP1 : va_P D vwCl (fl [mO q (nI kp) (nI ty) (nI 0) (nI at_) isF op, aW T 0 (q 1) 111 now]) H1) (hD1 : va_D A (fl [mO q (nI kp) (nI ty) (nI 0) (nI at_) isF op, aW T 0 (q 1) 111 now])) hS1 => ?_)
  clear hP0 hD0 hS0
  refine lv_iload_n hx hb dX6_count_5 rfl (lv_at hl0 1 rfl) ?_
  refine lv_iconst (v := nI 0) hx hb dX6_count_6 (by decide) ?_
  refine lv_bipush (v := nI 8) hx hb dX6_count_7 (by decide) ?_
  have hPc2 : va_P D vwCl (fl []) _ := hP1.sub [] rfl
  refine cr_i (va_runS (As := [.int w, .int (nI 0), .int (nI 8)]) (rest := []) ⟨hx, hb, hml, hown, hts⟩ (c_X6_in l D T w (nI 0) (nI 8) ) (mkS hts okX6_in kw_726 kw_727 ⟨rfl, rfl, Nat.le_of_ble_eq_true rfl, Nat.le_of_ble_eq_true rfl⟩) (ps_ro hK hPc2) rfl rfl hl0.1 rfl (lv_room (Nat.le_of_ble_eq_true rfl)) dX6_count_9 ⟨Nat.le_of_ble_eq_true rfl, Nat.le_of_ble_eq_true rfl⟩) hP1 hS1 (fun r_9 H3 locs3 hq_9 hP3 hS3 => ?_)
  clear hP1 hS1 hPc2
  have hD3 := hD1
  clear hD1
  have hq_9 : r_9 = bI (inB w (nI 0) (nI 8)) := hq_9
  subst hq_9
  refine z_if_eq (tgt := 23) hx hb dX6_count_12 (by decide) (fun c_12 => ?_) (fun c_12 => ?_)
  · skip
    refine lv_aload_n hx hb dX6_count_23 rfl (lv_at hl0 0 rfl) ?_
    refine lv_iconst (v := nI 1) hx hb dX6_count_24 (by decide) ?_
    have hPc5 : va_P D vwCl (fl [mO q (nI kp) (nI ty) (nI 0) (nI at_) isF op]) _ := flP_sub hP3 [0] rfl
    have hDc5 : va_D A (fl [mO q (nI kp) (nI ty) (nI 0) (nI at_) isF op]) := flD_sub hD3 [0] (by decide) rfl
    refine cl_i (br := [aW T 0 (q 1) 111 now]) (va_runV (As := [.int (nI 1)]) (rest := []) ⟨hx, hb, hml, hown, hts⟩ (c_X6_fails l D T q kp ty (nI 0) at_ isF op (nI 1)  _) (mkV hts okX6_fails kw_715 kw_717 ks_12 ⟨rfl, rfl, Nat.le_of_ble_eq_true rfl, Nat.le_of_ble_eq_true rfl⟩) (pv_rw hK hPc5 hDc5 (q0 := 0) rfl rfl rfl) rfl rfl hl0.1 rfl (lv_room (Nat.le_of_ble_eq_true rfl)) dX6_count_25 ⟨Nat.le_of_ble_eq_true rfl, Nat.le_of_ble_eq_true rfl⟩) hP3 hD3 hS3 hA [1] [0] rfl (by decide) (fun r_25 th2_25 H6 locs6 hq_25 hP6 hD6 hS6 => ?_)
    clear hP3 hD3 hS3 hPc5 hDc5
    have hP6 : va_P D vwCl (fl [aW T 0 (q 1) 111 now, mO q (nI kp) (nI ty) th2_25 (nI at_) isF op]) _ := hP6
    have hD6 : va_D A (fl [aW T 0 (q 1) 111 now, mO q (nI kp) (nI ty) th2_25 (nI at_) isF op]) := hD6
    obtain ⟨hr_25, hq_25⟩ : r_25 = nI 0 ∧ ((nI 1) = th2_25) := hq_25
    subst hr_25
    have hu_th2_25 : (nI 1) = th2_25 := hq_25
    subst hu_th2_25
    refine ret_i hTG (Nat.le_refl _) (Nat.le_refl _) hx hb hr hlocks (((nI 1))) hP6 hD6 hS6 [1, 0] rfl (by decide) dX6_count_28 ?_
    first | (simp only [countP, c_12, if_true, nIcl (show k < 2147483648 by omega), ↓reduceIte, Bool.false_eq_true]; done) | (simp only [countP, c_12, if_true, ↓reduceIte, Bool.false_eq_true]; done)
  · skip
    obtain ⟨k, hk, rfl⟩ := inB_t c_12 (by decide)
    refine lv_aload_n hx hb dX6_count_15 rfl (lv_at hl0 0 rfl) ?_
    refine lv_iload_n hx hb dX6_count_16 rfl (lv_at hl0 1 rfl) ?_
    have hPc7 : va_P D vwCl (fl [mO q (nI kp) (nI ty) (nI 0) (nI at_) isF op, aW T 0 (q 1) 111 now]) _ := hP3.sub [0, 1] rfl
    refine cr_i (va_runV (As := [.int (nI k)]) (rest := []) ⟨hx, hb, hml, hown, hts⟩ (c_X6_counted l D T q kp ty (nI 0) at_ isF op now k (by omega)) (mkV hts okX6_counted kw_860 kw_862 ks_22 ⟨rfl, rfl, Nat.le_of_ble_eq_true rfl, Nat.le_of_ble_eq_true rfl⟩) (pv_ro hK hPc7 (q0 := 0) rfl rfl rfl) rfl rfl hl0.1 rfl (lv_room (Nat.le_of_ble_eq_true rfl)) dX6_count_17 ⟨Nat.le_of_ble_eq_true rfl, Nat.le_of_ble_eq_true rfl⟩) hP3 hS3 (fun r_17 H8 locs8 hq_17 hP8 hS8 => ?_)
    clear hP3 hS3 hPc7
    have hD8 := hD3
    clear hD3
    have hq_17 : r_17 = cntd now kp k := hq_17
    subst hq_17
    refine lv_goto (tgt := 28) hx hb dX6_count_20 (by decide) ?_
    refine ret_i hTG (Nat.le_refl _) (Nat.le_refl _) hx hb hr hlocks (((nI 0))) hP8 hD8 hS8 [0, 1] rfl (by decide) dX6_count_28 ?_
    first | (simp only [countP, c_12, if_true, nIcl (show k < 2147483648 by omega), ↓reduceIte, Bool.false_eq_true]; done) | (simp only [countP, c_12, if_true, ↓reduceIte, Bool.false_eq_true]; done)
set_option maxHeartbeats 4000000 in
set_option maxRecDepth 100000 in
theorem c_X6_setting (l : Launch) (D : va_G) (T : TI) (q : Nat → Nat) (kp : Nat) (ty : Nat) (th : Int32) (at_ : Nat) (isF : Bool) (op : Int32) (now : Nat → Int32) (w : Int32)  : CI l yX6_setting cX6_setting 2 .int (rmD 1 0 0) D T [.ref (q 0), .int w] [mO q (nI kp) (nI ty) th (nI at_) isF op, aW T 0 (q 1) 111 now] 0 0 (β := Int32) (fun (th2 : Int32) => [mO q (nI kp) (nI ty) th2 (nI at_) isF op, aW T 0 (q 1) 111 now]) (fun (r : Int32) (th2 : Int32) => (r, th2) = settingP w now) := by
  intro sz
  refine met_rw (Qc := fun A => va_Qi _ (PST D _ A) A) rfl (Nat.le_of_ble_eq_true rfl) ?_
  intro pX eX sX mX bX mtX cX A hAe hC hA hP0 hD0 hS0 ls0 hl0 TG hTG
  clear hAe
  obtain ⟨hx, hb, hr, hml, hown, hts, hlocks, hin, hK⟩ := hC
  have hown : sX.vm.findClass RX6 = some mX.cls := hown
  have hl0 : lv_has ls0 2 [(0, .ref (q 0)), (1, .int w)] := hl0
  refine lv_aload_n hx hb dX6_setting_0 rfl (lv_at hl0 0 rfl) ?_
  refine lv_iconst (v := nI 0) hx hb dX6_setting_1 (by decide) ?_
  refine r_put (own := RX6) (C := RX6) (F := TX6) (N := 12) (ci := 6) (v := nI 0) hx hb hK hts in_X6 tyX6 tyX6_ok nmX6 hown hP0 hD0 hS0 0 rfl rfl 6 (by decide) kw_676 rfl rfl (Nat.le_of_ble_eq_true rfl) dX6_setting_2 (fun (H1 : Heap) (locs1 : List Loc) (hP1 : va_P D vwCl (fl [mO q (nI kp) (nI ty) (nI 0) (nI at_) isF op, aW T 0 (q 1) 111 now]) H1) (hD1 : va_D A (fl [mO q (nI kp) (nI ty) (nI 0) (nI at_) isF op, aW T 0 (q 1) 111 now])) hS1 => ?_)
  clear hP0 hD0 hS0
  refine lv_iload_n hx hb dX6_setting_5 rfl (lv_at hl0 1 rfl) ?_
  refine lv_iconst (v := nI 0) hx hb dX6_setting_6 (by decide) ?_
  refine lv_iconst (v := nI 3) hx hb dX6_setting_7 (by decide) ?_
  have hPc2 : va_P D vwCl (fl []) _ := hP1.sub [] rfl
  refine cr_i (va_runS (As := [.int w, .int (nI 0), .int (nI 3)]) (rest := []) ⟨hx, hb, hml, hown, hts⟩ (c_X6_in l D T w (nI 0) (nI 3) ) (mkS hts okX6_in kw_726 kw_727 ⟨rfl, rfl, Nat.le_of_ble_eq_true rfl, Nat.le_of_ble_eq_true rfl⟩) (ps_ro hK hPc2) rfl rfl hl0.1 rfl (lv_room (Nat.le_of_ble_eq_true rfl)) dX6_setting_8 ⟨Nat.le_of_ble_eq_true rfl, Nat.le_of_ble_eq_true rfl⟩) hP1 hS1 (fun r_8 H3 locs3 hq_8 hP3 hS3 => ?_)
  clear hP1 hS1 hPc2
  have hD3 := hD1
  clear hD1
  have hq_8 : r_8 = bI (inB w (nI 0) (nI 3)) := hq_8
  subst hq_8
  refine z_if_eq (tgt := 23) hx hb dX6_setting_11 (by decide) (fun c_11 => ?_) (fun c_11 => ?_)
  · skip
    refine lv_aload_n hx hb dX6_setting_23 rfl (lv_at hl0 0 rfl) ?_
    refine lv_iconst (v := nI 1) hx hb dX6_setting_24 (by decide) ?_
    have hPc5 : va_P D vwCl (fl [mO q (nI kp) (nI ty) (nI 0) (nI at_) isF op]) _ := flP_sub hP3 [0] rfl
    have hDc5 : va_D A (fl [mO q (nI kp) (nI ty) (nI 0) (nI at_) isF op]) := flD_sub hD3 [0] (by decide) rfl
    refine cl_i (br := [aW T 0 (q 1) 111 now]) (va_runV (As := [.int (nI 1)]) (rest := []) ⟨hx, hb, hml, hown, hts⟩ (c_X6_fails l D T q kp ty (nI 0) at_ isF op (nI 1)  _) (mkV hts okX6_fails kw_715 kw_717 ks_12 ⟨rfl, rfl, Nat.le_of_ble_eq_true rfl, Nat.le_of_ble_eq_true rfl⟩) (pv_rw hK hPc5 hDc5 (q0 := 0) rfl rfl rfl) rfl rfl hl0.1 rfl (lv_room (Nat.le_of_ble_eq_true rfl)) dX6_setting_25 ⟨Nat.le_of_ble_eq_true rfl, Nat.le_of_ble_eq_true rfl⟩) hP3 hD3 hS3 hA [1] [0] rfl (by decide) (fun r_25 th2_25 H6 locs6 hq_25 hP6 hD6 hS6 => ?_)
    clear hP3 hD3 hS3 hPc5 hDc5
    have hP6 : va_P D vwCl (fl [aW T 0 (q 1) 111 now, mO q (nI kp) (nI ty) th2_25 (nI at_) isF op]) _ := hP6
    have hD6 : va_D A (fl [aW T 0 (q 1) 111 now, mO q (nI kp) (nI ty) th2_25 (nI at_) isF op]) := hD6
    obtain ⟨hr_25, hq_25⟩ : r_25 = nI 0 ∧ ((nI 1) = th2_25) := hq_25
    subst hr_25
    have hu_th2_25 : (nI 1) = th2_25 := hq_25
    subst hu_th2_25
    refine ret_i hTG (Nat.le_refl _) (Nat.le_refl _) hx hb hr hlocks (((nI 1))) hP6 hD6 hS6 [1, 0] rfl (by decide) dX6_setting_28 ?_
    first | (simp only [settingP, c_11, if_true, nIcl (show k < 2147483648 by omega), ↓reduceIte, Bool.false_eq_true]; done) | (simp only [settingP, c_11, if_true, ↓reduceIte, Bool.false_eq_true]; done)
  · skip
    obtain ⟨k, hk, rfl⟩ := inB_t c_11 (by decide)
    refine lv_aload_n hx hb dX6_setting_14 rfl (lv_at hl0 0 rfl) ?_
    refine r_get (own := RX6) (C := RX6) (F := TX6) (N := 12) (ci := 6) (v := .ref (q 1)) hx hb hK hts in_X6 hown hP3 0 rfl rfl 0 (by decide) kw_670 rfl dX6_setting_15 ?_
    refine lv_iload_n hx hb dX6_setting_18 rfl (lv_at hl0 1 rfl) ?_
    refine r_iald hx hb hK hP3 1 (f := now) (n := 111) rfl k (by decide) dX6_setting_19 (by omega) ?_
    refine lv_goto (tgt := 28) hx hb dX6_setting_20 (by decide) ?_
    refine ret_i hTG (Nat.le_refl _) (Nat.le_refl _) hx hb hr hlocks (((nI 0))) hP3 hD3 hS3 [0, 1] rfl (by decide) dX6_setting_28 ?_
    first | (simp only [settingP, c_11, if_true, nIcl (show k < 2147483648 by omega), ↓reduceIte, Bool.false_eq_true]; done) | (simp only [settingP, c_11, if_true, ↓reduceIte, Bool.false_eq_true]; done)
set_option maxHeartbeats 4000000 in
set_option maxRecDepth 100000 in
theorem c_X6_waits (l : Launch) (D : va_G) (T : TI) (q : Nat → Nat) (kp : Nat) (ty : Nat) (th : Int32) (at_ : Nat) (isF : Bool) (op : Int32) (now : Nat → Int32) (wh : Nat → Int32) (cr : Int32) (hok : okM now) : CI l yX6_waits cX6_waits 2 .int (rmD 4 0 0) D T [.ref (q 0), .int cr] [mO q (nI kp) (nI ty) th (nI at_) isF op, aW T 0 (q 1) 111 now, aW T 0 (q 6) 3 wh] 0 0 (β := Int32 × Int32 × (Nat → Int32)) (fun ⟨th2, op2, wh2⟩ => [mO q (nI kp) (nI ty) th2 (nI at_) isF op2, aW T 0 (q 1) 111 now, aW T 0 (q 6) 3 wh2]) (fun (r : Int32) ⟨th2, op2, wh2⟩ => (r, th2) = waitsP cr now wh) := by
  intro sz
  refine met_rw (Qc := fun A => va_Qi _ (PST D _ A) A) rfl (Nat.le_of_ble_eq_true rfl) ?_
  intro pX eX sX mX bX mtX cX A hAe hC hA hP0 hD0 hS0 ls0 hl0 TG hTG
  clear hAe
  obtain ⟨hx, hb, hr, hml, hown, hts, hlocks, hin, hK⟩ := hC
  have hown : sX.vm.findClass RX6 = some mX.cls := hown
  have hl0 : lv_has ls0 2 [(0, .ref (q 0)), (1, .int cr)] := hl0
  refine lv_aload_n hx hb dX6_waits_0 rfl (lv_at hl0 0 rfl) ?_
  refine lv_iconst (v := nI 0) hx hb dX6_waits_1 (by decide) ?_
  refine r_put (own := RX6) (C := RX6) (F := TX6) (N := 12) (ci := 6) (v := nI 0) hx hb hK hts in_X6 tyX6 tyX6_ok nmX6 hown hP0 hD0 hS0 0 rfl rfl 6 (by decide) kw_676 rfl rfl (Nat.le_of_ble_eq_true rfl) dX6_waits_2 (fun (H1 : Heap) (locs1 : List Loc) (hP1 : va_P D vwCl (fl [mO q (nI kp) (nI ty) (nI 0) (nI at_) isF op, aW T 0 (q 1) 111 now, aW T 0 (q 6) 3 wh]) H1) (hD1 : va_D A (fl [mO q (nI kp) (nI ty) (nI 0) (nI at_) isF op, aW T 0 (q 1) 111 now, aW T 0 (q 6) 3 wh])) hS1 => ?_)
  clear hP0 hD0 hS0
  refine lv_iload_n hx hb dX6_waits_5 rfl (lv_at hl0 1 rfl) ?_
  have hPc2 : va_P D vwCl (fl []) _ := hP1.sub [] rfl
  refine cr_i (va_runS (As := [.int cr]) (rest := []) ⟨hx, hb, hml, hown, hts⟩ (c_X6_isCrew l D T cr ) (mkS hts okX6_isCrew kw_756 kw_757 ⟨rfl, rfl, Nat.le_of_ble_eq_true rfl, Nat.le_of_ble_eq_true rfl⟩) (ps_ro hK hPc2) rfl rfl hl0.1 rfl (lv_room (Nat.le_of_ble_eq_true rfl)) dX6_waits_6 ⟨Nat.le_of_ble_eq_true rfl, Nat.le_of_ble_eq_true rfl⟩) hP1 hS1 (fun r_6 H3 locs3 hq_6 hP3 hS3 => ?_)
  clear hP1 hS1 hPc2
  have hD3 := hD1
  clear hD1
  have hq_6 : r_6 = bI (inB cr (nI 0) (nI 2)) := hq_6
  subst hq_6
  refine z_if_ne (tgt := 18) hx hb dX6_waits_9 (by decide) (fun c_9 => ?_) (fun c_9 => ?_)
  · skip
    obtain ⟨z, hz, rfl⟩ := inB_t c_9 (by decide)
    refine lv_aload_n hx hb dX6_waits_18 rfl (lv_at hl0 0 rfl) ?_
    refine lv_aload_n hx hb dX6_waits_19 rfl (lv_at hl0 0 rfl) ?_
    refine r_get (own := RX6) (C := RX6) (F := TX6) (N := 12) (ci := 6) (v := .ref (q 1)) hx hb hK hts in_X6 hown hP3 0 rfl rfl 0 (by decide) kw_670 rfl dX6_waits_20 ?_
    have hPc5 : va_P D vwCl (fl [mO q (nI kp) (nI ty) (nI 0) (nI at_) isF op, aW T 0 (q 1) 111 now, aW T 0 (q 6) 3 wh]) _ := flP_sub hP3 [0, 1, 2] rfl
    have hDc5 : va_D A (fl [mO q (nI kp) (nI ty) (nI 0) (nI at_) isF op, aW T 0 (q 1) 111 now, aW T 0 (q 6) 3 wh]) := flD_sub hD3 [0, 1, 2] (by decide) rfl
    refine cl_v (br := []) (va_runV (As := [.ref (q 1)]) (rest := []) ⟨hx, hb, hml, hown, hts⟩ (c_X6_lays l D T q kp ty (nI 0) at_ isF op (q 1) now wh (hok) _) (mkV hts okX6_lays kw_790 kw_792 ks_16 ⟨rfl, rfl, Nat.le_of_ble_eq_true rfl, Nat.le_of_ble_eq_true rfl⟩) (pv_rw hK hPc5 hDc5 (q0 := 0) rfl rfl rfl) rfl rfl hl0.1 rfl (lv_room (Nat.le_of_ble_eq_true rfl)) dX6_waits_23 ⟨Nat.le_of_ble_eq_true rfl, Nat.le_of_ble_eq_true rfl⟩) hP3 hD3 hS3 hA [] [0, 1, 2] rfl (by decide) (fun u_23 H6 locs6 hq_23 hP6 hD6 hS6 => ?_)
    clear hP3 hD3 hS3 hPc5 hDc5
    obtain ⟨op2_23, wh2_23⟩ := u_23
    have hP6 : va_P D vwCl (fl [mO q (nI kp) (nI ty) (nI 0) (nI at_) isF op2_23, aW T 0 (q 1) 111 now, aW T 0 (q 6) 3 wh2_23]) _ := hP6
    have hD6 : va_D A (fl [mO q (nI kp) (nI ty) (nI 0) (nI at_) isF op2_23, aW T 0 (q 1) 111 now, aW T 0 (q 6) 3 wh2_23]) := hD6
    have hq_23 : (op2_23, wh2_23) = laI now wh 3 := hq_23
    refine lv_aload_n hx hb dX6_waits_26 rfl (lv_at hl0 0 rfl) ?_
    refine r_get (own := RX6) (C := RX6) (F := TX6) (N := 12) (ci := 6) (v := .ref (q 6)) hx hb hK hts in_X6 hown hP6 0 rfl rfl 10 (by decide) kw_680 rfl dX6_waits_27 ?_
    refine lv_iload_n hx hb dX6_waits_30 rfl (lv_at hl0 1 rfl) ?_
    refine r_iald hx hb hK hP6 2 (f := wh2_23) (n := 3) rfl z (by decide) dX6_waits_31 (by omega) ?_
    refine ret_i hTG (Nat.le_refl _) (Nat.le_refl _) hx hb hr hlocks (((nI 0), op2_23, wh2_23)) hP6 hD6 hS6 [0, 1, 2] rfl (by decide) dX6_waits_32 ?_
    simp only [waitsP, c_9, if_true, nIcl (show z < 2147483648 by omega), ← hq_23, ↓reduceIte]
  · skip
    refine lv_aload_n hx hb dX6_waits_12 rfl (lv_at hl0 0 rfl) ?_
    refine lv_iconst (v := nI 1) hx hb dX6_waits_13 (by decide) ?_
    have hPc7 : va_P D vwCl (fl [mO q (nI kp) (nI ty) (nI 0) (nI at_) isF op]) _ := flP_sub hP3 [0] rfl
    have hDc7 : va_D A (fl [mO q (nI kp) (nI ty) (nI 0) (nI at_) isF op]) := flD_sub hD3 [0] (by decide) rfl
    refine cl_i (br := [aW T 0 (q 1) 111 now, aW T 0 (q 6) 3 wh]) (va_runV (As := [.int (nI 1)]) (rest := []) ⟨hx, hb, hml, hown, hts⟩ (c_X6_fails l D T q kp ty (nI 0) at_ isF op (nI 1)  _) (mkV hts okX6_fails kw_715 kw_717 ks_12 ⟨rfl, rfl, Nat.le_of_ble_eq_true rfl, Nat.le_of_ble_eq_true rfl⟩) (pv_rw hK hPc7 hDc7 (q0 := 0) rfl rfl rfl) rfl rfl hl0.1 rfl (lv_room (Nat.le_of_ble_eq_true rfl)) dX6_waits_14 ⟨Nat.le_of_ble_eq_true rfl, Nat.le_of_ble_eq_true rfl⟩) hP3 hD3 hS3 hA [1, 2] [0] rfl (by decide) (fun r_14 th2_14 H8 locs8 hq_14 hP8 hD8 hS8 => ?_)
    clear hP3 hD3 hS3 hPc7 hDc7
    have hP8 : va_P D vwCl (fl [aW T 0 (q 1) 111 now, aW T 0 (q 6) 3 wh, mO q (nI kp) (nI ty) th2_14 (nI at_) isF op]) _ := hP8
    have hD8 : va_D A (fl [aW T 0 (q 1) 111 now, aW T 0 (q 6) 3 wh, mO q (nI kp) (nI ty) th2_14 (nI at_) isF op]) := hD8
    obtain ⟨hr_14, hq_14⟩ : r_14 = nI 0 ∧ ((nI 1) = th2_14) := hq_14
    subst hr_14
    have hu_th2_14 : (nI 1) = th2_14 := hq_14
    subst hu_th2_14
    refine ret_i hTG (Nat.le_refl _) (Nat.le_refl _) hx hb hr hlocks (((nI 1), op, wh)) hP8 hD8 hS8 [2, 0, 1] rfl (by decide) dX6_waits_17 ?_
    simp only [waitsP, c_9, if_true, ↓reduceIte, Bool.false_eq_true] <;> rfl
set_option maxHeartbeats 4000000 in
set_option maxRecDepth 100000 in
theorem c_X6_byPassing (l : Launch) (D : va_G) (T : TI) (q : Nat → Nat) (kp : Nat) (ty : Nat) (th : Int32) (at_ : Nat) (isF : Bool) (op : Int32) (now : Nat → Int32) (thn : Nat → Int32) (wh : Nat → Int32) (h : Nat) (w : Nat) (hh : h ≤ 48) (hw : w ≤ 3) (hS : okS now) : CI l yX6_byPassing cX6_byPassing 4 .int (rmD 5 0 0) D T [.ref (q 0), .int (nI h), .int (nI w)] [mO q (nI kp) (nI ty) th (nI at_) isF op, aW T 0 (q 1) 111 now, aW T 0 (q 2) 111 thn, aW T 0 (q 6) 3 wh] 0 0 (β := Int32 × (Nat → Int32) × (Nat → Int32)) (fun ⟨op2, thn2, wh2⟩ => [mO q (nI kp) (nI ty) th (nI at_) isF op2, aW T 0 (q 1) 111 now, aW T 0 (q 2) 111 thn2, aW T 0 (q 6) 3 wh2]) (fun (r : Int32) ⟨op2, thn2, wh2⟩ => r = byP (va_cpy now thn 0 0 111) now h w) := by
  intro sz
  refine met_rw (Qc := fun A => va_Qi _ (PST D _ A) A) rfl (Nat.le_of_ble_eq_true rfl) ?_
  intro pX eX sX mX bX mtX cX A hAe hC hA hP0 hD0 hS0 ls0 hl0 TG hTG
  clear hAe
  obtain ⟨hx, hb, hr, hml, hown, hts, hlocks, hin, hK⟩ := hC
  have hown : sX.vm.findClass RX6 = some mX.cls := hown
  have hl0 : lv_has ls0 4 [(0, .ref (q 0)), (1, .int (nI h)), (2, .int (nI w))] := hl0
  refine lv_aload_n hx hb dX6_byPassing_0 rfl (lv_at hl0 0 rfl) ?_
  refine r_get (own := RX6) (C := RX6) (F := TX6) (N := 12) (ci := 6) (v := .ref (q 1)) hx hb hK hts in_X6 hown hP0 0 rfl rfl 0 (by decide) kw_670 rfl dX6_byPassing_1 ?_
  refine lv_iconst (v := nI 0) hx hb dX6_byPassing_4 (by decide) ?_
  refine lv_aload_n hx hb dX6_byPassing_5 rfl (lv_at hl0 0 rfl) ?_
  refine r_get (own := RX6) (C := RX6) (F := TX6) (N := 12) (ci := 6) (v := .ref (q 2)) hx hb hK hts in_X6 hown hP0 0 rfl rfl 1 (by decide) kw_671 rfl dX6_byPassing_6 ?_
  refine lv_iconst (v := nI 0) hx hb dX6_byPassing_9 (by decide) ?_
  have hPc1 : va_P D vwCl (fl [aW T 0 (q 1) 111 now, aW T 0 (q 2) 111 thn]) _ := flP_sub hP0 [1, 2] rfl
  have hDc1 : va_D A (fl [aW T 0 (q 1) 111 now, aW T 0 (q 2) 111 thn]) := flD_sub hD0 [1, 2] (by decide) rfl
  refine cl_v (br := [mO q (nI kp) (nI ty) th (nI at_) isF op, aW T 0 (q 6) 3 wh]) (va_runS (As := [.ref (q 1), .int (nI 0), .ref (q 2), .int (nI 0)]) (rest := []) ⟨hx, hb, hml, hown, hts⟩ (c_X6_copies l D T (q 1) 111 now 0 (q 2) 111 thn 0 (by omega) (by omega) (by omega) (by omega) _) (mkS hts okX6_copies kw_719 kw_720 ⟨rfl, rfl, Nat.le_of_ble_eq_true rfl, Nat.le_of_ble_eq_true rfl⟩) (ps_rw hK hPc1 hDc1) rfl rfl hl0.1 rfl (lv_room (Nat.le_of_ble_eq_true rfl)) dX6_byPassing_10 ⟨Nat.le_of_ble_eq_true rfl, Nat.le_of_ble_eq_true rfl⟩) hP0 hD0 hS0 hA [0, 3] [1, 2] rfl (by decide) (fun g2_10 H2 locs2 hq_10 hP2 hD2 hS2 => ?_)
  clear hP0 hD0 hS0 hPc1 hDc1
  have hP2 : va_P D vwCl (fl [mO q (nI kp) (nI ty) th (nI at_) isF op, aW T 0 (q 6) 3 wh, aW T 0 (q 1) 111 now, aW T 0 (q 2) 111 g2_10]) _ := hP2
  have hD2 : va_D A (fl [mO q (nI kp) (nI ty) th (nI at_) isF op, aW T 0 (q 6) 3 wh, aW T 0 (q 1) 111 now, aW T 0 (q 2) 111 g2_10]) := hD2
  have hq_10 : va_cpy now thn 0 0 111 = g2_10 := hq_10
  have hu_g2_10 : va_cpy now thn 0 0 111 = g2_10 := hq_10
  subst hu_g2_10
  refine lv_iconst (v := nI 0) hx hb dX6_byPassing_13 (by decide) ?_
  refine lv_istore_n (lv' := [(3, .int (nI 0)), (0, .ref (q 0)), (1, .int (nI h)), (2, .int (nI w))]) hx hb dX6_byPassing_14 rfl hl0 (by decide) rfl (fun ls3 hl3 => ?_)
  clear hl0
  have hP4 : va_P D vwCl (fl [mO q (nI kp) (nI ty) th (nI at_) isF op, aW T 0 (q 1) 111 now, aW T 0 (q 2) 111 (va_cpy now thn 0 0 111), aW T 0 (q 6) 3 wh]) _ := flP_sub hP2 [0, 2, 3, 1] rfl
  have hD4 : va_D A (fl [mO q (nI kp) (nI ty) th (nI at_) isF op, aW T 0 (q 1) 111 now, aW T 0 (q 2) 111 (va_cpy now thn 0 0 111), aW T 0 (q 6) 3 wh]) := flD_sub hD2 [0, 2, 3, 1] (by decide) rfl
  have hS4 := hS2
  clear hP2 hS2 hD2
  have loop15 : ∀ (n_ : Nat) (i : Nat) (op1 : Int32) (g1 : Nat → Int32) (wh1 : Nat → Int32), (i ≤ h) → (g1 = hourN (va_cpy now thn 0 0 111) i) → (h - i) < n_ → ∀ (H : Heap) (locs : List Loc), va_P D vwCl (fl [mO q (nI kp) (nI ty) th (nI at_) isF op1, aW T 0 (q 1) 111 now, aW T 0 (q 2) 111 g1, aW T 0 (q 6) 3 wh1]) H → va_D A (fl [mO q (nI kp) (nI ty) th (nI at_) isF op1, aW T 0 (q 1) 111 now, aW T 0 (q 2) 111 g1, aW T 0 (q 6) 3 wh1]) → va_S A sX.heap H locs → ∀ ls : Array Slot, lv_has ls 4 [(0, .ref (q 0)), (1, .int (nI h)), (2, .int (nI w)), (3, .int (nI i))] → W pX l eX (rmD 5 0 0) sX mX ([.ref (q 0), .int (nI h), .int (nI w)] : List Value).toArray bX mtX cX H locs 0 0 TG (F0 mX 15 ls []) := by
    intro n_
    induction n_ with
    | zero => intro i op1 g1 wh1 hi hg hmu_ ; exact absurd hmu_ (Nat.not_lt_zero _)
    | succ n_ ih15 =>
      intro i op1 g1 wh1 hi hg hmu_15 H6 locs6 hP6 hD6 hS6 ls6 hl6
      refine lv_iload_n hx hb dX6_byPassing_15 rfl (lv_at hl6 3 rfl) ?_
      refine lv_iload_n hx hb dX6_byPassing_16 rfl (lv_at hl6 1 rfl) ?_
      refine n_icmp_ge (tgt := 34) hx hb (by omega) (by omega) dX6_byPassing_17 (by decide) (fun c_17 => ?_) (fun c_17 => ?_)
      · skip
        have hi2 : h = i := by omega
        subst hi2
        rcases (show w = 0 ∨ w = 1 ∨ w = 2 ∨ w = 3 by omega) with rfl | rfl | rfl | rfl
        · skip
          refine lv_iload_n hx hb dX6_byPassing_34 rfl (lv_at hl6 2 rfl) ?_
          refine n_if_ne (tgt := 58) hx hb (by omega) dX6_byPassing_35 (by decide) (fun c8 => absurd c8 (by decide)) (fun c8 => ?_)
          refine lv_aload_n hx hb dX6_byPassing_38 rfl (lv_at hl6 0 rfl) ?_
          refine r_get (own := RX6) (C := RX6) (F := TX6) (N := 12) (ci := 6) (v := .ref (q 2)) hx hb hK hts in_X6 hown hP6 0 rfl rfl 1 (by decide) kw_671 rfl dX6_byPassing_39 ?_
          refine lv_iconst (v := nI 3) hx hb dX6_byPassing_42 (by decide) ?_
          have hPc9 : va_P D vwCl (fl [aW T 0 (q 2) 111 g1]) _ := hP6.sub [2] rfl
          refine cr_i (va_runS (As := [.ref (q 2), .int (nI 3)]) (rest := []) ⟨hx, hb, hml, hown, hts⟩ (c_X6_sum l D T (q 2) g1 3 (by omega)) (mkS hts okX6_sum kw_780 kw_781 ⟨rfl, rfl, Nat.le_of_ble_eq_true rfl, Nat.le_of_ble_eq_true rfl⟩) (ps_ro hK hPc9) rfl rfl hl6.1 rfl (lv_room (Nat.le_of_ble_eq_true rfl)) dX6_byPassing_43 ⟨Nat.le_of_ble_eq_true rfl, Nat.le_of_ble_eq_true rfl⟩) hP6 hS6 (fun r_43 H10 locs10 hq_43 hP10 hS10 => ?_)
          clear hP6 hS6 hPc9
          have hD10 := hD6
          clear hD6
          have hq_43 : r_43 = sumM g1 3 12 := hq_43
          subst hq_43
          refine lv_aload_n hx hb dX6_byPassing_46 rfl (lv_at hl6 0 rfl) ?_
          refine r_get (own := RX6) (C := RX6) (F := TX6) (N := 12) (ci := 6) (v := .ref (q 1)) hx hb hK hts in_X6 hown hP10 0 rfl rfl 0 (by decide) kw_670 rfl dX6_byPassing_47 ?_
          refine lv_iconst (v := nI 3) hx hb dX6_byPassing_50 (by decide) ?_
          have hPc11 : va_P D vwCl (fl [aW T 0 (q 1) 111 now]) _ := hP10.sub [1] rfl
          refine cr_i (va_runS (As := [.ref (q 1), .int (nI 3)]) (rest := [.int (sumM g1 3 12)]) ⟨hx, hb, hml, hown, hts⟩ (c_X6_sum l D T (q 1) now 3 (by omega)) (mkS hts okX6_sum kw_780 kw_781 ⟨rfl, rfl, Nat.le_of_ble_eq_true rfl, Nat.le_of_ble_eq_true rfl⟩) (ps_ro hK hPc11) rfl rfl hl6.1 rfl (lv_room (Nat.le_of_ble_eq_true rfl)) dX6_byPassing_51 ⟨Nat.le_of_ble_eq_true rfl, Nat.le_of_ble_eq_true rfl⟩) hP10 hS10 (fun r_51 H12 locs12 hq_51 hP12 hS12 => ?_)
          clear hP10 hS10 hPc11
          have hD12 := hD10
          clear hD10
          have hq_51 : r_51 = sumM now 3 12 := hq_51
          subst hq_51
          refine lv_isub hx hb dX6_byPassing_54 ?_
          refine lv_goto (tgt := 105) hx hb dX6_byPassing_55 (by decide) ?_
          refine ret_i hTG (Nat.le_refl _) (Nat.le_refl _) hx hb hr hlocks ((op1, g1, wh1)) hP12 hD12 hS12 [0, 1, 2, 3] rfl (by decide) dX6_byPassing_105 ?_
          subst hg
          rfl
        · skip
          refine lv_iload_n hx hb dX6_byPassing_34 rfl (lv_at hl6 2 rfl) ?_
          refine n_if_ne (tgt := 58) hx hb (by omega) dX6_byPassing_35 (by decide) (fun c13 => ?_) (fun c13 => absurd c13 (by decide))
          refine lv_iload_n hx hb dX6_byPassing_58 rfl (lv_at hl6 2 rfl) ?_
          refine lv_iconst (v := nI 1) hx hb dX6_byPassing_59 (by decide) ?_
          refine n_icmp_ne (tgt := 83) hx hb (by omega) (by omega) dX6_byPassing_60 (by decide) (fun c14 => absurd c14 (by decide)) (fun c14 => ?_)
          refine lv_aload_n hx hb dX6_byPassing_63 rfl (lv_at hl6 0 rfl) ?_
          refine r_get (own := RX6) (C := RX6) (F := TX6) (N := 12) (ci := 6) (v := .ref (q 2)) hx hb hK hts in_X6 hown hP6 0 rfl rfl 1 (by decide) kw_671 rfl dX6_byPassing_64 ?_
          refine lv_iconst (v := nI 4) hx hb dX6_byPassing_67 (by decide) ?_
          have hPc15 : va_P D vwCl (fl [aW T 0 (q 2) 111 g1]) _ := hP6.sub [2] rfl
          refine cr_i (va_runS (As := [.ref (q 2), .int (nI 4)]) (rest := []) ⟨hx, hb, hml, hown, hts⟩ (c_X6_sum l D T (q 2) g1 4 (by omega)) (mkS hts okX6_sum kw_780 kw_781 ⟨rfl, rfl, Nat.le_of_ble_eq_true rfl, Nat.le_of_ble_eq_true rfl⟩) (ps_ro hK hPc15) rfl rfl hl6.1 rfl (lv_room (Nat.le_of_ble_eq_true rfl)) dX6_byPassing_68 ⟨Nat.le_of_ble_eq_true rfl, Nat.le_of_ble_eq_true rfl⟩) hP6 hS6 (fun r_68 H16 locs16 hq_68 hP16 hS16 => ?_)
          clear hP6 hS6 hPc15
          have hD16 := hD6
          clear hD6
          have hq_68 : r_68 = sumM g1 4 12 := hq_68
          subst hq_68
          refine lv_aload_n hx hb dX6_byPassing_71 rfl (lv_at hl6 0 rfl) ?_
          refine r_get (own := RX6) (C := RX6) (F := TX6) (N := 12) (ci := 6) (v := .ref (q 1)) hx hb hK hts in_X6 hown hP16 0 rfl rfl 0 (by decide) kw_670 rfl dX6_byPassing_72 ?_
          refine lv_iconst (v := nI 4) hx hb dX6_byPassing_75 (by decide) ?_
          have hPc17 : va_P D vwCl (fl [aW T 0 (q 1) 111 now]) _ := hP16.sub [1] rfl
          refine cr_i (va_runS (As := [.ref (q 1), .int (nI 4)]) (rest := [.int (sumM g1 4 12)]) ⟨hx, hb, hml, hown, hts⟩ (c_X6_sum l D T (q 1) now 4 (by omega)) (mkS hts okX6_sum kw_780 kw_781 ⟨rfl, rfl, Nat.le_of_ble_eq_true rfl, Nat.le_of_ble_eq_true rfl⟩) (ps_ro hK hPc17) rfl rfl hl6.1 rfl (lv_room (Nat.le_of_ble_eq_true rfl)) dX6_byPassing_76 ⟨Nat.le_of_ble_eq_true rfl, Nat.le_of_ble_eq_true rfl⟩) hP16 hS16 (fun r_76 H18 locs18 hq_76 hP18 hS18 => ?_)
          clear hP16 hS16 hPc17
          have hD18 := hD16
          clear hD16
          have hq_76 : r_76 = sumM now 4 12 := hq_76
          subst hq_76
          refine lv_isub hx hb dX6_byPassing_79 ?_
          refine lv_goto (tgt := 105) hx hb dX6_byPassing_80 (by decide) ?_
          refine ret_i hTG (Nat.le_refl _) (Nat.le_refl _) hx hb hr hlocks ((op1, g1, wh1)) hP18 hD18 hS18 [0, 1, 2, 3] rfl (by decide) dX6_byPassing_105 ?_
          subst hg
          rfl
        · skip
          refine lv_iload_n hx hb dX6_byPassing_34 rfl (lv_at hl6 2 rfl) ?_
          refine n_if_ne (tgt := 58) hx hb (by omega) dX6_byPassing_35 (by decide) (fun c19 => ?_) (fun c19 => absurd c19 (by decide))
          refine lv_iload_n hx hb dX6_byPassing_58 rfl (lv_at hl6 2 rfl) ?_
          refine lv_iconst (v := nI 1) hx hb dX6_byPassing_59 (by decide) ?_
          refine n_icmp_ne (tgt := 83) hx hb (by omega) (by omega) dX6_byPassing_60 (by decide) (fun c20 => ?_) (fun c20 => absurd c20 (by decide))
          refine lv_iload_n hx hb dX6_byPassing_83 rfl (lv_at hl6 2 rfl) ?_
          refine lv_iconst (v := nI 2) hx hb dX6_byPassing_84 (by decide) ?_
          refine n_icmp_ne (tgt := 98) hx hb (by omega) (by omega) dX6_byPassing_85 (by decide) (fun c21 => absurd c21 (by decide)) (fun c21 => ?_)
          refine lv_aload_n hx hb dX6_byPassing_88 rfl (lv_at hl6 0 rfl) ?_
          refine r_get (own := RX6) (C := RX6) (F := TX6) (N := 12) (ci := 6) (v := .ref (q 2)) hx hb hK hts in_X6 hown hP6 0 rfl rfl 1 (by decide) kw_671 rfl dX6_byPassing_89 ?_
          have hPc22 : va_P D vwCl (fl [aW T 0 (q 2) 111 g1]) _ := hP6.sub [2] rfl
          refine cr_i (va_runS (As := [.ref (q 2)]) (rest := []) ⟨hx, hb, hml, hown, hts⟩ (c_X6_brown l D T (q 2) g1 ) (mkS hts okX6_brown kw_864 kw_865 ⟨rfl, rfl, Nat.le_of_ble_eq_true rfl, Nat.le_of_ble_eq_true rfl⟩) (ps_ro hK hPc22) rfl rfl hl6.1 rfl (lv_room (Nat.le_of_ble_eq_true rfl)) dX6_byPassing_92 ⟨Nat.le_of_ble_eq_true rfl, Nat.le_of_ble_eq_true rfl⟩) hP6 hS6 (fun r_92 H23 locs23 hq_92 hP23 hS23 => ?_)
          clear hP6 hS6 hPc22
          have hD23 := hD6
          clear hD6
          have hq_92 : r_92 = nI (brNM g1 12) := hq_92
          subst hq_92
          refine lv_goto (tgt := 105) hx hb dX6_byPassing_95 (by decide) ?_
          refine ret_i hTG (Nat.le_refl _) (Nat.le_refl _) hx hb hr hlocks ((op1, g1, wh1)) hP23 hD23 hS23 [0, 1, 2, 3] rfl (by decide) dX6_byPassing_105 ?_
          subst hg
          rfl
        · skip
          refine lv_iload_n hx hb dX6_byPassing_34 rfl (lv_at hl6 2 rfl) ?_
          refine n_if_ne (tgt := 58) hx hb (by omega) dX6_byPassing_35 (by decide) (fun c24 => ?_) (fun c24 => absurd c24 (by decide))
          refine lv_iload_n hx hb dX6_byPassing_58 rfl (lv_at hl6 2 rfl) ?_
          refine lv_iconst (v := nI 1) hx hb dX6_byPassing_59 (by decide) ?_
          refine n_icmp_ne (tgt := 83) hx hb (by omega) (by omega) dX6_byPassing_60 (by decide) (fun c25 => ?_) (fun c25 => absurd c25 (by decide))
          refine lv_iload_n hx hb dX6_byPassing_83 rfl (lv_at hl6 2 rfl) ?_
          refine lv_iconst (v := nI 2) hx hb dX6_byPassing_84 (by decide) ?_
          refine n_icmp_ne (tgt := 98) hx hb (by omega) (by omega) dX6_byPassing_85 (by decide) (fun c26 => ?_) (fun c26 => absurd c26 (by decide))
          refine lv_aload_n hx hb dX6_byPassing_98 rfl (lv_at hl6 0 rfl) ?_
          refine r_get (own := RX6) (C := RX6) (F := TX6) (N := 12) (ci := 6) (v := .ref (q 2)) hx hb hK hts in_X6 hown hP6 0 rfl rfl 1 (by decide) kw_671 rfl dX6_byPassing_99 ?_
          have hPc27 : va_P D vwCl (fl [aW T 0 (q 2) 111 g1]) _ := hP6.sub [2] rfl
          refine cr_i (va_runS (As := [.ref (q 2)]) (rest := []) ⟨hx, hb, hml, hown, hts⟩ (c_X6_inRounds l D T (q 2) g1 ) (mkS hts okX6_inRounds kw_841 kw_842 ⟨rfl, rfl, Nat.le_of_ble_eq_true rfl, Nat.le_of_ble_eq_true rfl⟩) (ps_ro hK hPc27) rfl rfl hl6.1 rfl (lv_room (Nat.le_of_ble_eq_true rfl)) dX6_byPassing_102 ⟨Nat.le_of_ble_eq_true rfl, Nat.le_of_ble_eq_true rfl⟩) hP6 hS6 (fun r_102 H28 locs28 hq_102 hP28 hS28 => ?_)
          clear hP6 hS6 hPc27
          have hD28 := hD6
          clear hD6
          have hq_102 : r_102 = inR g1 := hq_102
          subst hq_102
          refine ret_i hTG (Nat.le_refl _) (Nat.le_refl _) hx hb hr hlocks ((op1, g1, wh1)) hP28 hD28 hS28 [0, 1, 2, 3] rfl (by decide) dX6_byPassing_105 ?_
          subst hg
          rfl
      · skip
        refine lv_aload_n hx hb dX6_byPassing_20 rfl (lv_at hl6 0 rfl) ?_
        refine lv_aload_n hx hb dX6_byPassing_21 rfl (lv_at hl6 0 rfl) ?_
        refine r_get (own := RX6) (C := RX6) (F := TX6) (N := 12) (ci := 6) (v := .ref (q 2)) hx hb hK hts in_X6 hown hP6 0 rfl rfl 1 (by decide) kw_671 rfl dX6_byPassing_22 ?_
        have hPc29 : va_P D vwCl (fl [mO q (nI kp) (nI ty) th (nI at_) isF op1, aW T 0 (q 2) 111 g1, aW T 0 (q 6) 3 wh1]) _ := flP_sub hP6 [0, 2, 3] rfl
        have hDc29 : va_D A (fl [mO q (nI kp) (nI ty) th (nI at_) isF op1, aW T 0 (q 2) 111 g1, aW T 0 (q 6) 3 wh1]) := flD_sub hD6 [0, 2, 3] (by decide) rfl
        refine cl_v (br := [aW T 0 (q 1) 111 now]) (va_runV (As := [.ref (q 2)]) (rest := []) ⟨hx, hb, hml, hown, hts⟩ (c_X6_hour l D T q kp ty th at_ isF op1 (q 2) g1 wh1 (by rw [hg]; exact ((hS.e111 (e111_cpy _ _)).hourN i).okM) _) (mkV hts okX6_hour kw_786 kw_788 ks_15 ⟨rfl, rfl, Nat.le_of_ble_eq_true rfl, Nat.le_of_ble_eq_true rfl⟩) (pv_rw hK hPc29 hDc29 (q0 := 0) rfl rfl rfl) rfl rfl hl6.1 rfl (lv_room (Nat.le_of_ble_eq_true rfl)) dX6_byPassing_25 ⟨Nat.le_of_ble_eq_true rfl, Nat.le_of_ble_eq_true rfl⟩) hP6 hD6 hS6 hA [1] [0, 2, 3] rfl (by decide) (fun u_25 H30 locs30 hq_25 hP30 hD30 hS30 => ?_)
        clear hP6 hD6 hS6 hPc29 hDc29
        obtain ⟨op2_25, a2_25, wh2_25⟩ := u_25
        have hP30 : va_P D vwCl (fl [aW T 0 (q 1) 111 now, mO q (nI kp) (nI ty) th (nI at_) isF op2_25, aW T 0 (q 2) 111 a2_25, aW T 0 (q 6) 3 wh2_25]) _ := hP30
        have hD30 : va_D A (fl [aW T 0 (q 1) 111 now, mO q (nI kp) (nI ty) th (nI at_) isF op2_25, aW T 0 (q 2) 111 a2_25, aW T 0 (q 6) 3 wh2_25]) := hD30
        have hq_25 : a2_25 = hourF g1 := hq_25
        refine lv_iinc (v := nI (i + 1)) (lv' := [(3, .int (nI (i + 1))), (0, .ref (q 0)), (1, .int (nI h)), (2, .int (nI w))]) hx hb dX6_byPassing_28 hl6 (k := 3) rfl (nI_add i 1) (by decide) rfl (fun ls31 hl31 => ?_)
        clear hl6
        refine lv_goto (tgt := 15) hx hb dX6_byPassing_31 (by decide) ?_
        have hP32 : va_P D vwCl (fl [mO q (nI kp) (nI ty) th (nI at_) isF op2_25, aW T 0 (q 1) 111 now, aW T 0 (q 2) 111 a2_25, aW T 0 (q 6) 3 wh2_25]) _ := flP_sub hP30 [1, 0, 2, 3] rfl
        have hD32 : va_D A (fl [mO q (nI kp) (nI ty) th (nI at_) isF op2_25, aW T 0 (q 1) 111 now, aW T 0 (q 2) 111 a2_25, aW T 0 (q 6) 3 wh2_25]) := flD_sub hD30 [1, 0, 2, 3] (by decide) rfl
        have hS32 := hS30
        clear hP30 hS30 hD30
        exact ih15 (i + 1) op2_25 a2_25 wh2_25 (by omega) (by rw [hourN, ← hg]; exact hq_25) (by omega) _ _ hP32 hD32 hS32 _ (lv_sub hl31 [1, 2, 3, 0] rfl)
  exact loop15 ((h - 0) + 1) 0 op (va_cpy now thn 0 0 111) wh (by omega) (rfl) (Nat.lt_succ_self _) _ _ hP4 hD4 hS4 _ (lv_sub hl3 [1, 2, 3, 0] rfl)
set_option maxHeartbeats 4000000 in
set_option maxRecDepth 100000 in
theorem c_X6_ifPassed (l : Launch) (D : va_G) (T : TI) (q : Nat → Nat) (kp : Nat) (ty : Nat) (th : Int32) (at_ : Nat) (isF : Bool) (op : Int32) (now : Nat → Int32) (thn : Nat → Int32) (wh : Nat → Int32) (h : Int32) (w : Int32) (hS : okS now) : CI l yX6_ifPassed cX6_ifPassed 3 .int (rmD 6 0 0) D T [.ref (q 0), .int h, .int w] [mO q (nI kp) (nI ty) th (nI at_) isF op, aW T 0 (q 1) 111 now, aW T 0 (q 2) 111 thn, aW T 0 (q 6) 3 wh] 0 0 (β := Int32 × Int32 × (Nat → Int32) × (Nat → Int32)) (fun ⟨th2, op2, thn2, wh2⟩ => [mO q (nI kp) (nI ty) th2 (nI at_) isF op2, aW T 0 (q 1) 111 now, aW T 0 (q 2) 111 thn2, aW T 0 (q 6) 3 wh2]) (fun (r : Int32) ⟨th2, op2, thn2, wh2⟩ => (r, th2) = ifPassedP h w (va_cpy now thn 0 0 111) now) := by
  intro sz
  refine met_rw (Qc := fun A => va_Qi _ (PST D _ A) A) rfl (Nat.le_of_ble_eq_true rfl) ?_
  intro pX eX sX mX bX mtX cX A hAe hC hA hP0 hD0 hS0 ls0 hl0 TG hTG
  clear hAe
  obtain ⟨hx, hb, hr, hml, hown, hts, hlocks, hin, hK⟩ := hC
  have hown : sX.vm.findClass RX6 = some mX.cls := hown
  have hl0 : lv_has ls0 3 [(0, .ref (q 0)), (1, .int h), (2, .int w)] := hl0
  refine lv_aload_n hx hb dX6_ifPassed_0 rfl (lv_at hl0 0 rfl) ?_
  refine lv_iconst (v := nI 0) hx hb dX6_ifPassed_1 (by decide) ?_
  refine r_put (own := RX6) (C := RX6) (F := TX6) (N := 12) (ci := 6) (v := nI 0) hx hb hK hts in_X6 tyX6 tyX6_ok nmX6 hown hP0 hD0 hS0 0 rfl rfl 6 (by decide) kw_676 rfl rfl (Nat.le_of_ble_eq_true rfl) dX6_ifPassed_2 (fun (H1 : Heap) (locs1 : List Loc) (hP1 : va_P D vwCl (fl [mO q (nI kp) (nI ty) (nI 0) (nI at_) isF op, aW T 0 (q 1) 111 now, aW T 0 (q 2) 111 thn, aW T 0 (q 6) 3 wh]) H1) (hD1 : va_D A (fl [mO q (nI kp) (nI ty) (nI 0) (nI at_) isF op, aW T 0 (q 1) 111 now, aW T 0 (q 2) 111 thn, aW T 0 (q 6) 3 wh])) hS1 => ?_)
  clear hP0 hD0 hS0
  refine lv_iload_n hx hb dX6_ifPassed_5 rfl (lv_at hl0 1 rfl) ?_
  refine lv_iconst (v := nI 1) hx hb dX6_ifPassed_6 (by decide) ?_
  refine lv_bipush (v := nI 48) hx hb dX6_ifPassed_7 (by decide) ?_
  have hPc2 : va_P D vwCl (fl []) _ := hP1.sub [] rfl
  refine cr_i (va_runS (As := [.int h, .int (nI 1), .int (nI 48)]) (rest := []) ⟨hx, hb, hml, hown, hts⟩ (c_X6_in l D T h (nI 1) (nI 48) ) (mkS hts okX6_in kw_726 kw_727 ⟨rfl, rfl, Nat.le_of_ble_eq_true rfl, Nat.le_of_ble_eq_true rfl⟩) (ps_ro hK hPc2) rfl rfl hl0.1 rfl (lv_room (Nat.le_of_ble_eq_true rfl)) dX6_ifPassed_9 ⟨Nat.le_of_ble_eq_true rfl, Nat.le_of_ble_eq_true rfl⟩) hP1 hS1 (fun r_9 H3 locs3 hq_9 hP3 hS3 => ?_)
  clear hP1 hS1 hPc2
  have hD3 := hD1
  clear hD1
  have hq_9 : r_9 = bI (inB h (nI 1) (nI 48)) := hq_9
  subst hq_9
  refine z_if_eq (tgt := 33) hx hb dX6_ifPassed_12 (by decide) (fun c_12 => ?_) (fun c_12 => ?_)
  · skip
    refine lv_aload_n hx hb dX6_ifPassed_33 rfl (lv_at hl0 0 rfl) ?_
    refine lv_iconst (v := nI 1) hx hb dX6_ifPassed_34 (by decide) ?_
    have hPc5 : va_P D vwCl (fl [mO q (nI kp) (nI ty) (nI 0) (nI at_) isF op]) _ := flP_sub hP3 [0] rfl
    have hDc5 : va_D A (fl [mO q (nI kp) (nI ty) (nI 0) (nI at_) isF op]) := flD_sub hD3 [0] (by decide) rfl
    refine cl_i (br := [aW T 0 (q 1) 111 now, aW T 0 (q 2) 111 thn, aW T 0 (q 6) 3 wh]) (va_runV (As := [.int (nI 1)]) (rest := []) ⟨hx, hb, hml, hown, hts⟩ (c_X6_fails l D T q kp ty (nI 0) at_ isF op (nI 1)  _) (mkV hts okX6_fails kw_715 kw_717 ks_12 ⟨rfl, rfl, Nat.le_of_ble_eq_true rfl, Nat.le_of_ble_eq_true rfl⟩) (pv_rw hK hPc5 hDc5 (q0 := 0) rfl rfl rfl) rfl rfl hl0.1 rfl (lv_room (Nat.le_of_ble_eq_true rfl)) dX6_ifPassed_35 ⟨Nat.le_of_ble_eq_true rfl, Nat.le_of_ble_eq_true rfl⟩) hP3 hD3 hS3 hA [1, 2, 3] [0] rfl (by decide) (fun r_35 th2_35 H6 locs6 hq_35 hP6 hD6 hS6 => ?_)
    clear hP3 hD3 hS3 hPc5 hDc5
    have hP6 : va_P D vwCl (fl [aW T 0 (q 1) 111 now, aW T 0 (q 2) 111 thn, aW T 0 (q 6) 3 wh, mO q (nI kp) (nI ty) th2_35 (nI at_) isF op]) _ := hP6
    have hD6 : va_D A (fl [aW T 0 (q 1) 111 now, aW T 0 (q 2) 111 thn, aW T 0 (q 6) 3 wh, mO q (nI kp) (nI ty) th2_35 (nI at_) isF op]) := hD6
    obtain ⟨hr_35, hq_35⟩ : r_35 = nI 0 ∧ ((nI 1) = th2_35) := hq_35
    subst hr_35
    have hu_th2_35 : (nI 1) = th2_35 := hq_35
    subst hu_th2_35
    refine ret_i hTG (Nat.le_refl _) (Nat.le_refl _) hx hb hr hlocks (((nI 1), op, thn, wh)) hP6 hD6 hS6 [3, 0, 1, 2] rfl (by decide) dX6_ifPassed_38 ?_
    first | (simp only [ifPassedP, c_12, if_true, hq_27, nIcl (show z < 2147483648 by omega), nIcl (show k < 2147483648 by omega), ↓reduceIte, Bool.false_eq_true]; done) | (simp only [ifPassedP, c_12, if_true, ↓reduceIte, Bool.false_eq_true]; done)
  · skip
    obtain ⟨z, hz1, hz, rfl⟩ := inB_l c_12 (by decide) (by decide)
    refine lv_iload_n hx hb dX6_ifPassed_15 rfl (lv_at hl0 2 rfl) ?_
    refine lv_iconst (v := nI 0) hx hb dX6_ifPassed_16 (by decide) ?_
    refine lv_iconst (v := nI 3) hx hb dX6_ifPassed_17 (by decide) ?_
    have hPc7 : va_P D vwCl (fl []) _ := hP3.sub [] rfl
    refine cr_i (va_runS (As := [.int w, .int (nI 0), .int (nI 3)]) (rest := []) ⟨hx, hb, hml, hown, hts⟩ (c_X6_in l D T w (nI 0) (nI 3) ) (mkS hts okX6_in kw_726 kw_727 ⟨rfl, rfl, Nat.le_of_ble_eq_true rfl, Nat.le_of_ble_eq_true rfl⟩) (ps_ro hK hPc7) rfl rfl hl0.1 rfl (lv_room (Nat.le_of_ble_eq_true rfl)) dX6_ifPassed_18 ⟨Nat.le_of_ble_eq_true rfl, Nat.le_of_ble_eq_true rfl⟩) hP3 hS3 (fun r_18 H8 locs8 hq_18 hP8 hS8 => ?_)
    clear hP3 hS3 hPc7
    have hD8 := hD3
    clear hD3
    have hq_18 : r_18 = bI (inB w (nI 0) (nI 3)) := hq_18
    subst hq_18
    refine z_if_eq (tgt := 33) hx hb dX6_ifPassed_21 (by decide) (fun c_21 => ?_) (fun c_21 => ?_)
    · skip
      refine lv_aload_n hx hb dX6_ifPassed_33 rfl (lv_at hl0 0 rfl) ?_
      refine lv_iconst (v := nI 1) hx hb dX6_ifPassed_34 (by decide) ?_
      have hPc10 : va_P D vwCl (fl [mO q (nI kp) (nI ty) (nI 0) (nI at_) isF op]) _ := flP_sub hP8 [0] rfl
      have hDc10 : va_D A (fl [mO q (nI kp) (nI ty) (nI 0) (nI at_) isF op]) := flD_sub hD8 [0] (by decide) rfl
      refine cl_i (br := [aW T 0 (q 1) 111 now, aW T 0 (q 2) 111 thn, aW T 0 (q 6) 3 wh]) (va_runV (As := [.int (nI 1)]) (rest := []) ⟨hx, hb, hml, hown, hts⟩ (c_X6_fails l D T q kp ty (nI 0) at_ isF op (nI 1)  _) (mkV hts okX6_fails kw_715 kw_717 ks_12 ⟨rfl, rfl, Nat.le_of_ble_eq_true rfl, Nat.le_of_ble_eq_true rfl⟩) (pv_rw hK hPc10 hDc10 (q0 := 0) rfl rfl rfl) rfl rfl hl0.1 rfl (lv_room (Nat.le_of_ble_eq_true rfl)) dX6_ifPassed_35 ⟨Nat.le_of_ble_eq_true rfl, Nat.le_of_ble_eq_true rfl⟩) hP8 hD8 hS8 hA [1, 2, 3] [0] rfl (by decide) (fun r_35 th2_35 H11 locs11 hq_35 hP11 hD11 hS11 => ?_)
      clear hP8 hD8 hS8 hPc10 hDc10
      have hP11 : va_P D vwCl (fl [aW T 0 (q 1) 111 now, aW T 0 (q 2) 111 thn, aW T 0 (q 6) 3 wh, mO q (nI kp) (nI ty) th2_35 (nI at_) isF op]) _ := hP11
      have hD11 : va_D A (fl [aW T 0 (q 1) 111 now, aW T 0 (q 2) 111 thn, aW T 0 (q 6) 3 wh, mO q (nI kp) (nI ty) th2_35 (nI at_) isF op]) := hD11
      obtain ⟨hr_35, hq_35⟩ : r_35 = nI 0 ∧ ((nI 1) = th2_35) := hq_35
      subst hr_35
      have hu_th2_35 : (nI 1) = th2_35 := hq_35
      subst hu_th2_35
      refine ret_i hTG (Nat.le_refl _) (Nat.le_refl _) hx hb hr hlocks (((nI 1), op, thn, wh)) hP11 hD11 hS11 [3, 0, 1, 2] rfl (by decide) dX6_ifPassed_38 ?_
      first | (simp only [ifPassedP, c_12, c_21, if_true, hq_27, nIcl (show z < 2147483648 by omega), nIcl (show k < 2147483648 by omega), ↓reduceIte, Bool.false_eq_true]; done) | (simp only [ifPassedP, c_12, c_21, if_true, ↓reduceIte, Bool.false_eq_true]; done)
    · skip
      obtain ⟨k, hk, rfl⟩ := inB_t c_21 (by decide)
      refine lv_aload_n hx hb dX6_ifPassed_24 rfl (lv_at hl0 0 rfl) ?_
      refine lv_iload_n hx hb dX6_ifPassed_25 rfl (lv_at hl0 1 rfl) ?_
      refine lv_iload_n hx hb dX6_ifPassed_26 rfl (lv_at hl0 2 rfl) ?_
      have hPc12 : va_P D vwCl (fl [mO q (nI kp) (nI ty) (nI 0) (nI at_) isF op, aW T 0 (q 1) 111 now, aW T 0 (q 2) 111 thn, aW T 0 (q 6) 3 wh]) _ := flP_sub hP8 [0, 1, 2, 3] rfl
      have hDc12 : va_D A (fl [mO q (nI kp) (nI ty) (nI 0) (nI at_) isF op, aW T 0 (q 1) 111 now, aW T 0 (q 2) 111 thn, aW T 0 (q 6) 3 wh]) := flD_sub hD8 [0, 1, 2, 3] (by decide) rfl
      refine cl_i (br := []) (va_runV (As := [.int (nI z), .int (nI k)]) (rest := []) ⟨hx, hb, hml, hown, hts⟩ (c_X6_byPassing l D T q kp ty (nI 0) at_ isF op now thn wh z k (by omega) (by omega) (hS) _) (mkV hts okX6_byPassing kw_879 kw_881 ks_23 ⟨rfl, rfl, Nat.le_of_ble_eq_true rfl, Nat.le_of_ble_eq_true rfl⟩) (pv_rw hK hPc12 hDc12 (q0 := 0) rfl rfl rfl) rfl rfl hl0.1 rfl (lv_room (Nat.le_of_ble_eq_true rfl)) dX6_ifPassed_27 ⟨Nat.le_of_ble_eq_true rfl, Nat.le_of_ble_eq_true rfl⟩) hP8 hD8 hS8 hA [] [0, 1, 2, 3] rfl (by decide) (fun r_27 u_27 H13 locs13 hq_27 hP13 hD13 hS13 => ?_)
      clear hP8 hD8 hS8 hPc12 hDc12
      obtain ⟨op2_27, thn2_27, wh2_27⟩ := u_27
      have hP13 : va_P D vwCl (fl [mO q (nI kp) (nI ty) (nI 0) (nI at_) isF op2_27, aW T 0 (q 1) 111 now, aW T 0 (q 2) 111 thn2_27, aW T 0 (q 6) 3 wh2_27]) _ := hP13
      have hD13 : va_D A (fl [mO q (nI kp) (nI ty) (nI 0) (nI at_) isF op2_27, aW T 0 (q 1) 111 now, aW T 0 (q 2) 111 thn2_27, aW T 0 (q 6) 3 wh2_27]) := hD13
      have hq_27 : r_27 = byP (va_cpy now thn 0 0 111) now z k := hq_27
      refine lv_goto (tgt := 38) hx hb dX6_ifPassed_30 (by decide) ?_
      refine ret_i hTG (Nat.le_refl _) (Nat.le_refl _) hx hb hr hlocks (((nI 0), op2_27, thn2_27, wh2_27)) hP13 hD13 hS13 [0, 1, 2, 3] rfl (by decide) dX6_ifPassed_38 ?_
      first | (simp only [ifPassedP, c_12, c_21, if_true, hq_27, nIcl (show z < 2147483648 by omega), nIcl (show k < 2147483648 by omega), ↓reduceIte, Bool.false_eq_true]; done) | (simp only [ifPassedP, c_12, c_21, if_true, ↓reduceIte, Bool.false_eq_true]; done)
set_option maxHeartbeats 4000000 in
set_option maxRecDepth 100000 in
theorem c_X6_best (l : Launch) (D : va_G) (T : TI) (q : Nat → Nat) (kp : Nat) (ty : Nat) (th : Int32) (at_ : Nat) (isF : Bool) (op : Int32) (now : Nat → Int32) (thn : Nat → Int32) (wh : Nat → Int32) (hS : okS now) : CI l yX6_best cX6_best 5 .int (rmD 5 0 0) D T [.ref (q 0)] [mO q (nI kp) (nI ty) th (nI at_) isF op, aW T 0 (q 1) 111 now, aW T 0 (q 2) 111 thn, aW T 0 (q 6) 3 wh] 0 0 (β := Int32 × (Nat → Int32) × (Nat → Int32)) (fun ⟨op2, thn2, wh2⟩ => [mO q (nI kp) (nI ty) th (nI at_) isF op2, aW T 0 (q 1) 111 now, aW T 0 (q 2) 111 thn2, aW T 0 (q 6) 3 wh2]) (fun (r : Int32) ⟨op2, thn2, wh2⟩ => r = (bsI now 12).1) := by
  intro sz
  refine met_rw (Qc := fun A => va_Qi _ (PST D _ A) A) rfl (Nat.le_of_ble_eq_true rfl) ?_
  intro pX eX sX mX bX mtX cX A hAe hC hA hP0 hD0 hS0 ls0 hl0 TG hTG
  clear hAe
  obtain ⟨hx, hb, hr, hml, hown, hts, hlocks, hin, hK⟩ := hC
  have hown : sX.vm.findClass RX6 = some mX.cls := hown
  have hl0 : lv_has ls0 5 [(0, .ref (q 0))] := hl0
  refine lv_iconst (v := (-1)) hx hb dX6_best_0 (by decide) ?_
  refine lv_istore_n (lv' := [(1, .int (-1)), (0, .ref (q 0))]) hx hb dX6_best_1 rfl hl0 (by decide) rfl (fun ls1 hl1 => ?_)
  clear hl0
  refine lv_iconst (v := nI 0) hx hb dX6_best_2 (by decide) ?_
  refine lv_istore_n (lv' := [(2, .int (nI 0)), (1, .int (-1)), (0, .ref (q 0))]) hx hb dX6_best_3 rfl hl1 (by decide) rfl (fun ls2 hl2 => ?_)
  clear hl1
  refine lv_iconst (v := nI 0) hx hb dX6_best_4 (by decide) ?_
  refine lv_istore_n (lv' := [(3, .int (nI 0)), (2, .int (nI 0)), (1, .int (-1)), (0, .ref (q 0))]) hx hb dX6_best_5 rfl hl2 (by decide) rfl (fun ls3 hl3 => ?_)
  clear hl2
  have loop6 : ∀ (n_ : Nat) (s : Nat) (f : Int32) (l2 : Int32) (op1 : Int32) (g0 : Nat → Int32) (wh1 : Nat → Int32), (s ≤ 12) → ((f, l2) = bsI now s) → (12 - s) < n_ → ∀ (H : Heap) (locs : List Loc), va_P D vwCl (fl [mO q (nI kp) (nI ty) th (nI at_) isF op1, aW T 0 (q 1) 111 now, aW T 0 (q 2) 111 g0, aW T 0 (q 6) 3 wh1]) H → va_D A (fl [mO q (nI kp) (nI ty) th (nI at_) isF op1, aW T 0 (q 1) 111 now, aW T 0 (q 2) 111 g0, aW T 0 (q 6) 3 wh1]) → va_S A sX.heap H locs → ∀ ls : Array Slot, lv_has ls 5 [(0, .ref (q 0)), (1, .int f), (2, .int l2), (3, .int (nI s))] → W pX l eX (rmD 5 0 0) sX mX ([.ref (q 0)] : List Value).toArray bX mtX cX H locs 0 0 TG (F0 mX 6 ls []) := by
    intro n_
    induction n_ with
    | zero => intro s f l2 op1 g0 wh1 hs hb2 hmu_ ; exact absurd hmu_ (Nat.not_lt_zero _)
    | succ n_ ih6 =>
      intro s f l2 op1 g0 wh1 hs hb2 hmu_6 H5 locs5 hP5 hD5 hS5 ls5 hl5
      refine lv_iload_n hx hb dX6_best_6 rfl (lv_at hl5 3 rfl) ?_
      refine lv_bipush (v := nI 12) hx hb dX6_best_7 (by decide) ?_
      refine n_icmp_ge (tgt := 126) hx hb (by omega) (by omega) dX6_best_9 (by decide) (fun c_9 => ?_) (fun c_9 => ?_)
      · skip
        have hs12 : s = 12 := by omega
        subst hs12
        refine lv_iload_n hx hb dX6_best_126 rfl (lv_at hl5 1 rfl) ?_
        refine ret_i hTG (Nat.le_refl _) (Nat.le_refl _) hx hb hr hlocks ((op1, g0, wh1)) hP5 hD5 hS5 [0, 1, 2, 3] rfl (by decide) dX6_best_127 ?_
        rw [← hb2]
      · skip
        refine lv_aload_n hx hb dX6_best_12 rfl (lv_at hl5 0 rfl) ?_
        refine r_get (own := RX6) (C := RX6) (F := TX6) (N := 12) (ci := 6) (v := .ref (q 1)) hx hb hK hts in_X6 hown hP5 0 rfl rfl 0 (by decide) kw_670 rfl dX6_best_13 ?_
        refine lv_iconst (v := nI 0) hx hb dX6_best_16 (by decide) ?_
        refine lv_aload_n hx hb dX6_best_17 rfl (lv_at hl5 0 rfl) ?_
        refine r_get (own := RX6) (C := RX6) (F := TX6) (N := 12) (ci := 6) (v := .ref (q 2)) hx hb hK hts in_X6 hown hP5 0 rfl rfl 1 (by decide) kw_671 rfl dX6_best_18 ?_
        refine lv_iconst (v := nI 0) hx hb dX6_best_21 (by decide) ?_
        have hPc7 : va_P D vwCl (fl [aW T 0 (q 1) 111 now, aW T 0 (q 2) 111 g0]) _ := flP_sub hP5 [1, 2] rfl
        have hDc7 : va_D A (fl [aW T 0 (q 1) 111 now, aW T 0 (q 2) 111 g0]) := flD_sub hD5 [1, 2] (by decide) rfl
        refine cl_v (br := [mO q (nI kp) (nI ty) th (nI at_) isF op1, aW T 0 (q 6) 3 wh1]) (va_runS (As := [.ref (q 1), .int (nI 0), .ref (q 2), .int (nI 0)]) (rest := []) ⟨hx, hb, hml, hown, hts⟩ (c_X6_copies l D T (q 1) 111 now 0 (q 2) 111 g0 0 (by omega) (by omega) (by omega) (by omega) _) (mkS hts okX6_copies kw_719 kw_720 ⟨rfl, rfl, Nat.le_of_ble_eq_true rfl, Nat.le_of_ble_eq_true rfl⟩) (ps_rw hK hPc7 hDc7) rfl rfl hl5.1 rfl (lv_room (Nat.le_of_ble_eq_true rfl)) dX6_best_22 ⟨Nat.le_of_ble_eq_true rfl, Nat.le_of_ble_eq_true rfl⟩) hP5 hD5 hS5 hA [0, 3] [1, 2] rfl (by decide) (fun g2_22 H8 locs8 hq_22 hP8 hD8 hS8 => ?_)
        clear hP5 hD5 hS5 hPc7 hDc7
        have hP8 : va_P D vwCl (fl [mO q (nI kp) (nI ty) th (nI at_) isF op1, aW T 0 (q 6) 3 wh1, aW T 0 (q 1) 111 now, aW T 0 (q 2) 111 g2_22]) _ := hP8
        have hD8 : va_D A (fl [mO q (nI kp) (nI ty) th (nI at_) isF op1, aW T 0 (q 6) 3 wh1, aW T 0 (q 1) 111 now, aW T 0 (q 2) 111 g2_22]) := hD8
        have hq_22 : va_cpy now g0 0 0 111 = g2_22 := hq_22
        have hu_g2_22 : va_cpy now g0 0 0 111 = g2_22 := hq_22
        subst hu_g2_22
        refine lv_aload_n hx hb dX6_best_25 rfl (lv_at hl5 0 rfl) ?_
        refine r_get (own := RX6) (C := RX6) (F := TX6) (N := 12) (ci := 6) (v := .ref (q 2)) hx hb hK hts in_X6 hown hP8 0 rfl rfl 1 (by decide) kw_671 rfl dX6_best_26 ?_
        refine lv_bipush (v := nI 84) hx hb dX6_best_29 (by decide) ?_
        refine lv_iconst (v := nI 1) hx hb dX6_best_31 (by decide) ?_
        refine r_iast hx hb hK hP8 hD8 hS8 3 (f := (va_cpy now g0 0 0 111)) (n := 111) rfl 84 (by decide) dX6_best_32 (by decide) (fun (H9 : Heap) (locs9 : List Loc) (hP9 : va_P D vwCl (fl [mO q (nI kp) (nI ty) th (nI at_) isF op1, aW T 0 (q 6) 3 wh1, aW T 0 (q 1) 111 now, aW T 0 (q 2) 111 (upd (va_cpy now g0 0 0 111) 84 (nI 1))]) H9) (hD9 : va_D A (fl [mO q (nI kp) (nI ty) th (nI at_) isF op1, aW T 0 (q 6) 3 wh1, aW T 0 (q 1) 111 now, aW T 0 (q 2) 111 (upd (va_cpy now g0 0 0 111) 84 (nI 1))])) hS9 => ?_)
        clear hP8 hD8 hS8
        refine lv_aload_n hx hb dX6_best_33 rfl (lv_at hl5 0 rfl) ?_
        refine r_get (own := RX6) (C := RX6) (F := TX6) (N := 12) (ci := 6) (v := .ref (q 2)) hx hb hK hts in_X6 hown hP9 0 rfl rfl 1 (by decide) kw_671 rfl dX6_best_34 ?_
        refine lv_bipush (v := nI 85) hx hb dX6_best_37 (by decide) ?_
        refine lv_iload_n hx hb dX6_best_39 rfl (lv_at hl5 3 rfl) ?_
        refine r_iast hx hb hK hP9 hD9 hS9 3 (f := (upd (va_cpy now g0 0 0 111) 84 (nI 1))) (n := 111) rfl 85 (by decide) dX6_best_40 (by decide) (fun (H10 : Heap) (locs10 : List Loc) (hP10 : va_P D vwCl (fl [mO q (nI kp) (nI ty) th (nI at_) isF op1, aW T 0 (q 6) 3 wh1, aW T 0 (q 1) 111 now, aW T 0 (q 2) 111 (upd (upd (va_cpy now g0 0 0 111) 84 (nI 1)) 85 (nI s))]) H10) (hD10 : va_D A (fl [mO q (nI kp) (nI ty) th (nI at_) isF op1, aW T 0 (q 6) 3 wh1, aW T 0 (q 1) 111 now, aW T 0 (q 2) 111 (upd (upd (va_cpy now g0 0 0 111) 84 (nI 1)) 85 (nI s))])) hS10 => ?_)
        clear hP9 hD9 hS9
        refine lv_aload_n hx hb dX6_best_41 rfl (lv_at hl5 0 rfl) ?_
        refine r_get (own := RX6) (C := RX6) (F := TX6) (N := 12) (ci := 6) (v := .ref (q 2)) hx hb hK hts in_X6 hown hP10 0 rfl rfl 1 (by decide) kw_671 rfl dX6_best_42 ?_
        refine lv_bipush (v := nI 93) hx hb dX6_best_45 (by decide) ?_
        refine lv_iconst (v := nI 0) hx hb dX6_best_47 (by decide) ?_
        refine r_iast hx hb hK hP10 hD10 hS10 3 (f := (upd (upd (va_cpy now g0 0 0 111) 84 (nI 1)) 85 (nI s))) (n := 111) rfl 93 (by decide) dX6_best_48 (by decide) (fun (H11 : Heap) (locs11 : List Loc) (hP11 : va_P D vwCl (fl [mO q (nI kp) (nI ty) th (nI at_) isF op1, aW T 0 (q 6) 3 wh1, aW T 0 (q 1) 111 now, aW T 0 (q 2) 111 (upd (upd (upd (va_cpy now g0 0 0 111) 84 (nI 1)) 85 (nI s)) 93 (nI 0))]) H11) (hD11 : va_D A (fl [mO q (nI kp) (nI ty) th (nI at_) isF op1, aW T 0 (q 6) 3 wh1, aW T 0 (q 1) 111 now, aW T 0 (q 2) 111 (upd (upd (upd (va_cpy now g0 0 0 111) 84 (nI 1)) 85 (nI s)) 93 (nI 0))])) hS11 => ?_)
        clear hP10 hD10 hS10
        refine lv_aload_n hx hb dX6_best_49 rfl (lv_at hl5 0 rfl) ?_
        refine r_get (own := RX6) (C := RX6) (F := TX6) (N := 12) (ci := 6) (v := .ref (q 2)) hx hb hK hts in_X6 hown hP11 0 rfl rfl 1 (by decide) kw_671 rfl dX6_best_50 ?_
        refine lv_bipush (v := nI 102) hx hb dX6_best_53 (by decide) ?_
        refine lv_iconst (v := nI 0) hx hb dX6_best_55 (by decide) ?_
        refine r_iast hx hb hK hP11 hD11 hS11 3 (f := (upd (upd (upd (va_cpy now g0 0 0 111) 84 (nI 1)) 85 (nI s)) 93 (nI 0))) (n := 111) rfl 102 (by decide) dX6_best_56 (by decide) (fun (H12 : Heap) (locs12 : List Loc) (hP12 : va_P D vwCl (fl [mO q (nI kp) (nI ty) th (nI at_) isF op1, aW T 0 (q 6) 3 wh1, aW T 0 (q 1) 111 now, aW T 0 (q 2) 111 (upd (upd (upd (upd (va_cpy now g0 0 0 111) 84 (nI 1)) 85 (nI s)) 93 (nI 0)) 102 (nI 0))]) H12) (hD12 : va_D A (fl [mO q (nI kp) (nI ty) th (nI at_) isF op1, aW T 0 (q 6) 3 wh1, aW T 0 (q 1) 111 now, aW T 0 (q 2) 111 (upd (upd (upd (upd (va_cpy now g0 0 0 111) 84 (nI 1)) 85 (nI s)) 93 (nI 0)) 102 (nI 0))])) hS12 => ?_)
        clear hP11 hD11 hS11
        refine lv_iconst (v := nI 0) hx hb dX6_best_57 (by decide) ?_
        refine lv_istore (lv' := [(4, .int (nI 0)), (0, .ref (q 0)), (1, .int f), (2, .int l2), (3, .int (nI s))]) hx hb dX6_best_58 hl5 (by decide) rfl (fun ls13 hl13 => ?_)
        clear hl5
        have hP14 : va_P D vwCl (fl [mO q (nI kp) (nI ty) th (nI at_) isF op1, aW T 0 (q 1) 111 now, aW T 0 (q 2) 111 (upd (upd (upd (upd (va_cpy now g0 0 0 111) 84 (nI 1)) 85 (nI s)) 93 (nI 0)) 102 (nI 0)), aW T 0 (q 6) 3 wh1]) _ := flP_sub hP12 [0, 2, 3, 1] rfl
        have hD14 : va_D A (fl [mO q (nI kp) (nI ty) th (nI at_) isF op1, aW T 0 (q 1) 111 now, aW T 0 (q 2) 111 (upd (upd (upd (upd (va_cpy now g0 0 0 111) 84 (nI 1)) 85 (nI s)) 93 (nI 0)) 102 (nI 0)), aW T 0 (q 6) 3 wh1]) := flD_sub hD12 [0, 2, 3, 1] (by decide) rfl
        have hS14 := hS12
        clear hP12 hS12 hD12
        have loop60 : ∀ (n_ : Nat) (i : Nat) (op3 : Int32) (g1 : Nat → Int32) (wh3 : Nat → Int32), (i ≤ 12) → (g1 = hourN (only (va_cpy now g0 0 0 111) s) i) → (12 - i) < n_ → ∀ (H : Heap) (locs : List Loc), va_P D vwCl (fl [mO q (nI kp) (nI ty) th (nI at_) isF op3, aW T 0 (q 1) 111 now, aW T 0 (q 2) 111 g1, aW T 0 (q 6) 3 wh3]) H → va_D A (fl [mO q (nI kp) (nI ty) th (nI at_) isF op3, aW T 0 (q 1) 111 now, aW T 0 (q 2) 111 g1, aW T 0 (q 6) 3 wh3]) → va_S A sX.heap H locs → ∀ ls : Array Slot, lv_has ls 5 [(0, .ref (q 0)), (1, .int f), (2, .int l2), (3, .int (nI s)), (4, .int (nI i))] → W pX l eX (rmD 5 0 0) sX mX ([.ref (q 0)] : List Value).toArray bX mtX cX H locs 0 0 TG (F0 mX 60 ls []) := by
          intro n_
          induction n_ with
          | zero => intro i op3 g1 wh3 hi hg hmu_ ; exact absurd hmu_ (Nat.not_lt_zero _)
          | succ n_ ih60 =>
            intro i op3 g1 wh3 hi hg hmu_60 H16 locs16 hP16 hD16 hS16 ls16 hl16
            refine lv_iload hx hb dX6_best_60 (lv_at hl16 4 rfl) ?_
            refine lv_bipush (v := nI 12) hx hb dX6_best_62 (by decide) ?_
            refine n_icmp_ge (tgt := 81) hx hb (by omega) (by omega) dX6_best_64 (by decide) (fun c_64 => ?_) (fun c_64 => ?_)
            · skip
              have hi12 : i = 12 := by omega
              subst hi12
              have hsum : sumM g1 3 12 = bestT now s := by rw [hg]; exact ((okS_only hS (e111_cpy now g0) (show s < 12 by omega)).hourN 12).sum3
              refine lv_aload_n hx hb dX6_best_81 rfl (lv_at hl16 0 rfl) ?_
              refine r_get (own := RX6) (C := RX6) (F := TX6) (N := 12) (ci := 6) (v := .ref (q 2)) hx hb hK hts in_X6 hown hP16 0 rfl rfl 1 (by decide) kw_671 rfl dX6_best_82 ?_
              refine lv_iconst (v := nI 3) hx hb dX6_best_85 (by decide) ?_
              have hPc18 : va_P D vwCl (fl [aW T 0 (q 2) 111 g1]) _ := hP16.sub [2] rfl
              refine cr_i (va_runS (As := [.ref (q 2), .int (nI 3)]) (rest := []) ⟨hx, hb, hml, hown, hts⟩ (c_X6_sum l D T (q 2) g1 3 (by omega)) (mkS hts okX6_sum kw_780 kw_781 ⟨rfl, rfl, Nat.le_of_ble_eq_true rfl, Nat.le_of_ble_eq_true rfl⟩) (ps_ro hK hPc18) rfl rfl hl16.1 rfl (lv_room (Nat.le_of_ble_eq_true rfl)) dX6_best_86 ⟨Nat.le_of_ble_eq_true rfl, Nat.le_of_ble_eq_true rfl⟩) hP16 hS16 (fun r_86 H19 locs19 hq_86 hP19 hS19 => ?_)
              clear hP16 hS16 hPc18
              have hD19 := hD16
              clear hD16
              have hq_86 : r_86 = sumM g1 3 12 := hq_86
              subst hq_86
              refine tp_i (y := bestT now s) (hsum) ?_
              refine lv_istore (lv' := [(4, .int (bestT now s)), (0, .ref (q 0)), (1, .int f), (2, .int l2), (3, .int (nI s))]) hx hb dX6_best_89 hl16 (by decide) rfl (fun ls20 hl20 => ?_)
              clear hl16
              refine lv_iload_n hx hb dX6_best_91 rfl (lv_at hl20 2 rfl) ?_
              refine lv_iconst (v := (-1)) hx hb dX6_best_92 (by decide) ?_
              refine lv_icmp_eq (tgt := 102) hx hb dX6_best_93 (by decide) (fun c_93 => ?_) (fun c_93 => ?_)
              · skip
                refine lv_iload_n hx hb dX6_best_102 rfl (lv_at hl20 4 rfl) ?_
                refine lv_goto (tgt := 107) hx hb dX6_best_103 (by decide) ?_
                refine lv_istore_n (lv' := [(1, .int (nI s)), (4, .int (bestT now s)), (0, .ref (q 0)), (2, .int l2), (3, .int (nI s))]) hx hb dX6_best_107 rfl hl20 (by decide) rfl (fun ls22 hl22 => ?_)
                clear hl20
                refine lv_iload_n hx hb dX6_best_108 rfl (lv_at hl22 0 rfl) ?_
                refine lv_iload_n hx hb dX6_best_109 rfl (lv_at hl22 4 rfl) ?_
                refine n_icmp_ne (tgt := 118) hx hb (by omega) (by omega) dX6_best_110 (by decide) (fun c23 => absurd c23 (fun h => h rfl)) (fun c23 => ?_)
                refine lv_iload hx hb dX6_best_113 (lv_at hl22 1 rfl) ?_
                refine lv_goto (tgt := 119) hx hb dX6_best_115 (by decide) ?_
                refine lv_istore_n (lv' := [(2, .int (bestT now s)), (1, .int (nI s)), (4, .int (bestT now s)), (0, .ref (q 0)), (3, .int (nI s))]) hx hb dX6_best_119 rfl hl22 (by decide) rfl (fun ls24 hl24 => ?_)
                clear hl22
                refine lv_iinc (v := nI (s + 1)) (lv' := [(3, .int (nI (s + 1))), (2, .int (bestT now s)), (1, .int (nI s)), (4, .int (bestT now s)), (0, .ref (q 0))]) hx hb dX6_best_120 hl24 (k := 4) rfl (nI_add s 1) (by decide) rfl (fun ls25 hl25 => ?_)
                clear hl24
                refine lv_goto (tgt := 6) hx hb dX6_best_123 (by decide) ?_
                exact ih6 (s + 1) (nI s) (bestT now s) op3 g1 wh3 (by omega) (by rw [bsI, ← hb2]; unfold bsS; (try dsimp only); (first | rw [if_pos c_93] | rw [if_neg c_93, if_pos c_99] | rw [if_neg c_93, if_neg c_99]); (first | rw [if_pos c_110] | rw [if_neg c_110] | rw [if_pos rfl])) (by omega) _ _ hP19 hD19 hS19 _ (lv_sub hl25 [4, 2, 1, 0] rfl)
              · skip
                refine lv_iload hx hb dX6_best_96 (lv_at hl20 0 rfl) ?_
                refine lv_iload_n hx hb dX6_best_98 rfl (lv_at hl20 3 rfl) ?_
                refine lv_icmp_ge (tgt := 106) hx hb dX6_best_99 (by decide) (fun c_99 => ?_) (fun c_99 => ?_)
                · skip
                  refine lv_iload_n hx hb dX6_best_106 rfl (lv_at hl20 2 rfl) ?_
                  refine lv_istore_n (lv' := [(1, .int f), (4, .int (bestT now s)), (0, .ref (q 0)), (2, .int l2), (3, .int (nI s))]) hx hb dX6_best_107 rfl hl20 (by decide) rfl (fun ls27 hl27 => ?_)
                  clear hl20
                  refine lv_iload_n hx hb dX6_best_108 rfl (lv_at hl27 0 rfl) ?_
                  refine lv_iload_n hx hb dX6_best_109 rfl (lv_at hl27 4 rfl) ?_
                  refine lv_icmp_ne (tgt := 118) hx hb dX6_best_110 (by decide) (fun c_110 => ?_) (fun c_110 => ?_)
                  · skip
                    refine lv_iload_n hx hb dX6_best_118 rfl (lv_at hl27 3 rfl) ?_
                    refine lv_istore_n (lv' := [(2, .int l2), (1, .int f), (4, .int (bestT now s)), (0, .ref (q 0)), (3, .int (nI s))]) hx hb dX6_best_119 rfl hl27 (by decide) rfl (fun ls29 hl29 => ?_)
                    clear hl27
                    refine lv_iinc (v := nI (s + 1)) (lv' := [(3, .int (nI (s + 1))), (2, .int l2), (1, .int f), (4, .int (bestT now s)), (0, .ref (q 0))]) hx hb dX6_best_120 hl29 (k := 4) rfl (nI_add s 1) (by decide) rfl (fun ls30 hl30 => ?_)
                    clear hl29
                    refine lv_goto (tgt := 6) hx hb dX6_best_123 (by decide) ?_
                    exact ih6 (s + 1) f l2 op3 g1 wh3 (by omega) (by rw [bsI, ← hb2]; unfold bsS; (try dsimp only); (first | rw [if_pos c_93] | rw [if_neg c_93, if_pos c_99] | rw [if_neg c_93, if_neg c_99]); (first | rw [if_pos c_110] | rw [if_neg c_110] | rw [if_pos rfl])) (by omega) _ _ hP19 hD19 hS19 _ (lv_sub hl30 [4, 2, 1, 0] rfl)
                  · skip
                    refine lv_iload hx hb dX6_best_113 (lv_at hl27 1 rfl) ?_
                    refine lv_goto (tgt := 119) hx hb dX6_best_115 (by decide) ?_
                    refine lv_istore_n (lv' := [(2, .int (bestT now s)), (1, .int f), (4, .int (bestT now s)), (0, .ref (q 0)), (3, .int (nI s))]) hx hb dX6_best_119 rfl hl27 (by decide) rfl (fun ls31 hl31 => ?_)
                    clear hl27
                    refine lv_iinc (v := nI (s + 1)) (lv' := [(3, .int (nI (s + 1))), (2, .int (bestT now s)), (1, .int f), (4, .int (bestT now s)), (0, .ref (q 0))]) hx hb dX6_best_120 hl31 (k := 4) rfl (nI_add s 1) (by decide) rfl (fun ls32 hl32 => ?_)
                    clear hl31
                    refine lv_goto (tgt := 6) hx hb dX6_best_123 (by decide) ?_
                    exact ih6 (s + 1) f (bestT now s) op3 g1 wh3 (by omega) (by rw [bsI, ← hb2]; unfold bsS; (try dsimp only); (first | rw [if_pos c_93] | rw [if_neg c_93, if_pos c_99] | rw [if_neg c_93, if_neg c_99]); (first | rw [if_pos c_110] | rw [if_neg c_110] | rw [if_pos rfl])) (by omega) _ _ hP19 hD19 hS19 _ (lv_sub hl32 [4, 2, 1, 0] rfl)
                · skip
                  refine lv_iload_n hx hb dX6_best_102 rfl (lv_at hl20 4 rfl) ?_
                  refine lv_goto (tgt := 107) hx hb dX6_best_103 (by decide) ?_
                  refine lv_istore_n (lv' := [(1, .int (nI s)), (4, .int (bestT now s)), (0, .ref (q 0)), (2, .int l2), (3, .int (nI s))]) hx hb dX6_best_107 rfl hl20 (by decide) rfl (fun ls33 hl33 => ?_)
                  clear hl20
                  refine lv_iload_n hx hb dX6_best_108 rfl (lv_at hl33 0 rfl) ?_
                  refine lv_iload_n hx hb dX6_best_109 rfl (lv_at hl33 4 rfl) ?_
                  refine n_icmp_ne (tgt := 118) hx hb (by omega) (by omega) dX6_best_110 (by decide) (fun c34 => absurd c34 (fun h => h rfl)) (fun c34 => ?_)
                  refine lv_iload hx hb dX6_best_113 (lv_at hl33 1 rfl) ?_
                  refine lv_goto (tgt := 119) hx hb dX6_best_115 (by decide) ?_
                  refine lv_istore_n (lv' := [(2, .int (bestT now s)), (1, .int (nI s)), (4, .int (bestT now s)), (0, .ref (q 0)), (3, .int (nI s))]) hx hb dX6_best_119 rfl hl33 (by decide) rfl (fun ls35 hl35 => ?_)
                  clear hl33
                  refine lv_iinc (v := nI (s + 1)) (lv' := [(3, .int (nI (s + 1))), (2, .int (bestT now s)), (1, .int (nI s)), (4, .int (bestT now s)), (0, .ref (q 0))]) hx hb dX6_best_120 hl35 (k := 4) rfl (nI_add s 1) (by decide) rfl (fun ls36 hl36 => ?_)
                  clear hl35
                  refine lv_goto (tgt := 6) hx hb dX6_best_123 (by decide) ?_
                  exact ih6 (s + 1) (nI s) (bestT now s) op3 g1 wh3 (by omega) (by rw [bsI, ← hb2]; unfold bsS; (try dsimp only); (first | rw [if_pos c_93] | rw [if_neg c_93, if_pos c_99] | rw [if_neg c_93, if_neg c_99]); (first | rw [if_pos c_110] | rw [if_neg c_110] | rw [if_pos rfl])) (by omega) _ _ hP19 hD19 hS19 _ (lv_sub hl36 [4, 2, 1, 0] rfl)
            · skip
              refine lv_aload_n hx hb dX6_best_67 rfl (lv_at hl16 0 rfl) ?_
              refine lv_aload_n hx hb dX6_best_68 rfl (lv_at hl16 0 rfl) ?_
              refine r_get (own := RX6) (C := RX6) (F := TX6) (N := 12) (ci := 6) (v := .ref (q 2)) hx hb hK hts in_X6 hown hP16 0 rfl rfl 1 (by decide) kw_671 rfl dX6_best_69 ?_
              have hPc37 : va_P D vwCl (fl [mO q (nI kp) (nI ty) th (nI at_) isF op3, aW T 0 (q 2) 111 g1, aW T 0 (q 6) 3 wh3]) _ := flP_sub hP16 [0, 2, 3] rfl
              have hDc37 : va_D A (fl [mO q (nI kp) (nI ty) th (nI at_) isF op3, aW T 0 (q 2) 111 g1, aW T 0 (q 6) 3 wh3]) := flD_sub hD16 [0, 2, 3] (by decide) rfl
              refine cl_v (br := [aW T 0 (q 1) 111 now]) (va_runV (As := [.ref (q 2)]) (rest := []) ⟨hx, hb, hml, hown, hts⟩ (c_X6_hour l D T q kp ty th at_ isF op3 (q 2) g1 wh3 (by rw [hg]; exact (okS.hourN (let ⟨_, _, h1, _⟩ := okS_only hS (e111_cpy now g0) (show s < 12 by omega); ⟨_, _, h1⟩) i).okM) _) (mkV hts okX6_hour kw_786 kw_788 ks_15 ⟨rfl, rfl, Nat.le_of_ble_eq_true rfl, Nat.le_of_ble_eq_true rfl⟩) (pv_rw hK hPc37 hDc37 (q0 := 0) rfl rfl rfl) rfl rfl hl16.1 rfl (lv_room (Nat.le_of_ble_eq_true rfl)) dX6_best_72 ⟨Nat.le_of_ble_eq_true rfl, Nat.le_of_ble_eq_true rfl⟩) hP16 hD16 hS16 hA [1] [0, 2, 3] rfl (by decide) (fun u_72 H38 locs38 hq_72 hP38 hD38 hS38 => ?_)
              clear hP16 hD16 hS16 hPc37 hDc37
              obtain ⟨op2_72, a2_72, wh2_72⟩ := u_72
              have hP38 : va_P D vwCl (fl [aW T 0 (q 1) 111 now, mO q (nI kp) (nI ty) th (nI at_) isF op2_72, aW T 0 (q 2) 111 a2_72, aW T 0 (q 6) 3 wh2_72]) _ := hP38
              have hD38 : va_D A (fl [aW T 0 (q 1) 111 now, mO q (nI kp) (nI ty) th (nI at_) isF op2_72, aW T 0 (q 2) 111 a2_72, aW T 0 (q 6) 3 wh2_72]) := hD38
              have hq_72 : a2_72 = hourF g1 := hq_72
              refine lv_iinc (v := nI (i + 1)) (lv' := [(4, .int (nI (i + 1))), (0, .ref (q 0)), (1, .int f), (2, .int l2), (3, .int (nI s))]) hx hb dX6_best_75 hl16 (k := 4) rfl (nI_add i 1) (by decide) rfl (fun ls39 hl39 => ?_)
              clear hl16
              refine lv_goto (tgt := 60) hx hb dX6_best_78 (by decide) ?_
              have hP40 : va_P D vwCl (fl [mO q (nI kp) (nI ty) th (nI at_) isF op2_72, aW T 0 (q 1) 111 now, aW T 0 (q 2) 111 a2_72, aW T 0 (q 6) 3 wh2_72]) _ := flP_sub hP38 [1, 0, 2, 3] rfl
              have hD40 : va_D A (fl [mO q (nI kp) (nI ty) th (nI at_) isF op2_72, aW T 0 (q 1) 111 now, aW T 0 (q 2) 111 a2_72, aW T 0 (q 6) 3 wh2_72]) := flD_sub hD38 [1, 0, 2, 3] (by decide) rfl
              have hS40 := hS38
              clear hP38 hS38 hD38
              exact ih60 (i + 1) op2_72 a2_72 wh2_72 (by omega) (by rw [hourN, ← hg]; exact hq_72) (by omega) _ _ hP40 hD40 hS40 _ (lv_sub hl39 [1, 2, 3, 4, 0] rfl)
        exact loop60 ((12 - 0) + 1) 0 op1 (upd (upd (upd (upd (va_cpy now g0 0 0 111) 84 (nI 1)) 85 (nI s)) 93 (nI 0)) 102 (nI 0)) wh1 (by omega) (rfl) (Nat.lt_succ_self _) _ _ hP14 hD14 hS14 _ (lv_sub hl13 [1, 2, 3, 4, 0] rfl)
  exact loop6 ((12 - 0) + 1) 0 (-1) (nI 0) op thn wh (by omega) (rfl) (Nat.lt_succ_self _) _ _ hP0 hD0 hS0 _ (lv_sub hl3 [3, 2, 1, 0] rfl)
set_option maxHeartbeats 4000000 in
set_option maxRecDepth 100000 in
theorem c_X6_bestStreet (l : Launch) (D : va_G) (T : TI) (q : Nat → Nat) (kp : Nat) (ty : Nat) (th : Int32) (at_ : Nat) (isF : Bool) (op : Int32) (now : Nat → Int32) (thn : Nat → Int32) (wh : Nat → Int32) (hS : okS now) : CI l yX6_bestStreet cX6_bestStreet 1 .int (rmD 6 0 0) D T [.ref (q 0)] [mO q (nI kp) (nI ty) th (nI at_) isF op, aW T 0 (q 1) 111 now, aW T 0 (q 2) 111 thn, aW T 0 (q 6) 3 wh] 0 0 (β := Int32 × Int32 × (Nat → Int32) × (Nat → Int32)) (fun ⟨th2, op2, thn2, wh2⟩ => [mO q (nI kp) (nI ty) th2 (nI at_) isF op2, aW T 0 (q 1) 111 now, aW T 0 (q 2) 111 thn2, aW T 0 (q 6) 3 wh2]) (fun (r : Int32) ⟨th2, op2, thn2, wh2⟩ => r = (bsI now 12).1 ∧ th2 = nI 0) := by
  intro sz
  refine met_rw (Qc := fun A => va_Qi _ (PST D _ A) A) rfl (Nat.le_of_ble_eq_true rfl) ?_
  intro pX eX sX mX bX mtX cX A hAe hC hA hP0 hD0 hS0 ls0 hl0 TG hTG
  clear hAe
  obtain ⟨hx, hb, hr, hml, hown, hts, hlocks, hin, hK⟩ := hC
  have hown : sX.vm.findClass RX6 = some mX.cls := hown
  have hl0 : lv_has ls0 1 [(0, .ref (q 0))] := hl0
  refine lv_aload_n hx hb dX6_bestStreet_0 rfl (lv_at hl0 0 rfl) ?_
  refine lv_iconst (v := nI 0) hx hb dX6_bestStreet_1 (by decide) ?_
  refine r_put (own := RX6) (C := RX6) (F := TX6) (N := 12) (ci := 6) (v := nI 0) hx hb hK hts in_X6 tyX6 tyX6_ok nmX6 hown hP0 hD0 hS0 0 rfl rfl 6 (by decide) kw_676 rfl rfl (Nat.le_of_ble_eq_true rfl) dX6_bestStreet_2 (fun (H1 : Heap) (locs1 : List Loc) (hP1 : va_P D vwCl (fl [mO q (nI kp) (nI ty) (nI 0) (nI at_) isF op, aW T 0 (q 1) 111 now, aW T 0 (q 2) 111 thn, aW T 0 (q 6) 3 wh]) H1) (hD1 : va_D A (fl [mO q (nI kp) (nI ty) (nI 0) (nI at_) isF op, aW T 0 (q 1) 111 now, aW T 0 (q 2) 111 thn, aW T 0 (q 6) 3 wh])) hS1 => ?_)
  clear hP0 hD0 hS0
  refine lv_aload_n hx hb dX6_bestStreet_5 rfl (lv_at hl0 0 rfl) ?_
  have hPc2 : va_P D vwCl (fl [mO q (nI kp) (nI ty) (nI 0) (nI at_) isF op, aW T 0 (q 1) 111 now, aW T 0 (q 2) 111 thn, aW T 0 (q 6) 3 wh]) _ := flP_sub hP1 [0, 1, 2, 3] rfl
  have hDc2 : va_D A (fl [mO q (nI kp) (nI ty) (nI 0) (nI at_) isF op, aW T 0 (q 1) 111 now, aW T 0 (q 2) 111 thn, aW T 0 (q 6) 3 wh]) := flD_sub hD1 [0, 1, 2, 3] (by decide) rfl
  refine cl_i (br := []) (va_runV (As := []) (rest := []) ⟨hx, hb, hml, hown, hts⟩ (c_X6_best l D T q kp ty (nI 0) at_ isF op now thn wh (hS) _) (mkV hts okX6_best kw_887 kw_889 ks_24 ⟨rfl, rfl, Nat.le_of_ble_eq_true rfl, Nat.le_of_ble_eq_true rfl⟩) (pv_rw hK hPc2 hDc2 (q0 := 0) rfl rfl rfl) rfl rfl hl0.1 rfl (lv_room (Nat.le_of_ble_eq_true rfl)) dX6_bestStreet_6 ⟨Nat.le_of_ble_eq_true rfl, Nat.le_of_ble_eq_true rfl⟩) hP1 hD1 hS1 hA [] [0, 1, 2, 3] rfl (by decide) (fun r_6 u_6 H3 locs3 hq_6 hP3 hD3 hS3 => ?_)
  clear hP1 hD1 hS1 hPc2 hDc2
  obtain ⟨op2_6, thn2_6, wh2_6⟩ := u_6
  have hP3 : va_P D vwCl (fl [mO q (nI kp) (nI ty) (nI 0) (nI at_) isF op2_6, aW T 0 (q 1) 111 now, aW T 0 (q 2) 111 thn2_6, aW T 0 (q 6) 3 wh2_6]) _ := hP3
  have hD3 : va_D A (fl [mO q (nI kp) (nI ty) (nI 0) (nI at_) isF op2_6, aW T 0 (q 1) 111 now, aW T 0 (q 2) 111 thn2_6, aW T 0 (q 6) 3 wh2_6]) := hD3
  have hq_6 : r_6 = (bsI now 12).1 := hq_6
  refine ret_i hTG (Nat.le_refl _) (Nat.le_refl _) hx hb hr hlocks (((nI 0), op2_6, thn2_6, wh2_6)) hP3 hD3 hS3 [0, 1, 2, 3] rfl (by decide) dX6_bestStreet_9 ?_
  exact ⟨hq_6, rfl⟩
set_option maxHeartbeats 4000000 in
set_option maxRecDepth 100000 in
theorem c_X6_clears (l : Launch) (D : va_G) (T : TI) (q : Nat → Nat) (kp : Nat) (ty : Nat) (th : Int32) (at_ : Nat) (isF : Bool) (op : Int32) (now : Nat → Int32) (thn : Nat → Int32) (wh : Nat → Int32) (hS : okS now) : CI l yX6_clears cX6_clears 2 .int (rmD 5 0 0) D T [.ref (q 0)] [mO q (nI kp) (nI ty) th (nI at_) isF op, aW T 0 (q 1) 111 now, aW T 0 (q 2) 111 thn, aW T 0 (q 6) 3 wh] 0 0 (β := Int32 × (Nat → Int32) × (Nat → Int32)) (fun ⟨op2, thn2, wh2⟩ => [mO q (nI kp) (nI ty) th (nI at_) isF op2, aW T 0 (q 1) 111 now, aW T 0 (q 2) 111 thn2, aW T 0 (q 6) 3 wh2]) (fun (r : Int32) ⟨op2, thn2, wh2⟩ => r = clG now 0 201) := by
  intro sz
  refine met_rw (Qc := fun A => va_Qi _ (PST D _ A) A) rfl (Nat.le_of_ble_eq_true rfl) ?_
  intro pX eX sX mX bX mtX cX A hAe hC hA hP0 hD0 hS0 ls0 hl0 TG hTG
  clear hAe
  obtain ⟨hx, hb, hr, hml, hown, hts, hlocks, hin, hK⟩ := hC
  have hown : sX.vm.findClass RX6 = some mX.cls := hown
  have hl0 : lv_has ls0 2 [(0, .ref (q 0))] := hl0
  refine lv_aload_n hx hb dX6_clears_0 rfl (lv_at hl0 0 rfl) ?_
  refine r_get (own := RX6) (C := RX6) (F := TX6) (N := 12) (ci := 6) (v := .ref (q 1)) hx hb hK hts in_X6 hown hP0 0 rfl rfl 0 (by decide) kw_670 rfl dX6_clears_1 ?_
  refine lv_iconst (v := nI 0) hx hb dX6_clears_4 (by decide) ?_
  refine lv_aload_n hx hb dX6_clears_5 rfl (lv_at hl0 0 rfl) ?_
  refine r_get (own := RX6) (C := RX6) (F := TX6) (N := 12) (ci := 6) (v := .ref (q 2)) hx hb hK hts in_X6 hown hP0 0 rfl rfl 1 (by decide) kw_671 rfl dX6_clears_6 ?_
  refine lv_iconst (v := nI 0) hx hb dX6_clears_9 (by decide) ?_
  have hPc1 : va_P D vwCl (fl [aW T 0 (q 1) 111 now, aW T 0 (q 2) 111 thn]) _ := flP_sub hP0 [1, 2] rfl
  have hDc1 : va_D A (fl [aW T 0 (q 1) 111 now, aW T 0 (q 2) 111 thn]) := flD_sub hD0 [1, 2] (by decide) rfl
  refine cl_v (br := [mO q (nI kp) (nI ty) th (nI at_) isF op, aW T 0 (q 6) 3 wh]) (va_runS (As := [.ref (q 1), .int (nI 0), .ref (q 2), .int (nI 0)]) (rest := []) ⟨hx, hb, hml, hown, hts⟩ (c_X6_copies l D T (q 1) 111 now 0 (q 2) 111 thn 0 (by omega) (by omega) (by omega) (by omega) _) (mkS hts okX6_copies kw_719 kw_720 ⟨rfl, rfl, Nat.le_of_ble_eq_true rfl, Nat.le_of_ble_eq_true rfl⟩) (ps_rw hK hPc1 hDc1) rfl rfl hl0.1 rfl (lv_room (Nat.le_of_ble_eq_true rfl)) dX6_clears_10 ⟨Nat.le_of_ble_eq_true rfl, Nat.le_of_ble_eq_true rfl⟩) hP0 hD0 hS0 hA [0, 3] [1, 2] rfl (by decide) (fun g2_10 H2 locs2 hq_10 hP2 hD2 hS2 => ?_)
  clear hP0 hD0 hS0 hPc1 hDc1
  have hP2 : va_P D vwCl (fl [mO q (nI kp) (nI ty) th (nI at_) isF op, aW T 0 (q 6) 3 wh, aW T 0 (q 1) 111 now, aW T 0 (q 2) 111 g2_10]) _ := hP2
  have hD2 : va_D A (fl [mO q (nI kp) (nI ty) th (nI at_) isF op, aW T 0 (q 6) 3 wh, aW T 0 (q 1) 111 now, aW T 0 (q 2) 111 g2_10]) := hD2
  have hq_10 : va_cpy now thn 0 0 111 = g2_10 := hq_10
  have hu_g2_10 : va_cpy now thn 0 0 111 = g2_10 := hq_10
  subst hu_g2_10
  refine lv_iconst (v := nI 0) hx hb dX6_clears_13 (by decide) ?_
  refine lv_istore_n (lv' := [(1, .int (nI 0)), (0, .ref (q 0))]) hx hb dX6_clears_14 rfl hl0 (by decide) rfl (fun ls3 hl3 => ?_)
  clear hl0
  have hP4 : va_P D vwCl (fl [mO q (nI kp) (nI ty) th (nI at_) isF op, aW T 0 (q 1) 111 now, aW T 0 (q 2) 111 (va_cpy now thn 0 0 111), aW T 0 (q 6) 3 wh]) _ := flP_sub hP2 [0, 2, 3, 1] rfl
  have hD4 : va_D A (fl [mO q (nI kp) (nI ty) th (nI at_) isF op, aW T 0 (q 1) 111 now, aW T 0 (q 2) 111 (va_cpy now thn 0 0 111), aW T 0 (q 6) 3 wh]) := flD_sub hD2 [0, 2, 3, 1] (by decide) rfl
  have hS4 := hS2
  clear hP2 hS2 hD2
  have loop15 : ∀ (n_ : Nat) (i : Nat) (op1 : Int32) (g1 : Nat → Int32) (wh1 : Nat → Int32), (i ≤ 201) → (g1 = hourN (va_cpy now thn 0 0 111) i) → (clG now 0 201 = clG now i (201 - i)) → (201 - i) < n_ → ∀ (H : Heap) (locs : List Loc), va_P D vwCl (fl [mO q (nI kp) (nI ty) th (nI at_) isF op1, aW T 0 (q 1) 111 now, aW T 0 (q 2) 111 g1, aW T 0 (q 6) 3 wh1]) H → va_D A (fl [mO q (nI kp) (nI ty) th (nI at_) isF op1, aW T 0 (q 1) 111 now, aW T 0 (q 2) 111 g1, aW T 0 (q 6) 3 wh1]) → va_S A sX.heap H locs → ∀ ls : Array Slot, lv_has ls 2 [(0, .ref (q 0)), (1, .int (nI i))] → W pX l eX (rmD 5 0 0) sX mX ([.ref (q 0)] : List Value).toArray bX mtX cX H locs 0 0 TG (F0 mX 15 ls []) := by
    intro n_
    induction n_ with
    | zero => intro i op1 g1 wh1 hi hg hcl hmu_ ; exact absurd hmu_ (Nat.not_lt_zero _)
    | succ n_ ih15 =>
      intro i op1 g1 wh1 hi hg hcl hmu_15 H6 locs6 hP6 hD6 hS6 ls6 hl6
      refine lv_iload_n hx hb dX6_clears_15 rfl (lv_at hl6 1 rfl) ?_
      refine lv_sipush (v := nI 200) hx hb dX6_clears_16 (by decide) ?_
      refine n_icmp_gt (tgt := 48) hx hb (by omega) (by omega) dX6_clears_19 (by decide) (fun c_19 => ?_) (fun c_19 => ?_)
      · skip
        refine lv_iconst (v := (-1)) hx hb dX6_clears_48 (by decide) ?_
        refine ret_i hTG (Nat.le_refl _) (Nat.le_refl _) hx hb hr hlocks ((op1, g1, wh1)) hP6 hD6 hS6 [0, 1, 2, 3] rfl (by decide) dX6_clears_49 ?_
        have hi2 : i = 201 := by omega
        rw [hcl, hi2]; rfl
      · skip
        have hbn : brNM g1 12 = brNM (hourN now i) 12 := by rw [hg]; exact ((okS_self hS (e111_cpy now thn)).hourN i).br
        have hb12 := brNM_le g1 12
        refine lv_aload_n hx hb dX6_clears_22 rfl (lv_at hl6 0 rfl) ?_
        refine r_get (own := RX6) (C := RX6) (F := TX6) (N := 12) (ci := 6) (v := .ref (q 2)) hx hb hK hts in_X6 hown hP6 0 rfl rfl 1 (by decide) kw_671 rfl dX6_clears_23 ?_
        have hPc8 : va_P D vwCl (fl [aW T 0 (q 2) 111 g1]) _ := hP6.sub [2] rfl
        refine cr_i (va_runS (As := [.ref (q 2)]) (rest := []) ⟨hx, hb, hml, hown, hts⟩ (c_X6_brown l D T (q 2) g1 ) (mkS hts okX6_brown kw_864 kw_865 ⟨rfl, rfl, Nat.le_of_ble_eq_true rfl, Nat.le_of_ble_eq_true rfl⟩) (ps_ro hK hPc8) rfl rfl hl6.1 rfl (lv_room (Nat.le_of_ble_eq_true rfl)) dX6_clears_26 ⟨Nat.le_of_ble_eq_true rfl, Nat.le_of_ble_eq_true rfl⟩) hP6 hS6 (fun r_26 H9 locs9 hq_26 hP9 hS9 => ?_)
        clear hP6 hS6 hPc8
        have hD9 := hD6
        clear hD6
        have hq_26 : r_26 = nI (brNM g1 12) := hq_26
        subst hq_26
        refine n_if_ne (tgt := 34) hx hb (by omega) dX6_clears_29 (by decide) (fun c_29 => ?_) (fun c_29 => ?_)
        · skip
          refine lv_aload_n hx hb dX6_clears_34 rfl (lv_at hl6 0 rfl) ?_
          refine lv_aload_n hx hb dX6_clears_35 rfl (lv_at hl6 0 rfl) ?_
          refine r_get (own := RX6) (C := RX6) (F := TX6) (N := 12) (ci := 6) (v := .ref (q 2)) hx hb hK hts in_X6 hown hP9 0 rfl rfl 1 (by decide) kw_671 rfl dX6_clears_36 ?_
          have hPc11 : va_P D vwCl (fl [mO q (nI kp) (nI ty) th (nI at_) isF op1, aW T 0 (q 2) 111 g1, aW T 0 (q 6) 3 wh1]) _ := flP_sub hP9 [0, 2, 3] rfl
          have hDc11 : va_D A (fl [mO q (nI kp) (nI ty) th (nI at_) isF op1, aW T 0 (q 2) 111 g1, aW T 0 (q 6) 3 wh1]) := flD_sub hD9 [0, 2, 3] (by decide) rfl
          refine cl_v (br := [aW T 0 (q 1) 111 now]) (va_runV (As := [.ref (q 2)]) (rest := []) ⟨hx, hb, hml, hown, hts⟩ (c_X6_hour l D T q kp ty th at_ isF op1 (q 2) g1 wh1 (by rw [hg]; exact ((hS.e111 (e111_cpy _ _)).hourN i).okM) _) (mkV hts okX6_hour kw_786 kw_788 ks_15 ⟨rfl, rfl, Nat.le_of_ble_eq_true rfl, Nat.le_of_ble_eq_true rfl⟩) (pv_rw hK hPc11 hDc11 (q0 := 0) rfl rfl rfl) rfl rfl hl6.1 rfl (lv_room (Nat.le_of_ble_eq_true rfl)) dX6_clears_39 ⟨Nat.le_of_ble_eq_true rfl, Nat.le_of_ble_eq_true rfl⟩) hP9 hD9 hS9 hA [1] [0, 2, 3] rfl (by decide) (fun u_39 H12 locs12 hq_39 hP12 hD12 hS12 => ?_)
          clear hP9 hD9 hS9 hPc11 hDc11
          obtain ⟨op2_39, a2_39, wh2_39⟩ := u_39
          have hP12 : va_P D vwCl (fl [aW T 0 (q 1) 111 now, mO q (nI kp) (nI ty) th (nI at_) isF op2_39, aW T 0 (q 2) 111 a2_39, aW T 0 (q 6) 3 wh2_39]) _ := hP12
          have hD12 : va_D A (fl [aW T 0 (q 1) 111 now, mO q (nI kp) (nI ty) th (nI at_) isF op2_39, aW T 0 (q 2) 111 a2_39, aW T 0 (q 6) 3 wh2_39]) := hD12
          have hq_39 : a2_39 = hourF g1 := hq_39
          refine lv_iinc (v := nI (i + 1)) (lv' := [(1, .int (nI (i + 1))), (0, .ref (q 0))]) hx hb dX6_clears_42 hl6 (k := 1) rfl (nI_add i 1) (by decide) rfl (fun ls13 hl13 => ?_)
          clear hl6
          refine lv_goto (tgt := 15) hx hb dX6_clears_45 (by decide) ?_
          have hP14 : va_P D vwCl (fl [mO q (nI kp) (nI ty) th (nI at_) isF op2_39, aW T 0 (q 1) 111 now, aW T 0 (q 2) 111 a2_39, aW T 0 (q 6) 3 wh2_39]) _ := flP_sub hP12 [1, 0, 2, 3] rfl
          have hD14 : va_D A (fl [mO q (nI kp) (nI ty) th (nI at_) isF op2_39, aW T 0 (q 1) 111 now, aW T 0 (q 2) 111 a2_39, aW T 0 (q 6) 3 wh2_39]) := flD_sub hD12 [1, 0, 2, 3] (by decide) rfl
          have hS14 := hS12
          clear hP12 hS12 hD12
          exact ih15 (i + 1) op2_39 a2_39 wh2_39 (by omega) (by rw [hourN, ← hg]; exact hq_39) (by rw [hcl, show 201 - i = (201 - (i + 1)) + 1 by omega, clG, if_neg (by rw [← hbn]; exact c_29)]) (by omega) _ _ hP14 hD14 hS14 _ (lv_sub hl13 [1, 0] rfl)
        · skip
          refine lv_iload_n hx hb dX6_clears_32 rfl (lv_at hl6 1 rfl) ?_
          refine ret_i hTG (Nat.le_refl _) (Nat.le_refl _) hx hb hr hlocks ((op1, g1, wh1)) hP9 hD9 hS9 [0, 1, 2, 3] rfl (by decide) dX6_clears_33 ?_
          rw [hcl, show 201 - i = (200 - i) + 1 by omega, clG, if_pos (by rw [← hbn]; exact c_29)]
  exact loop15 ((201 - 0) + 1) 0 op (va_cpy now thn 0 0 111) wh (by omega) (rfl) (rfl) (Nat.lt_succ_self _) _ _ hP4 hD4 hS4 _ (lv_sub hl3 [1, 0] rfl)
set_option maxHeartbeats 4000000 in
set_option maxRecDepth 100000 in
theorem c_X6_clearIn (l : Launch) (D : va_G) (T : TI) (q : Nat → Nat) (kp : Nat) (ty : Nat) (th : Int32) (at_ : Nat) (isF : Bool) (op : Int32) (now : Nat → Int32) (thn : Nat → Int32) (wh : Nat → Int32) (hS : okS now) : CI l yX6_clearIn cX6_clearIn 1 .int (rmD 6 0 0) D T [.ref (q 0)] [mO q (nI kp) (nI ty) th (nI at_) isF op, aW T 0 (q 1) 111 now, aW T 0 (q 2) 111 thn, aW T 0 (q 6) 3 wh] 0 0 (β := Int32 × Int32 × (Nat → Int32) × (Nat → Int32)) (fun ⟨th2, op2, thn2, wh2⟩ => [mO q (nI kp) (nI ty) th2 (nI at_) isF op2, aW T 0 (q 1) 111 now, aW T 0 (q 2) 111 thn2, aW T 0 (q 6) 3 wh2]) (fun (r : Int32) ⟨th2, op2, thn2, wh2⟩ => r = clG now 0 201 ∧ th2 = nI 0) := by
  intro sz
  refine met_rw (Qc := fun A => va_Qi _ (PST D _ A) A) rfl (Nat.le_of_ble_eq_true rfl) ?_
  intro pX eX sX mX bX mtX cX A hAe hC hA hP0 hD0 hS0 ls0 hl0 TG hTG
  clear hAe
  obtain ⟨hx, hb, hr, hml, hown, hts, hlocks, hin, hK⟩ := hC
  have hown : sX.vm.findClass RX6 = some mX.cls := hown
  have hl0 : lv_has ls0 1 [(0, .ref (q 0))] := hl0
  refine lv_aload_n hx hb dX6_clearIn_0 rfl (lv_at hl0 0 rfl) ?_
  refine lv_iconst (v := nI 0) hx hb dX6_clearIn_1 (by decide) ?_
  refine r_put (own := RX6) (C := RX6) (F := TX6) (N := 12) (ci := 6) (v := nI 0) hx hb hK hts in_X6 tyX6 tyX6_ok nmX6 hown hP0 hD0 hS0 0 rfl rfl 6 (by decide) kw_676 rfl rfl (Nat.le_of_ble_eq_true rfl) dX6_clearIn_2 (fun (H1 : Heap) (locs1 : List Loc) (hP1 : va_P D vwCl (fl [mO q (nI kp) (nI ty) (nI 0) (nI at_) isF op, aW T 0 (q 1) 111 now, aW T 0 (q 2) 111 thn, aW T 0 (q 6) 3 wh]) H1) (hD1 : va_D A (fl [mO q (nI kp) (nI ty) (nI 0) (nI at_) isF op, aW T 0 (q 1) 111 now, aW T 0 (q 2) 111 thn, aW T 0 (q 6) 3 wh])) hS1 => ?_)
  clear hP0 hD0 hS0
  refine lv_aload_n hx hb dX6_clearIn_5 rfl (lv_at hl0 0 rfl) ?_
  have hPc2 : va_P D vwCl (fl [mO q (nI kp) (nI ty) (nI 0) (nI at_) isF op, aW T 0 (q 1) 111 now, aW T 0 (q 2) 111 thn, aW T 0 (q 6) 3 wh]) _ := flP_sub hP1 [0, 1, 2, 3] rfl
  have hDc2 : va_D A (fl [mO q (nI kp) (nI ty) (nI 0) (nI at_) isF op, aW T 0 (q 1) 111 now, aW T 0 (q 2) 111 thn, aW T 0 (q 6) 3 wh]) := flD_sub hD1 [0, 1, 2, 3] (by decide) rfl
  refine cl_i (br := []) (va_runV (As := []) (rest := []) ⟨hx, hb, hml, hown, hts⟩ (c_X6_clears l D T q kp ty (nI 0) at_ isF op now thn wh (hS) _) (mkV hts okX6_clears kw_895 kw_897 ks_25 ⟨rfl, rfl, Nat.le_of_ble_eq_true rfl, Nat.le_of_ble_eq_true rfl⟩) (pv_rw hK hPc2 hDc2 (q0 := 0) rfl rfl rfl) rfl rfl hl0.1 rfl (lv_room (Nat.le_of_ble_eq_true rfl)) dX6_clearIn_6 ⟨Nat.le_of_ble_eq_true rfl, Nat.le_of_ble_eq_true rfl⟩) hP1 hD1 hS1 hA [] [0, 1, 2, 3] rfl (by decide) (fun r_6 u_6 H3 locs3 hq_6 hP3 hD3 hS3 => ?_)
  clear hP1 hD1 hS1 hPc2 hDc2
  obtain ⟨op2_6, thn2_6, wh2_6⟩ := u_6
  have hP3 : va_P D vwCl (fl [mO q (nI kp) (nI ty) (nI 0) (nI at_) isF op2_6, aW T 0 (q 1) 111 now, aW T 0 (q 2) 111 thn2_6, aW T 0 (q 6) 3 wh2_6]) _ := hP3
  have hD3 : va_D A (fl [mO q (nI kp) (nI ty) (nI 0) (nI at_) isF op2_6, aW T 0 (q 1) 111 now, aW T 0 (q 2) 111 thn2_6, aW T 0 (q 6) 3 wh2_6]) := hD3
  have hq_6 : r_6 = clG now 0 201 := hq_6
  refine ret_i hTG (Nat.le_refl _) (Nat.le_refl _) hx hb hr hlocks (((nI 0), op2_6, thn2_6, wh2_6)) hP3 hD3 hS3 [0, 1, 2, 3] rfl (by decide) dX6_clearIn_9 ?_
  exact ⟨hq_6, rfl⟩
set_option maxHeartbeats 4000000 in
set_option maxRecDepth 100000 in
theorem c_X6_least (l : Launch) (D : va_G) (T : TI) (q : Nat → Nat) (kp : Nat) (ty : Nat) (th : Int32) (at_ : Nat) (isF : Bool) (op : Int32) (now : Nat → Int32) (thn : Nat → Int32) (s : Nat) (hs : s < 12) : CI l yX6_least cX6_least 3 .int (rmD 3 0 0) D T [.ref (q 0), .int (nI s)] [mO q (nI kp) (nI ty) th (nI at_) isF op, aW T 0 (q 1) 111 now, aW T 0 (q 2) 111 thn] 0 0 (β := Nat → Int32) (fun (thn2 : Nat → Int32) => [mO q (nI kp) (nI ty) th (nI at_) isF op, aW T 0 (q 1) 111 now, aW T 0 (q 2) 111 thn2]) (fun (r : Int32) (thn2 : Nat → Int32) => r = lsG now s 0 100) := by
  intro sz
  refine met_rw (Qc := fun A => va_Qi _ (PST D _ A) A) rfl (Nat.le_of_ble_eq_true rfl) ?_
  intro pX eX sX mX bX mtX cX A hAe hC hA hP0 hD0 hS0 ls0 hl0 TG hTG
  clear hAe
  obtain ⟨hx, hb, hr, hml, hown, hts, hlocks, hin, hK⟩ := hC
  have hown : sX.vm.findClass RX6 = some mX.cls := hown
  have hl0 : lv_has ls0 3 [(0, .ref (q 0)), (1, .int (nI s))] := hl0
  refine lv_aload_n hx hb dX6_least_0 rfl (lv_at hl0 0 rfl) ?_
  refine r_get (own := RX6) (C := RX6) (F := TX6) (N := 12) (ci := 6) (v := .ref (q 1)) hx hb hK hts in_X6 hown hP0 0 rfl rfl 0 (by decide) kw_670 rfl dX6_least_1 ?_
  refine lv_iconst (v := nI 0) hx hb dX6_least_4 (by decide) ?_
  refine lv_aload_n hx hb dX6_least_5 rfl (lv_at hl0 0 rfl) ?_
  refine r_get (own := RX6) (C := RX6) (F := TX6) (N := 12) (ci := 6) (v := .ref (q 2)) hx hb hK hts in_X6 hown hP0 0 rfl rfl 1 (by decide) kw_671 rfl dX6_least_6 ?_
  refine lv_iconst (v := nI 0) hx hb dX6_least_9 (by decide) ?_
  have hPc1 : va_P D vwCl (fl [aW T 0 (q 1) 111 now, aW T 0 (q 2) 111 thn]) _ := flP_sub hP0 [1, 2] rfl
  have hDc1 : va_D A (fl [aW T 0 (q 1) 111 now, aW T 0 (q 2) 111 thn]) := flD_sub hD0 [1, 2] (by decide) rfl
  refine cl_v (br := [mO q (nI kp) (nI ty) th (nI at_) isF op]) (va_runS (As := [.ref (q 1), .int (nI 0), .ref (q 2), .int (nI 0)]) (rest := []) ⟨hx, hb, hml, hown, hts⟩ (c_X6_copies l D T (q 1) 111 now 0 (q 2) 111 thn 0 (by omega) (by omega) (by omega) (by omega) _) (mkS hts okX6_copies kw_719 kw_720 ⟨rfl, rfl, Nat.le_of_ble_eq_true rfl, Nat.le_of_ble_eq_true rfl⟩) (ps_rw hK hPc1 hDc1) rfl rfl hl0.1 rfl (lv_room (Nat.le_of_ble_eq_true rfl)) dX6_least_10 ⟨Nat.le_of_ble_eq_true rfl, Nat.le_of_ble_eq_true rfl⟩) hP0 hD0 hS0 hA [0] [1, 2] rfl (by decide) (fun g2_10 H2 locs2 hq_10 hP2 hD2 hS2 => ?_)
  clear hP0 hD0 hS0 hPc1 hDc1
  have hP2 : va_P D vwCl (fl [mO q (nI kp) (nI ty) th (nI at_) isF op, aW T 0 (q 1) 111 now, aW T 0 (q 2) 111 g2_10]) _ := hP2
  have hD2 : va_D A (fl [mO q (nI kp) (nI ty) th (nI at_) isF op, aW T 0 (q 1) 111 now, aW T 0 (q 2) 111 g2_10]) := hD2
  have hq_10 : va_cpy now thn 0 0 111 = g2_10 := hq_10
  have hu_g2_10 : va_cpy now thn 0 0 111 = g2_10 := hq_10
  subst hu_g2_10
  refine lv_iconst (v := nI 0) hx hb dX6_least_13 (by decide) ?_
  refine lv_istore_n (lv' := [(2, .int (nI 0)), (0, .ref (q 0)), (1, .int (nI s))]) hx hb dX6_least_14 rfl hl0 (by decide) rfl (fun ls3 hl3 => ?_)
  clear hl0
  have loop15 : ∀ (n_ : Nat) (p : Nat) (g1 : Nat → Int32), (p ≤ 100) → (∀ j, j < 111 → j ≠ 4 + s / 4 → g1 j = now j) → (lsG now s 0 100 = lsG now s p (100 - p)) → (100 - p) < n_ → ∀ (H : Heap) (locs : List Loc), va_P D vwCl (fl [mO q (nI kp) (nI ty) th (nI at_) isF op, aW T 0 (q 1) 111 now, aW T 0 (q 2) 111 g1]) H → va_D A (fl [mO q (nI kp) (nI ty) th (nI at_) isF op, aW T 0 (q 1) 111 now, aW T 0 (q 2) 111 g1]) → va_S A sX.heap H locs → ∀ ls : Array Slot, lv_has ls 3 [(0, .ref (q 0)), (1, .int (nI s)), (2, .int (nI p))] → W pX l eX (rmD 3 0 0) sX mX ([.ref (q 0), .int (nI s)] : List Value).toArray bX mtX cX H locs 0 0 TG (F0 mX 15 ls []) := by
    intro n_
    induction n_ with
    | zero => intro p g1 hp hg hl2 hmu_ ; exact absurd hmu_ (Nat.not_lt_zero _)
    | succ n_ ih15 =>
      intro p g1 hp hg hl2 hmu_15 H5 locs5 hP5 hD5 hS5 ls5 hl5
      refine lv_iload_n hx hb dX6_least_15 rfl (lv_at hl5 2 rfl) ?_
      refine lv_bipush (v := nI 100) hx hb dX6_least_16 (by decide) ?_
      refine n_icmp_ge (tgt := 60) hx hb (by omega) (by omega) dX6_least_18 (by decide) (fun c_18 => ?_) (fun c_18 => ?_)
      · skip
        refine lv_iconst (v := (-1)) hx hb dX6_least_60 (by decide) ?_
        refine ret_i hTG (Nat.le_refl _) (Nat.le_refl _) hx hb hr hlocks ((g1)) hP5 hD5 hS5 [0, 1, 2] rfl (by decide) dX6_least_61 ?_
        have hp2 : p = 100 := by omega
        rw [hl2, hp2]; rfl
      · skip
        refine lv_aload_n hx hb dX6_least_21 rfl (lv_at hl5 0 rfl) ?_
        refine r_get (own := RX6) (C := RX6) (F := TX6) (N := 12) (ci := 6) (v := .ref (q 2)) hx hb hK hts in_X6 hown hP5 0 rfl rfl 1 (by decide) kw_671 rfl dX6_least_22 ?_
        refine lv_iconst (v := nI 4) hx hb dX6_least_25 (by decide) ?_
        refine lv_iload_n hx hb dX6_least_26 rfl (lv_at hl5 1 rfl) ?_
        refine lv_iconst (v := nI 4) hx hb dX6_least_27 (by decide) ?_
        refine lv_idiv hx hb dX6_least_28 (by decide) ?_
        refine tp_i (y := nI (s / 4)) (pk_div (by omega) (by omega) (by omega)) ?_
        refine lv_iadd hx hb dX6_least_29 ?_
        refine tp_i (y := nI (4 + (s / 4))) (nI_add _ _) ?_
        refine lv_iload_n hx hb dX6_least_30 rfl (lv_at hl5 2 rfl) ?_
        refine r_iast hx hb hK hP5 hD5 hS5 2 (f := g1) (n := 111) rfl (4 + (s / 4)) (by decide) dX6_least_31 (by omega) (fun (H7 : Heap) (locs7 : List Loc) (hP7 : va_P D vwCl (fl [mO q (nI kp) (nI ty) th (nI at_) isF op, aW T 0 (q 1) 111 now, aW T 0 (q 2) 111 (upd g1 (4 + (s / 4)) (nI p))]) H7) (hD7 : va_D A (fl [mO q (nI kp) (nI ty) th (nI at_) isF op, aW T 0 (q 1) 111 now, aW T 0 (q 2) 111 (upd g1 (4 + (s / 4)) (nI p))])) hS7 => ?_)
        clear hP5 hD5 hS5
        have hcg : e111 (upd g1 (4 + s / 4) (nI p)) (upd now (4 + s / 4) (nI p)) := by
          intro j hj
          by_cases e : j = 4 + s / 4
          · subst e; rw [pk_us, pk_us]
          · rw [pk_un e, pk_un e]; exact hg j hj e
        have hpr : prM (upd g1 (4 + s / 4) (nI p)) (nI 1 <<< (nI s &&& 31)) s = prM (upd now (4 + s / 4) (nI p)) (nI 1 <<< (nI s &&& 31)) s := prM_congr hcg _ hs
        refine lv_aload_n hx hb dX6_least_32 rfl (lv_at hl5 0 rfl) ?_
        refine r_get (own := RX6) (C := RX6) (F := TX6) (N := 12) (ci := 6) (v := .ref (q 2)) hx hb hK hts in_X6 hown hP7 0 rfl rfl 1 (by decide) kw_671 rfl dX6_least_33 ?_
        refine lv_iload_n hx hb dX6_least_36 rfl (lv_at hl5 1 rfl) ?_
        refine lv_iconst (v := nI 1) hx hb dX6_least_37 (by decide) ?_
        refine lv_iload_n hx hb dX6_least_38 rfl (lv_at hl5 1 rfl) ?_
        refine lv_ishl hx hb dX6_least_39 ?_
        have hPc8 : va_P D vwCl (fl [aW T 0 (q 2) 111 (upd g1 (4 + (s / 4)) (nI p))]) _ := hP7.sub [2] rfl
        refine cr_i (va_runS (As := [.ref (q 2), .int (nI s), .int ((nI 1) <<< ((nI s) &&& 31))]) (rest := []) ⟨hx, hb, hml, hown, hts⟩ (c_X6_pressureAt l D T (q 2) (upd g1 (4 + (s / 4)) (nI p)) s ((nI 1) <<< ((nI s) &&& 31)) (by omega)) (mkS hts okX6_pressureAt kw_797 kw_798 ⟨rfl, rfl, Nat.le_of_ble_eq_true rfl, Nat.le_of_ble_eq_true rfl⟩) (ps_ro hK hPc8) rfl rfl hl5.1 rfl (lv_room (Nat.le_of_ble_eq_true rfl)) dX6_least_40 ⟨Nat.le_of_ble_eq_true rfl, Nat.le_of_ble_eq_true rfl⟩) hP7 hS7 (fun r_40 H9 locs9 hq_40 hP9 hS9 => ?_)
        clear hP7 hS7 hPc8
        have hD9 := hD7
        clear hD7
        have hq_40 : r_40 = prM (upd g1 (4 + (s / 4)) (nI p)) ((nI 1) <<< ((nI s) &&& 31)) s := hq_40
        subst hq_40
        refine lv_aload_n hx hb dX6_least_43 rfl (lv_at hl5 0 rfl) ?_
        refine r_get (own := RX6) (C := RX6) (F := TX6) (N := 12) (ci := 6) (v := .ref (q 1)) hx hb hK hts in_X6 hown hP9 0 rfl rfl 0 (by decide) kw_670 rfl dX6_least_44 ?_
        refine lv_iconst (v := nI 1) hx hb dX6_least_47 (by decide) ?_
        refine r_iald hx hb hK hP9 1 (f := now) (n := 111) rfl 1 (by decide) dX6_least_48 (by decide) ?_
        refine lv_icmp_lt (tgt := 54) hx hb dX6_least_49 (by decide) (fun c_49 => ?_) (fun c_49 => ?_)
        · skip
          refine lv_iinc (v := nI (p + 1)) (lv' := [(2, .int (nI (p + 1))), (0, .ref (q 0)), (1, .int (nI s))]) hx hb dX6_least_54 hl5 (k := 2) rfl (nI_add p 1) (by decide) rfl (fun ls11 hl11 => ?_)
          clear hl5
          refine lv_goto (tgt := 15) hx hb dX6_least_57 (by decide) ?_
          have hg2 : ∀ j, j < 111 → j ≠ 4 + s / 4 → upd g1 (4 + s / 4) (nI p) j = now j := fun j h1 h2 => (pk_un h2).trans (hg j h1 h2)
          have hl3 : lsG now s 0 100 = lsG now s (p + 1) (100 - (p + 1)) := by rw [hl2, show 100 - p = (100 - (p + 1)) + 1 by omega, lsG, if_pos (by rw [← hpr]; exact c_49)]
          exact ih15 (p + 1) (upd g1 (4 + (s / 4)) (nI p)) (by omega) (hg2) (hl3) (by omega) _ _ hP9 hD9 hS9 _ (lv_sub hl11 [1, 2, 0] rfl)
        · skip
          refine lv_iload_n hx hb dX6_least_52 rfl (lv_at hl5 2 rfl) ?_
          refine ret_i hTG (Nat.le_refl _) (Nat.le_refl _) hx hb hr hlocks (((upd g1 (4 + (s / 4)) (nI p)))) hP9 hD9 hS9 [0, 1, 2] rfl (by decide) dX6_least_53 ?_
          rw [hl2, show 100 - p = (99 - p) + 1 by omega, lsG, if_neg (by rw [← hpr]; exact c_49)]
  exact loop15 ((100 - 0) + 1) 0 (va_cpy now thn 0 0 111) (by omega) (fun j hj _ => cpy_in hj) (rfl) (Nat.lt_succ_self _) _ _ hP2 hD2 hS2 _ (lv_sub hl3 [1, 2, 0] rfl)
set_option maxHeartbeats 4000000 in
set_option maxRecDepth 100000 in
theorem c_X6_leastPressure (l : Launch) (D : va_G) (T : TI) (q : Nat → Nat) (kp : Nat) (ty : Nat) (th : Int32) (at_ : Nat) (isF : Bool) (op : Int32) (now : Nat → Int32) (thn : Nat → Int32) (st : Int32)  : CI l yX6_leastPressure cX6_leastPressure 2 .int (rmD 4 0 0) D T [.ref (q 0), .int st] [mO q (nI kp) (nI ty) th (nI at_) isF op, aW T 0 (q 1) 111 now, aW T 0 (q 2) 111 thn] 0 0 (β := Int32 × (Nat → Int32)) (fun ⟨th2, thn2⟩ => [mO q (nI kp) (nI ty) th2 (nI at_) isF op, aW T 0 (q 1) 111 now, aW T 0 (q 2) 111 thn2]) (fun (r : Int32) ⟨th2, thn2⟩ => (r, th2) = leastP st now) := by
  intro sz
  refine met_rw (Qc := fun A => va_Qi _ (PST D _ A) A) rfl (Nat.le_of_ble_eq_true rfl) ?_
  intro pX eX sX mX bX mtX cX A hAe hC hA hP0 hD0 hS0 ls0 hl0 TG hTG
  clear hAe
  obtain ⟨hx, hb, hr, hml, hown, hts, hlocks, hin, hK⟩ := hC
  have hown : sX.vm.findClass RX6 = some mX.cls := hown
  have hl0 : lv_has ls0 2 [(0, .ref (q 0)), (1, .int st)] := hl0
  refine lv_aload_n hx hb dX6_leastPressure_0 rfl (lv_at hl0 0 rfl) ?_
  refine lv_iconst (v := nI 0) hx hb dX6_leastPressure_1 (by decide) ?_
  refine r_put (own := RX6) (C := RX6) (F := TX6) (N := 12) (ci := 6) (v := nI 0) hx hb hK hts in_X6 tyX6 tyX6_ok nmX6 hown hP0 hD0 hS0 0 rfl rfl 6 (by decide) kw_676 rfl rfl (Nat.le_of_ble_eq_true rfl) dX6_leastPressure_2 (fun (H1 : Heap) (locs1 : List Loc) (hP1 : va_P D vwCl (fl [mO q (nI kp) (nI ty) (nI 0) (nI at_) isF op, aW T 0 (q 1) 111 now, aW T 0 (q 2) 111 thn]) H1) (hD1 : va_D A (fl [mO q (nI kp) (nI ty) (nI 0) (nI at_) isF op, aW T 0 (q 1) 111 now, aW T 0 (q 2) 111 thn])) hS1 => ?_)
  clear hP0 hD0 hS0
  refine lv_iload_n hx hb dX6_leastPressure_5 rfl (lv_at hl0 1 rfl) ?_
  have hPc2 : va_P D vwCl (fl []) _ := hP1.sub [] rfl
  refine cr_i (va_runS (As := [.int st]) (rest := []) ⟨hx, hb, hml, hown, hts⟩ (c_X6_isStreet l D T st ) (mkS hts okX6_isStreet kw_745 kw_746 ⟨rfl, rfl, Nat.le_of_ble_eq_true rfl, Nat.le_of_ble_eq_true rfl⟩) (ps_ro hK hPc2) rfl rfl hl0.1 rfl (lv_room (Nat.le_of_ble_eq_true rfl)) dX6_leastPressure_6 ⟨Nat.le_of_ble_eq_true rfl, Nat.le_of_ble_eq_true rfl⟩) hP1 hS1 (fun r_6 H3 locs3 hq_6 hP3 hS3 => ?_)
  clear hP1 hS1 hPc2
  have hD3 := hD1
  clear hD1
  have hq_6 : r_6 = bI (inB st (nI 0) (nI 11)) := hq_6
  subst hq_6
  refine z_if_eq (tgt := 20) hx hb dX6_leastPressure_9 (by decide) (fun c_9 => ?_) (fun c_9 => ?_)
  · skip
    refine lv_aload_n hx hb dX6_leastPressure_20 rfl (lv_at hl0 0 rfl) ?_
    refine lv_iconst (v := nI 1) hx hb dX6_leastPressure_21 (by decide) ?_
    have hPc5 : va_P D vwCl (fl [mO q (nI kp) (nI ty) (nI 0) (nI at_) isF op]) _ := flP_sub hP3 [0] rfl
    have hDc5 : va_D A (fl [mO q (nI kp) (nI ty) (nI 0) (nI at_) isF op]) := flD_sub hD3 [0] (by decide) rfl
    refine cl_i (br := [aW T 0 (q 1) 111 now, aW T 0 (q 2) 111 thn]) (va_runV (As := [.int (nI 1)]) (rest := []) ⟨hx, hb, hml, hown, hts⟩ (c_X6_fails l D T q kp ty (nI 0) at_ isF op (nI 1)  _) (mkV hts okX6_fails kw_715 kw_717 ks_12 ⟨rfl, rfl, Nat.le_of_ble_eq_true rfl, Nat.le_of_ble_eq_true rfl⟩) (pv_rw hK hPc5 hDc5 (q0 := 0) rfl rfl rfl) rfl rfl hl0.1 rfl (lv_room (Nat.le_of_ble_eq_true rfl)) dX6_leastPressure_22 ⟨Nat.le_of_ble_eq_true rfl, Nat.le_of_ble_eq_true rfl⟩) hP3 hD3 hS3 hA [1, 2] [0] rfl (by decide) (fun r_22 th2_22 H6 locs6 hq_22 hP6 hD6 hS6 => ?_)
    clear hP3 hD3 hS3 hPc5 hDc5
    have hP6 : va_P D vwCl (fl [aW T 0 (q 1) 111 now, aW T 0 (q 2) 111 thn, mO q (nI kp) (nI ty) th2_22 (nI at_) isF op]) _ := hP6
    have hD6 : va_D A (fl [aW T 0 (q 1) 111 now, aW T 0 (q 2) 111 thn, mO q (nI kp) (nI ty) th2_22 (nI at_) isF op]) := hD6
    obtain ⟨hr_22, hq_22⟩ : r_22 = nI 0 ∧ ((nI 1) = th2_22) := hq_22
    subst hr_22
    have hu_th2_22 : (nI 1) = th2_22 := hq_22
    subst hu_th2_22
    refine ret_i hTG (Nat.le_refl _) (Nat.le_refl _) hx hb hr hlocks (((nI 1), thn)) hP6 hD6 hS6 [2, 0, 1] rfl (by decide) dX6_leastPressure_25 ?_
    first | (simp only [leastP, c_9, if_true, hq_14, nIcl (show z < 2147483648 by omega), ↓reduceIte, Bool.false_eq_true]; done) | (simp only [leastP, c_9, if_true, ↓reduceIte, Bool.false_eq_true]; done)
  · skip
    obtain ⟨z, hz, rfl⟩ := inB_t c_9 (by decide)
    refine lv_aload_n hx hb dX6_leastPressure_12 rfl (lv_at hl0 0 rfl) ?_
    refine lv_iload_n hx hb dX6_leastPressure_13 rfl (lv_at hl0 1 rfl) ?_
    have hPc7 : va_P D vwCl (fl [mO q (nI kp) (nI ty) (nI 0) (nI at_) isF op, aW T 0 (q 1) 111 now, aW T 0 (q 2) 111 thn]) _ := flP_sub hP3 [0, 1, 2] rfl
    have hDc7 : va_D A (fl [mO q (nI kp) (nI ty) (nI 0) (nI at_) isF op, aW T 0 (q 1) 111 now, aW T 0 (q 2) 111 thn]) := flD_sub hD3 [0, 1, 2] (by decide) rfl
    refine cl_i (br := []) (va_runV (As := [.int (nI z)]) (rest := []) ⟨hx, hb, hml, hown, hts⟩ (c_X6_least l D T q kp ty (nI 0) at_ isF op now thn z (by omega) _) (mkV hts okX6_least kw_903 kw_905 ks_26 ⟨rfl, rfl, Nat.le_of_ble_eq_true rfl, Nat.le_of_ble_eq_true rfl⟩) (pv_rw hK hPc7 hDc7 (q0 := 0) rfl rfl rfl) rfl rfl hl0.1 rfl (lv_room (Nat.le_of_ble_eq_true rfl)) dX6_leastPressure_14 ⟨Nat.le_of_ble_eq_true rfl, Nat.le_of_ble_eq_true rfl⟩) hP3 hD3 hS3 hA [] [0, 1, 2] rfl (by decide) (fun r_14 thn2_14 H8 locs8 hq_14 hP8 hD8 hS8 => ?_)
    clear hP3 hD3 hS3 hPc7 hDc7
    have hP8 : va_P D vwCl (fl [mO q (nI kp) (nI ty) (nI 0) (nI at_) isF op, aW T 0 (q 1) 111 now, aW T 0 (q 2) 111 thn2_14]) _ := hP8
    have hD8 : va_D A (fl [mO q (nI kp) (nI ty) (nI 0) (nI at_) isF op, aW T 0 (q 1) 111 now, aW T 0 (q 2) 111 thn2_14]) := hD8
    have hq_14 : r_14 = lsG now z 0 100 := hq_14
    refine lv_goto (tgt := 25) hx hb dX6_leastPressure_17 (by decide) ?_
    refine ret_i hTG (Nat.le_refl _) (Nat.le_refl _) hx hb hr hlocks (((nI 0), thn2_14)) hP8 hD8 hS8 [0, 1, 2] rfl (by decide) dX6_leastPressure_25 ?_
    first | (simp only [leastP, c_9, if_true, hq_14, nIcl (show z < 2147483648 by omega), ↓reduceIte, Bool.false_eq_true]; done) | (simp only [leastP, c_9, if_true, ↓reduceIte, Bool.false_eq_true]; done)
set_option maxHeartbeats 4000000 in
set_option maxRecDepth 100000 in
theorem c_X6_share (l : Launch) (D : va_G) (T : TI) (q : Nat → Nat) (kp : Nat) (ty : Nat) (th : Int32) (at_ : Nat) (isF : Bool) (op : Int32) (now : Nat → Int32)  : OD l yX6_share cX6_share 1 (rmD 3 0 0) D T [.ref (q 0)] [mO q (nI kp) (nI ty) th (nI at_) isF op, aW T 0 (q 1) 111 now] (fun r => r = shareD (12 - brNM now 12)) := by
  refine met_ro rfl (Nat.le_of_ble_eq_true rfl) ?_
  intro pX eX sX mX bX mtX cX hC hP0 hS0 ls0 hl0 TG hTG
  obtain ⟨hx, hb, hr, hml, hown, hts, hlocks, hin, hK⟩ := hC
  have hown : sX.vm.findClass RX6 = some mX.cls := hown
  have hl0 : lv_has ls0 1 [(0, .ref (q 0))] := hl0
  refine lv_bipush (v := nI 12) hx hb dX6_share_0 (by decide) ?_
  refine lv_aload_n hx hb dX6_share_2 rfl (lv_at hl0 0 rfl) ?_
  refine r_get (own := RX6) (C := RX6) (F := TX6) (N := 12) (ci := 6) (v := .ref (q 1)) hx hb hK hts in_X6 hown hP0 0 rfl rfl 0 (by decide) kw_670 rfl dX6_share_3 ?_
  have hb12 := brNM_le now 12
  have hPc1 : va_P D vwCl (fl [aW T 0 (q 1) 111 now]) _ := hP0.sub [1] rfl
  refine cr_i (va_runS (As := [.ref (q 1)]) (rest := [.int (nI 12)]) ⟨hx, hb, hml, hown, hts⟩ (c_X6_brown l D T (q 1) now ) (mkS hts okX6_brown kw_864 kw_865 ⟨rfl, rfl, Nat.le_of_ble_eq_true rfl, Nat.le_of_ble_eq_true rfl⟩) (ps_ro hK hPc1) rfl rfl hl0.1 rfl (lv_room (Nat.le_of_ble_eq_true rfl)) dX6_share_6 ⟨Nat.le_of_ble_eq_true rfl, Nat.le_of_ble_eq_true rfl⟩) hP0 hS0 (fun r_6 H2 locs2 hq_6 hP2 hS2 => ?_)
  clear hP0 hS0 hPc1
  have hq_6 : r_6 = nI (brNM now 12) := hq_6
  subst hq_6
  refine lv_isub hx hb dX6_share_9 ?_
  refine tp_i (y := nI (12 - (brNM now 12))) (pk_sub (by omega)) ?_
  refine lv_i2d hx hb dX6_share_10 ?_
  refine lv_ldc2d (v := 4622945017495814144) hx hb hown (hts _ kw_915) dX6_share_11 ?_
  refine lv_ddiv hx hb dX6_share_14 (shareD_ok _ (by omega)) ?_
  refine ro_d hTG (Nat.le_refl _) (Nat.le_refl _) hx hb hr hlocks hS2 dX6_share_15 ?_
  first | rfl | trivial
