set_option maxHeartbeats 4000000 in
set_option maxRecDepth 100000 in
theorem c_X6_in (l : Launch) (D : va_G) (T : TI) (v : Int32) (lo : Int32) (hi : Int32)  : OI l yX6_in cX6_in 3 .boolean (rmD 0 0 0) D T [.int v, .int lo, .int hi] [] (fun r => r = bI (inB v lo hi)) := by
  refine met_ro rfl (Nat.le_of_ble_eq_true rfl) ?_
  intro pX eX sX mX bX mtX cX hC hP0 hS0 ls0 hl0 TG hTG
  obtain ⟨hx, hb, hr, hml, hown, hts, hlocks, hin, hK⟩ := hC
  have hown : sX.vm.findClass RX6 = some mX.cls := hown
  have hl0 : lv_has ls0 3 [(0, .int v), (1, .int lo), (2, .int hi)] := hl0
  refine lv_iload_n hx hb dX6_in_0 rfl (lv_at hl0 0 rfl) ?_
  refine lv_iload_n hx hb dX6_in_1 rfl (lv_at hl0 1 rfl) ?_
  refine lv_icmp_lt (tgt := 14) hx hb dX6_in_2 (by decide) (fun c_2 => ?_) (fun c_2 => ?_)
  · skip
    refine lv_iconst (v := nI 0) hx hb dX6_in_14 (by decide) ?_
    refine ro_z (b := false) rfl hTG (Nat.le_refl _) (Nat.le_refl _) hx hb hr hlocks hS0 dX6_in_15 ?_
    simp [inB, c_2, if_true]
  · skip
    refine lv_iload_n hx hb dX6_in_5 rfl (lv_at hl0 0 rfl) ?_
    refine lv_iload_n hx hb dX6_in_6 rfl (lv_at hl0 2 rfl) ?_
    refine lv_icmp_gt (tgt := 14) hx hb dX6_in_7 (by decide) (fun c_7 => ?_) (fun c_7 => ?_)
    · skip
      refine lv_iconst (v := nI 0) hx hb dX6_in_14 (by decide) ?_
      refine ro_z (b := false) rfl hTG (Nat.le_refl _) (Nat.le_refl _) hx hb hr hlocks hS0 dX6_in_15 ?_
      simp [inB, c_2, c_7, if_true]
    · skip
      refine lv_iconst (v := nI 1) hx hb dX6_in_10 (by decide) ?_
      refine lv_goto (tgt := 15) hx hb dX6_in_11 (by decide) ?_
      refine ro_z (b := true) rfl hTG (Nat.le_refl _) (Nat.le_refl _) hx hb hr hlocks hS0 dX6_in_15 ?_
      simp [inB, c_2, c_7, if_true]
set_option maxHeartbeats 4000000 in
set_option maxRecDepth 100000 in
theorem c_X6_isStreet (l : Launch) (D : va_G) (T : TI) (v : Int32)  : OI l yX6_isStreet cX6_isStreet 1 .boolean (rmD 1 0 0) D T [.int v] [] (fun r => r = bI (inB v (nI 0) (nI 11))) := by
  refine met_ro rfl (Nat.le_of_ble_eq_true rfl) ?_
  intro pX eX sX mX bX mtX cX hC hP0 hS0 ls0 hl0 TG hTG
  obtain ⟨hx, hb, hr, hml, hown, hts, hlocks, hin, hK⟩ := hC
  have hown : sX.vm.findClass RX6 = some mX.cls := hown
  have hl0 : lv_has ls0 1 [(0, .int v)] := hl0
  refine lv_iload_n hx hb dX6_isStreet_0 rfl (lv_at hl0 0 rfl) ?_
  refine lv_iconst (v := nI 0) hx hb dX6_isStreet_1 (by decide) ?_
  refine lv_bipush (v := nI 11) hx hb dX6_isStreet_2 (by decide) ?_
  have hPc1 : va_P D vwCl (fl []) _ := hP0.sub [] rfl
  refine cr_i (va_runS (As := [.int v, .int (nI 0), .int (nI 11)]) (rest := []) ⟨hx, hb, hml, hown, hts⟩ (c_X6_in l D T v (nI 0) (nI 11) ) (mkS hts okX6_in kw_726 kw_727 ⟨rfl, rfl, Nat.le_of_ble_eq_true rfl, Nat.le_of_ble_eq_true rfl⟩) (ps_ro hK hPc1) rfl rfl hl0.1 rfl (lv_room (Nat.le_of_ble_eq_true rfl)) dX6_isStreet_4 ⟨Nat.le_of_ble_eq_true rfl, Nat.le_of_ble_eq_true rfl⟩) hP0 hS0 (fun r_4 H2 locs2 hq_4 hP2 hS2 => ?_)
  clear hP0 hS0 hPc1
  have hq_4 : r_4 = bI (inB v (nI 0) (nI 11)) := hq_4
  subst hq_4
  refine ro_z (b := (inB v (nI 0) (nI 11))) rfl hTG (Nat.le_refl _) (Nat.le_refl _) hx hb hr hlocks hS2 dX6_isStreet_7 ?_
  first | rfl | trivial
set_option maxHeartbeats 4000000 in
set_option maxRecDepth 100000 in
theorem c_X6_isCrew (l : Launch) (D : va_G) (T : TI) (v : Int32)  : OI l yX6_isCrew cX6_isCrew 1 .boolean (rmD 1 0 0) D T [.int v] [] (fun r => r = bI (inB v (nI 0) (nI 2))) := by
  refine met_ro rfl (Nat.le_of_ble_eq_true rfl) ?_
  intro pX eX sX mX bX mtX cX hC hP0 hS0 ls0 hl0 TG hTG
  obtain ⟨hx, hb, hr, hml, hown, hts, hlocks, hin, hK⟩ := hC
  have hown : sX.vm.findClass RX6 = some mX.cls := hown
  have hl0 : lv_has ls0 1 [(0, .int v)] := hl0
  refine lv_iload_n hx hb dX6_isCrew_0 rfl (lv_at hl0 0 rfl) ?_
  refine lv_iconst (v := nI 0) hx hb dX6_isCrew_1 (by decide) ?_
  refine lv_iconst (v := nI 2) hx hb dX6_isCrew_2 (by decide) ?_
  have hPc1 : va_P D vwCl (fl []) _ := hP0.sub [] rfl
  refine cr_i (va_runS (As := [.int v, .int (nI 0), .int (nI 2)]) (rest := []) ⟨hx, hb, hml, hown, hts⟩ (c_X6_in l D T v (nI 0) (nI 2) ) (mkS hts okX6_in kw_726 kw_727 ⟨rfl, rfl, Nat.le_of_ble_eq_true rfl, Nat.le_of_ble_eq_true rfl⟩) (ps_ro hK hPc1) rfl rfl hl0.1 rfl (lv_room (Nat.le_of_ble_eq_true rfl)) dX6_isCrew_3 ⟨Nat.le_of_ble_eq_true rfl, Nat.le_of_ble_eq_true rfl⟩) hP0 hS0 (fun r_3 H2 locs2 hq_3 hP2 hS2 => ?_)
  clear hP0 hS0 hPc1
  have hq_3 : r_3 = bI (inB v (nI 0) (nI 2)) := hq_3
  subst hq_3
  refine ro_z (b := (inB v (nI 0) (nI 2))) rfl hTG (Nat.le_refl _) (Nat.le_refl _) hx hb hr hlocks hS2 dX6_isCrew_6 ?_
  first | rfl | trivial
set_option maxHeartbeats 4000000 in
set_option maxRecDepth 100000 in
theorem c_X6_of (l : Launch) (D : va_G) (T : TI) (b : Nat) (a : Nat → Int32) (s : Nat) (w : Nat) (hs : s < 12) (hw : w < 6) : OI l yX6_of cX6_of 3 .int (rmD 0 0 0) D T [.ref b, .int (nI s), .int (nI w)] [aW T 0 b 111 a] (fun r => r = a (12 + 6 * s + w)) := by
  refine met_ro rfl (Nat.le_of_ble_eq_true rfl) ?_
  intro pX eX sX mX bX mtX cX hC hP0 hS0 ls0 hl0 TG hTG
  obtain ⟨hx, hb, hr, hml, hown, hts, hlocks, hin, hK⟩ := hC
  have hown : sX.vm.findClass RX6 = some mX.cls := hown
  have hl0 : lv_has ls0 3 [(0, .ref b), (1, .int (nI s)), (2, .int (nI w))] := hl0
  refine lv_aload_n hx hb dX6_of_0 rfl (lv_at hl0 0 rfl) ?_
  refine lv_bipush (v := nI 12) hx hb dX6_of_1 (by decide) ?_
  refine lv_bipush (v := nI 6) hx hb dX6_of_3 (by decide) ?_
  refine lv_iload_n hx hb dX6_of_5 rfl (lv_at hl0 1 rfl) ?_
  refine lv_imul hx hb dX6_of_6 ?_
  refine tp_i (y := nI (6 * s)) (pk_mul _ _) ?_
  refine lv_iadd hx hb dX6_of_7 ?_
  refine tp_i (y := nI (12 + (6 * s))) (nI_add _ _) ?_
  refine lv_iload_n hx hb dX6_of_8 rfl (lv_at hl0 2 rfl) ?_
  refine lv_iadd hx hb dX6_of_9 ?_
  refine tp_i (y := nI (12 + (6 * s) + w)) (nI_add _ _) ?_
  refine r_iald hx hb hK hP0 0 (f := a) (n := 111) rfl (12 + (6 * s) + w) (by decide) dX6_of_10 (by omega) ?_
  refine ro_i hTG (Nat.le_refl _) (Nat.le_refl _) hx hb hr hlocks hS0 dX6_of_11 ?_
  first | rfl | trivial
set_option maxHeartbeats 4000000 in
set_option maxRecDepth 100000 in
theorem c_X6_first (l : Launch) (D : va_G) (T : TI) (b : Nat) (a : Nat → Int32) (k : Nat) (hk : k < 3) : OI l yX6_first cX6_first 2 .int (rmD 0 0 0) D T [.ref b, .int (nI k)] [aW T 0 b 111 a] (fun r => r = frM a k) := by
  refine met_ro rfl (Nat.le_of_ble_eq_true rfl) ?_
  intro pX eX sX mX bX mtX cX hC hP0 hS0 ls0 hl0 TG hTG
  obtain ⟨hx, hb, hr, hml, hown, hts, hlocks, hin, hK⟩ := hC
  have hown : sX.vm.findClass RX6 = some mX.cls := hown
  have hl0 : lv_has ls0 2 [(0, .ref b), (1, .int (nI k))] := hl0
  refine lv_aload_n hx hb dX6_first_0 rfl (lv_at hl0 0 rfl) ?_
  refine lv_bipush (v := nI 84) hx hb dX6_first_1 (by decide) ?_
  refine lv_bipush (v := nI 9) hx hb dX6_first_3 (by decide) ?_
  refine lv_iload_n hx hb dX6_first_5 rfl (lv_at hl0 1 rfl) ?_
  refine lv_imul hx hb dX6_first_6 ?_
  refine tp_i (y := nI (9 * k)) (pk_mul _ _) ?_
  refine lv_iadd hx hb dX6_first_7 ?_
  refine tp_i (y := nI (84 + (9 * k))) (nI_add _ _) ?_
  refine r_iald hx hb hK hP0 0 (f := a) (n := 111) rfl (84 + (9 * k)) (by decide) dX6_first_8 (by omega) ?_
  refine lv_if_ne (tgt := 16) hx hb dX6_first_9 (by decide) (fun c_9 => ?_) (fun c_9 => ?_)
  · skip
    refine lv_aload_n hx hb dX6_first_16 rfl (lv_at hl0 0 rfl) ?_
    refine lv_bipush (v := nI 84) hx hb dX6_first_17 (by decide) ?_
    refine lv_bipush (v := nI 9) hx hb dX6_first_19 (by decide) ?_
    refine lv_iload_n hx hb dX6_first_21 rfl (lv_at hl0 1 rfl) ?_
    refine lv_imul hx hb dX6_first_22 ?_
    refine tp_i (y := nI (9 * k)) (pk_mul _ _) ?_
    refine lv_iadd hx hb dX6_first_23 ?_
    refine tp_i (y := nI (84 + (9 * k))) (nI_add _ _) ?_
    refine lv_iconst (v := nI 1) hx hb dX6_first_24 (by decide) ?_
    refine lv_iadd hx hb dX6_first_25 ?_
    refine tp_i (y := nI (84 + (9 * k) + 1)) (nI_add _ _) ?_
    refine r_iald hx hb hK hP0 0 (f := a) (n := 111) rfl (84 + (9 * k) + 1) (by decide) dX6_first_26 (by omega) ?_
    refine ro_i hTG (Nat.le_refl _) (Nat.le_refl _) hx hb hr hlocks hS0 dX6_first_27 ?_
    simp only [frM, c_9, if_true, ↓reduceIte]
  · skip
    refine lv_iconst (v := (-1)) hx hb dX6_first_12 (by decide) ?_
    refine lv_goto (tgt := 27) hx hb dX6_first_13 (by decide) ?_
    refine ro_i hTG (Nat.le_refl _) (Nat.le_refl _) hx hb hr hlocks hS0 dX6_first_27 ?_
    simp only [frM, c_9, if_true, ↓reduceIte]
set_option maxHeartbeats 4000000 in
set_option maxRecDepth 100000 in
theorem c_X6_own (l : Launch) (D : va_G) (T : TI) (b : Nat) (a : Nat → Int32) (s : Nat) (o : Int32) (hs : s < 12) : OI l yX6_own cX6_own 6 .int (rmD 1 0 0) D T [.ref b, .int (nI s), .int o] [aW T 0 b 111 a] (fun r => r = ownM a o s) := by
  refine met_ro rfl (Nat.le_of_ble_eq_true rfl) ?_
  intro pX eX sX mX bX mtX cX hC hP0 hS0 ls0 hl0 TG hTG
  obtain ⟨hx, hb, hr, hml, hown, hts, hlocks, hin, hK⟩ := hC
  have hown : sX.vm.findClass RX6 = some mX.cls := hown
  have hl0 : lv_has ls0 6 [(0, .ref b), (1, .int (nI s)), (2, .int o)] := hl0
  refine lv_iload_n hx hb dX6_own_0 rfl (lv_at hl0 1 rfl) ?_
  refine lv_iconst (v := nI 4) hx hb dX6_own_1 (by decide) ?_
  refine lv_idiv hx hb dX6_own_2 (by decide) ?_
  refine tp_i (y := nI (s / 4)) (pk_div (by omega) (by omega) (by omega)) ?_
  refine lv_istore_n (lv' := [(3, .int (nI (s / 4))), (0, .ref b), (1, .int (nI s)), (2, .int o)]) hx hb dX6_own_3 rfl hl0 (by decide) rfl (fun ls1 hl1 => ?_)
  clear hl0
  refine lv_aload_n hx hb dX6_own_4 rfl (lv_at hl1 1 rfl) ?_
  refine lv_iconst (v := nI 4) hx hb dX6_own_5 (by decide) ?_
  refine lv_iload_n hx hb dX6_own_6 rfl (lv_at hl1 0 rfl) ?_
  refine lv_iadd hx hb dX6_own_7 ?_
  refine tp_i (y := nI (4 + (s / 4))) (nI_add _ _) ?_
  refine r_iald hx hb hK hP0 0 (f := a) (n := 111) rfl (4 + (s / 4)) (by decide) dX6_own_8 (by omega) ?_
  refine lv_iload_n hx hb dX6_own_9 rfl (lv_at hl1 2 rfl) ?_
  refine lv_iconst (v := nI 4) hx hb dX6_own_10 (by decide) ?_
  refine lv_irem hx hb dX6_own_11 (by decide) ?_
  refine tp_i (y := nI (s % 4)) (pk_rem (by omega) (by omega) (by omega)) ?_
  refine lv_isub hx hb dX6_own_12 ?_
  refine lv_istore (lv' := [(4, .int ((a (4 + (s / 4))) - (nI (s % 4)))), (3, .int (nI (s / 4))), (0, .ref b), (1, .int (nI s)), (2, .int o)]) hx hb dX6_own_13 hl1 (by decide) rfl (fun ls2 hl2 => ?_)
  clear hl1
  refine lv_iconst (v := nI 4) hx hb dX6_own_15 (by decide) ?_
  refine lv_iload_n hx hb dX6_own_16 rfl (lv_at hl2 1 rfl) ?_
  refine lv_imul hx hb dX6_own_17 ?_
  refine tp_i (y := nI (4 * (s / 4))) (pk_mul _ _) ?_
  refine lv_istore (lv' := [(5, .int (nI (4 * (s / 4)))), (4, .int ((a (4 + (s / 4))) - (nI (s % 4)))), (3, .int (nI (s / 4))), (0, .ref b), (1, .int (nI s)), (2, .int o)]) hx hb dX6_own_18 hl2 (by decide) rfl (fun ls3 hl3 => ?_)
  clear hl2
  have loop20 : ∀ (n_ : Nat) (j : Nat) (its : Int32), (j ≤ 4) → (its = owI a o (s / 4) (a (4 + s / 4) - nI (s % 4)) j) → (4 - j) < n_ → ∀ (H : Heap) (locs : List Loc), va_P D vwCl (fl [aW T 0 b 111 a]) H → va_S NO sX.heap H locs → ∀ ls : Array Slot, lv_has ls 6 [(0, .ref b), (2, .int o), (3, .int (nI (s / 4))), (4, .int its), (5, .int (nI (4 * (s / 4) + j)))] → W pX l eX (rmD 1 0 0) sX mX ([.ref b, .int (nI s), .int o] : List Value).toArray bX mtX cX H locs 0 0 TG (F0 mX 20 ls []) := by
    intro n_
    induction n_ with
    | zero => intro j its hj hi hmu_ ; exact absurd hmu_ (Nat.not_lt_zero _)
    | succ n_ ih20 =>
      intro j its hj hi hmu_20 H5 locs5 hP5  hS5 ls5 hl5
      refine lv_iload hx hb dX6_own_20 (lv_at hl5 4 rfl) ?_
      refine lv_iconst (v := nI 4) hx hb dX6_own_22 (by decide) ?_
      refine lv_iload_n hx hb dX6_own_23 rfl (lv_at hl5 2 rfl) ?_
      refine lv_imul hx hb dX6_own_24 ?_
      refine tp_i (y := nI (4 * (s / 4))) (pk_mul _ _) ?_
      refine lv_iconst (v := nI 4) hx hb dX6_own_25 (by decide) ?_
      refine lv_iadd hx hb dX6_own_26 ?_
      refine tp_i (y := nI (4 * (s / 4) + 4)) (nI_add _ _) ?_
      refine n_icmp_ge (tgt := 62) hx hb (by omega) (by omega) dX6_own_27 (by decide) (fun c_27 => ?_) (fun c_27 => ?_)
      · skip
        have hj4 : j = 4 := by omega
        subst hj4
        refine lv_iload hx hb dX6_own_62 (lv_at hl5 3 rfl) ?_
        refine lv_if_ge (tgt := 71) hx hb dX6_own_64 (by decide) (fun c_64 => ?_) (fun c_64 => ?_)
        · skip
          refine lv_iload hx hb dX6_own_71 (lv_at hl5 3 rfl) ?_
          refine ro_i hTG (Nat.le_refl _) (Nat.le_refl _) hx hb hr hlocks hS5 dX6_own_73 ?_
          subst hi
          simp only [ownM, clampZ, c_27, c_64, if_true, ↓reduceIte] <;> rfl
        · skip
          refine lv_iconst (v := nI 0) hx hb dX6_own_67 (by decide) ?_
          refine lv_goto (tgt := 73) hx hb dX6_own_68 (by decide) ?_
          refine ro_i hTG (Nat.le_refl _) (Nat.le_refl _) hx hb hr hlocks hS5 dX6_own_73 ?_
          subst hi
          simp only [ownM, clampZ, c_27, c_64, if_true, ↓reduceIte] <;> rfl
      · skip
        refine lv_iload hx hb dX6_own_30 (lv_at hl5 3 rfl) ?_
        refine lv_iload_n hx hb dX6_own_32 rfl (lv_at hl5 1 rfl) ?_
        refine lv_iload hx hb dX6_own_33 (lv_at hl5 4 rfl) ?_
        refine lv_ishr hx hb dX6_own_35 ?_
        refine lv_iconst (v := nI 1) hx hb dX6_own_36 (by decide) ?_
        refine lv_iand hx hb dX6_own_37 ?_
        refine lv_iconst (v := nI 1) hx hb dX6_own_38 (by decide) ?_
        refine lv_icmp_ne (tgt := 52) hx hb dX6_own_39 (by decide) (fun c_39 => ?_) (fun c_39 => ?_)
        · skip
          refine lv_iconst (v := nI 0) hx hb dX6_own_52 (by decide) ?_
          refine lv_isub hx hb dX6_own_53 ?_
          refine lv_istore (lv' := [(4, .int (its - (nI 0))), (0, .ref b), (2, .int o), (3, .int (nI (s / 4))), (5, .int (nI (4 * (s / 4) + j)))]) hx hb dX6_own_54 hl5 (by decide) rfl (fun ls9 hl9 => ?_)
          clear hl5
          refine lv_iinc (v := nI (4 * (s / 4) + j + 1)) (lv' := [(5, .int (nI (4 * (s / 4) + j + 1))), (4, .int (its - (nI 0))), (0, .ref b), (2, .int o), (3, .int (nI (s / 4)))]) hx hb dX6_own_56 hl9 (k := 4) rfl (nI_add (4 * (s / 4) + j) 1) (by decide) rfl (fun ls10 hl10 => ?_)
          clear hl9
          refine lv_goto (tgt := 20) hx hb dX6_own_59 (by decide) ?_
          exact ih20 (j + 1) (its - (nI 0)) (by omega) (by rw [owI, ← hi]; unfold owS bitM; first | rw [if_pos c_39] | rw [if_neg c_39]) (by omega) _ _ hP5  hS5 _ (lv_sub hl10 [2, 3, 4, 1, 0] rfl)
        · skip
          refine lv_aload_n hx hb dX6_own_42 rfl (lv_at hl5 0 rfl) ?_
          refine lv_iload hx hb dX6_own_43 (lv_at hl5 4 rfl) ?_
          refine lv_iconst (v := nI 1) hx hb dX6_own_45 (by decide) ?_
          have hPc11 : va_P D vwCl (fl [aW T 0 b 111 a]) _ := hP5.sub [0] rfl
          refine cr_i (va_runS (As := [.ref b, .int (nI (4 * (s / 4) + j)), .int (nI 1)]) (rest := [.int its]) ⟨hx, hb, hml, hown, hts⟩ (c_X6_of l D T b a (4 * (s / 4) + j) 1 (by omega) (by omega)) (mkS hts okX6_of kw_783 kw_784 ⟨rfl, rfl, Nat.le_of_ble_eq_true rfl, Nat.le_of_ble_eq_true rfl⟩) (ps_ro hK hPc11) rfl rfl hl5.1 rfl (lv_room (Nat.le_of_ble_eq_true rfl)) dX6_own_46 ⟨Nat.le_of_ble_eq_true rfl, Nat.le_of_ble_eq_true rfl⟩) hP5 hS5 (fun r_46 H12 locs12 hq_46 hP12 hS12 => ?_)
          clear hP5 hS5 hPc11
          have hq_46 : r_46 = a (12 + 6 * (4 * (s / 4) + j) + 1) := hq_46
          subst hq_46
          refine lv_goto (tgt := 53) hx hb dX6_own_49 (by decide) ?_
          refine lv_isub hx hb dX6_own_53 ?_
          refine lv_istore (lv' := [(4, .int (its - (a (12 + 6 * (4 * (s / 4) + j) + 1)))), (0, .ref b), (2, .int o), (3, .int (nI (s / 4))), (5, .int (nI (4 * (s / 4) + j)))]) hx hb dX6_own_54 hl5 (by decide) rfl (fun ls13 hl13 => ?_)
          clear hl5
          refine lv_iinc (v := nI (4 * (s / 4) + j + 1)) (lv' := [(5, .int (nI (4 * (s / 4) + j + 1))), (4, .int (its - (a (12 + 6 * (4 * (s / 4) + j) + 1)))), (0, .ref b), (2, .int o), (3, .int (nI (s / 4)))]) hx hb dX6_own_56 hl13 (k := 4) rfl (nI_add (4 * (s / 4) + j) 1) (by decide) rfl (fun ls14 hl14 => ?_)
          clear hl13
          refine lv_goto (tgt := 20) hx hb dX6_own_59 (by decide) ?_
          exact ih20 (j + 1) (its - (a (12 + 6 * (4 * (s / 4) + j) + 1))) (by omega) (by rw [owI, ← hi]; unfold owS bitM; first | rw [if_pos c_39] | rw [if_neg c_39]) (by omega) _ _ hP12  hS12 _ (lv_sub hl14 [2, 3, 4, 1, 0] rfl)
  exact loop20 ((4 - 0) + 1) 0 ((a (4 + (s / 4))) - (nI (s % 4))) (by omega) (rfl) (Nat.lt_succ_self _) _ _ hP0  hS0 _ (lv_sub hl3 [3, 5, 2, 1, 0] rfl)
set_option maxHeartbeats 4000000 in
set_option maxRecDepth 100000 in
theorem c_X6_pressureAt (l : Launch) (D : va_G) (T : TI) (b : Nat) (a : Nat → Int32) (s : Nat) (o : Int32) (hs : s < 12) : OI l yX6_pressureAt cX6_pressureAt 6 .int (rmD 2 0 0) D T [.ref b, .int (nI s), .int o] [aW T 0 b 111 a] (fun r => r = prM a o s) := by
  refine met_ro rfl (Nat.le_of_ble_eq_true rfl) ?_
  intro pX eX sX mX bX mtX cX hC hP0 hS0 ls0 hl0 TG hTG
  obtain ⟨hx, hb, hr, hml, hown, hts, hlocks, hin, hK⟩ := hC
  have hown : sX.vm.findClass RX6 = some mX.cls := hown
  have hl0 : lv_has ls0 6 [(0, .ref b), (1, .int (nI s)), (2, .int o)] := hl0
  refine lv_aload_n hx hb dX6_pressureAt_0 rfl (lv_at hl0 0 rfl) ?_
  refine lv_iload_n hx hb dX6_pressureAt_1 rfl (lv_at hl0 1 rfl) ?_
  refine lv_iload_n hx hb dX6_pressureAt_2 rfl (lv_at hl0 2 rfl) ?_
  have hPc1 : va_P D vwCl (fl [aW T 0 b 111 a]) _ := hP0.sub [0] rfl
  refine cr_i (va_runS (As := [.ref b, .int (nI s), .int o]) (rest := []) ⟨hx, hb, hml, hown, hts⟩ (c_X6_own l D T b a s o (by omega)) (mkS hts okX6_own kw_800 kw_801 ⟨rfl, rfl, Nat.le_of_ble_eq_true rfl, Nat.le_of_ble_eq_true rfl⟩) (ps_ro hK hPc1) rfl rfl hl0.1 rfl (lv_room (Nat.le_of_ble_eq_true rfl)) dX6_pressureAt_3 ⟨Nat.le_of_ble_eq_true rfl, Nat.le_of_ble_eq_true rfl⟩) hP0 hS0 (fun r_3 H2 locs2 hq_3 hP2 hS2 => ?_)
  clear hP0 hS0 hPc1
  have hq_3 : r_3 = ownM a o s := hq_3
  subst hq_3
  refine lv_istore_n (lv' := [(3, .int (ownM a o s)), (0, .ref b), (1, .int (nI s)), (2, .int o)]) hx hb dX6_pressureAt_6 rfl hl0 (by decide) rfl (fun ls3 hl3 => ?_)
  clear hl0
  refine lv_iload_n hx hb dX6_pressureAt_7 rfl (lv_at hl3 2 rfl) ?_
  refine lv_iconst (v := nI 4) hx hb dX6_pressureAt_8 (by decide) ?_
  refine lv_idiv hx hb dX6_pressureAt_9 (by decide) ?_
  refine tp_i (y := nI (s / 4)) (pk_div (by omega) (by omega) (by omega)) ?_
  rcases (show s / 4 = 0 ∨ s / 4 = 1 ∨ s / 4 = 2 by omega) with hz | hz | hz
  · rw [hz]
    refine lv_istore (lv' := [(4, .int (nI 0)), (3, .int (ownM a o s)), (0, .ref b), (1, .int (nI s)), (2, .int o)]) hx hb dX6_pressureAt_10 hl3 (by decide) rfl (fun ls4 hl4 => ?_)
    clear hl3
    refine lv_iload hx hb dX6_pressureAt_12 (lv_at hl4 0 rfl) ?_
    refine n_if_le (tgt := 62) hx hb (by omega) dX6_pressureAt_14 (by decide) (fun c5 => ?_) (fun c5 => absurd (by decide) c5)
    refine lv_iload_n hx hb dX6_pressureAt_62 rfl (lv_at hl4 1 rfl) ?_
    refine ro_i hTG (Nat.le_refl _) (Nat.le_refl _) hx hb hr hlocks hS2 dX6_pressureAt_63 ?_
    simp only [prM, hz, pmL, mn, if_true, ↓reduceIte] <;> rfl
  · rw [hz]
    refine lv_istore (lv' := [(4, .int (nI 1)), (3, .int (ownM a o s)), (0, .ref b), (1, .int (nI s)), (2, .int o)]) hx hb dX6_pressureAt_10 hl3 (by decide) rfl (fun ls6 hl6 => ?_)
    clear hl3
    refine lv_iload hx hb dX6_pressureAt_12 (lv_at hl6 0 rfl) ?_
    refine n_if_le (tgt := 62) hx hb (by omega) dX6_pressureAt_14 (by decide) (fun c7 => absurd c7 (by decide)) (fun c7 => ?_)
    refine lv_aload_n hx hb dX6_pressureAt_17 rfl (lv_at hl6 2 rfl) ?_
    refine lv_bipush (v := nI 7) hx hb dX6_pressureAt_18 (by decide) ?_
    refine lv_iload hx hb dX6_pressureAt_20 (lv_at hl6 0 rfl) ?_
    refine lv_iadd hx hb dX6_pressureAt_22 ?_
    refine tp_i (y := nI 8) (by decide) ?_
    refine lv_iconst (v := nI 1) hx hb dX6_pressureAt_23 (by decide) ?_
    refine lv_isub hx hb dX6_pressureAt_24 ?_
    refine tp_i (y := nI 7) (by decide) ?_
    refine r_iald hx hb hK hP2 0 (f := a) (n := 111) rfl 7 (by decide) dX6_pressureAt_25 (by decide) ?_
    refine lv_iconst (v := nI 1) hx hb dX6_pressureAt_26 (by decide) ?_
    refine lv_icmp_ne (tgt := 62) hx hb dX6_pressureAt_27 (by decide) (fun c_27 => ?_) (fun c_27 => ?_)
    · skip
      refine lv_iload_n hx hb dX6_pressureAt_62 rfl (lv_at hl6 1 rfl) ?_
      refine ro_i hTG (Nat.le_refl _) (Nat.le_refl _) hx hb hr hlocks hS2 dX6_pressureAt_63 ?_
      simp only [prM, hz, pmL, mn, c_27, if_true, ↓reduceIte] <;> rfl
    · skip
      refine lv_iinc (v := nI 0) (lv' := [(4, .int (nI 0)), (3, .int (ownM a o s)), (0, .ref b), (1, .int (nI s)), (2, .int o)]) hx hb dX6_pressureAt_30 hl6 (k := 0) rfl (by decide) (by decide) rfl (fun ls9 hl9 => ?_)
      clear hl6
      refine lv_aload_n hx hb dX6_pressureAt_33 rfl (lv_at hl9 2 rfl) ?_
      refine lv_iconst (v := nI 4) hx hb dX6_pressureAt_34 (by decide) ?_
      refine lv_iload hx hb dX6_pressureAt_35 (lv_at hl9 0 rfl) ?_
      refine lv_imul hx hb dX6_pressureAt_37 ?_
      refine tp_i (y := nI 0) (by decide) ?_
      refine lv_iconst (v := nI 3) hx hb dX6_pressureAt_38 (by decide) ?_
      refine lv_iadd hx hb dX6_pressureAt_39 ?_
      refine tp_i (y := nI 3) (by decide) ?_
      refine lv_iload_n hx hb dX6_pressureAt_40 rfl (lv_at hl9 4 rfl) ?_
      have hPc10 : va_P D vwCl (fl [aW T 0 b 111 a]) _ := hP2.sub [0] rfl
      refine cr_i (va_runS (As := [.ref b, .int (nI 3), .int o]) (rest := []) ⟨hx, hb, hml, hown, hts⟩ (c_X6_own l D T b a 3 o (by omega)) (mkS hts okX6_own kw_800 kw_801 ⟨rfl, rfl, Nat.le_of_ble_eq_true rfl, Nat.le_of_ble_eq_true rfl⟩) (ps_ro hK hPc10) rfl rfl hl9.1 rfl (lv_room (Nat.le_of_ble_eq_true rfl)) dX6_pressureAt_41 ⟨Nat.le_of_ble_eq_true rfl, Nat.le_of_ble_eq_true rfl⟩) hP2 hS2 (fun r_41 H11 locs11 hq_41 hP11 hS11 => ?_)
      clear hP2 hS2 hPc10
      have hq_41 : r_41 = ownM a o 3 := hq_41
      subst hq_41
      refine lv_istore (lv' := [(5, .int (ownM a o 3)), (4, .int (nI 0)), (3, .int (ownM a o s)), (0, .ref b), (1, .int (nI s)), (2, .int o)]) hx hb dX6_pressureAt_44 hl9 (by decide) rfl (fun ls12 hl12 => ?_)
      clear hl9
      refine lv_iload hx hb dX6_pressureAt_46 (lv_at hl12 0 rfl) ?_
      refine lv_iload_n hx hb dX6_pressureAt_48 rfl (lv_at hl12 2 rfl) ?_
      refine lv_icmp_ge (tgt := 57) hx hb dX6_pressureAt_49 (by decide) (fun c_49 => ?_) (fun c_49 => ?_)
      · skip
        refine lv_iload_n hx hb dX6_pressureAt_57 rfl (lv_at hl12 2 rfl) ?_
        refine lv_istore_n (lv' := [(3, .int (ownM a o s)), (5, .int (ownM a o 3)), (4, .int (nI 0)), (0, .ref b), (1, .int (nI s)), (2, .int o)]) hx hb dX6_pressureAt_58 rfl hl12 (by decide) rfl (fun ls14 hl14 => ?_)
        clear hl12
        refine lv_goto (tgt := 12) hx hb dX6_pressureAt_59 (by decide) ?_
        refine lv_iload hx hb dX6_pressureAt_12 (lv_at hl14 2 rfl) ?_
        refine n_if_le (tgt := 62) hx hb (by omega) dX6_pressureAt_14 (by decide) (fun c15 => ?_) (fun c15 => absurd (by decide) c15)
        refine lv_iload_n hx hb dX6_pressureAt_62 rfl (lv_at hl14 0 rfl) ?_
        refine ro_i hTG (Nat.le_refl _) (Nat.le_refl _) hx hb hr hlocks hS11 dX6_pressureAt_63 ?_
        simp only [prM, hz, pmL, mn, c_27, c_49, if_true, ↓reduceIte] <;> rfl
      · skip
        refine lv_iload hx hb dX6_pressureAt_52 (lv_at hl12 0 rfl) ?_
        refine lv_goto (tgt := 58) hx hb dX6_pressureAt_54 (by decide) ?_
        refine lv_istore_n (lv' := [(3, .int (ownM a o 3)), (5, .int (ownM a o 3)), (4, .int (nI 0)), (0, .ref b), (1, .int (nI s)), (2, .int o)]) hx hb dX6_pressureAt_58 rfl hl12 (by decide) rfl (fun ls16 hl16 => ?_)
        clear hl12
        refine lv_goto (tgt := 12) hx hb dX6_pressureAt_59 (by decide) ?_
        refine lv_iload hx hb dX6_pressureAt_12 (lv_at hl16 2 rfl) ?_
        refine n_if_le (tgt := 62) hx hb (by omega) dX6_pressureAt_14 (by decide) (fun c17 => ?_) (fun c17 => absurd (by decide) c17)
        refine lv_iload_n hx hb dX6_pressureAt_62 rfl (lv_at hl16 0 rfl) ?_
        refine ro_i hTG (Nat.le_refl _) (Nat.le_refl _) hx hb hr hlocks hS11 dX6_pressureAt_63 ?_
        simp only [prM, hz, pmL, mn, c_27, c_49, if_true, ↓reduceIte] <;> rfl
  · rw [hz]
    refine lv_istore (lv' := [(4, .int (nI 2)), (3, .int (ownM a o s)), (0, .ref b), (1, .int (nI s)), (2, .int o)]) hx hb dX6_pressureAt_10 hl3 (by decide) rfl (fun ls18 hl18 => ?_)
    clear hl3
    refine lv_iload hx hb dX6_pressureAt_12 (lv_at hl18 0 rfl) ?_
    refine n_if_le (tgt := 62) hx hb (by omega) dX6_pressureAt_14 (by decide) (fun c19 => absurd c19 (by decide)) (fun c19 => ?_)
    refine lv_aload_n hx hb dX6_pressureAt_17 rfl (lv_at hl18 2 rfl) ?_
    refine lv_bipush (v := nI 7) hx hb dX6_pressureAt_18 (by decide) ?_
    refine lv_iload hx hb dX6_pressureAt_20 (lv_at hl18 0 rfl) ?_
    refine lv_iadd hx hb dX6_pressureAt_22 ?_
    refine tp_i (y := nI 9) (by decide) ?_
    refine lv_iconst (v := nI 1) hx hb dX6_pressureAt_23 (by decide) ?_
    refine lv_isub hx hb dX6_pressureAt_24 ?_
    refine tp_i (y := nI 8) (by decide) ?_
    refine r_iald hx hb hK hP2 0 (f := a) (n := 111) rfl 8 (by decide) dX6_pressureAt_25 (by decide) ?_
    refine lv_iconst (v := nI 1) hx hb dX6_pressureAt_26 (by decide) ?_
    refine lv_icmp_ne (tgt := 62) hx hb dX6_pressureAt_27 (by decide) (fun c_27 => ?_) (fun c_27 => ?_)
    · skip
      refine lv_iload_n hx hb dX6_pressureAt_62 rfl (lv_at hl18 1 rfl) ?_
      refine ro_i hTG (Nat.le_refl _) (Nat.le_refl _) hx hb hr hlocks hS2 dX6_pressureAt_63 ?_
      simp only [prM, hz, pmL, mn, c_27, if_true, ↓reduceIte] <;> rfl
    · skip
      refine lv_iinc (v := nI 1) (lv' := [(4, .int (nI 1)), (3, .int (ownM a o s)), (0, .ref b), (1, .int (nI s)), (2, .int o)]) hx hb dX6_pressureAt_30 hl18 (k := 0) rfl (by decide) (by decide) rfl (fun ls21 hl21 => ?_)
      clear hl18
      refine lv_aload_n hx hb dX6_pressureAt_33 rfl (lv_at hl21 2 rfl) ?_
      refine lv_iconst (v := nI 4) hx hb dX6_pressureAt_34 (by decide) ?_
      refine lv_iload hx hb dX6_pressureAt_35 (lv_at hl21 0 rfl) ?_
      refine lv_imul hx hb dX6_pressureAt_37 ?_
      refine tp_i (y := nI 4) (by decide) ?_
      refine lv_iconst (v := nI 3) hx hb dX6_pressureAt_38 (by decide) ?_
      refine lv_iadd hx hb dX6_pressureAt_39 ?_
      refine tp_i (y := nI 7) (by decide) ?_
      refine lv_iload_n hx hb dX6_pressureAt_40 rfl (lv_at hl21 4 rfl) ?_
      have hPc22 : va_P D vwCl (fl [aW T 0 b 111 a]) _ := hP2.sub [0] rfl
      refine cr_i (va_runS (As := [.ref b, .int (nI 7), .int o]) (rest := []) ⟨hx, hb, hml, hown, hts⟩ (c_X6_own l D T b a 7 o (by omega)) (mkS hts okX6_own kw_800 kw_801 ⟨rfl, rfl, Nat.le_of_ble_eq_true rfl, Nat.le_of_ble_eq_true rfl⟩) (ps_ro hK hPc22) rfl rfl hl21.1 rfl (lv_room (Nat.le_of_ble_eq_true rfl)) dX6_pressureAt_41 ⟨Nat.le_of_ble_eq_true rfl, Nat.le_of_ble_eq_true rfl⟩) hP2 hS2 (fun r_41 H23 locs23 hq_41 hP23 hS23 => ?_)
      clear hP2 hS2 hPc22
      have hq_41 : r_41 = ownM a o 7 := hq_41
      subst hq_41
      refine lv_istore (lv' := [(5, .int (ownM a o 7)), (4, .int (nI 1)), (3, .int (ownM a o s)), (0, .ref b), (1, .int (nI s)), (2, .int o)]) hx hb dX6_pressureAt_44 hl21 (by decide) rfl (fun ls24 hl24 => ?_)
      clear hl21
      refine lv_iload hx hb dX6_pressureAt_46 (lv_at hl24 0 rfl) ?_
      refine lv_iload_n hx hb dX6_pressureAt_48 rfl (lv_at hl24 2 rfl) ?_
      refine lv_icmp_ge (tgt := 57) hx hb dX6_pressureAt_49 (by decide) (fun c_49 => ?_) (fun c_49 => ?_)
      · skip
        refine lv_iload_n hx hb dX6_pressureAt_57 rfl (lv_at hl24 2 rfl) ?_
        refine lv_istore_n (lv' := [(3, .int (ownM a o s)), (5, .int (ownM a o 7)), (4, .int (nI 1)), (0, .ref b), (1, .int (nI s)), (2, .int o)]) hx hb dX6_pressureAt_58 rfl hl24 (by decide) rfl (fun ls26 hl26 => ?_)
        clear hl24
        refine lv_goto (tgt := 12) hx hb dX6_pressureAt_59 (by decide) ?_
        refine lv_iload hx hb dX6_pressureAt_12 (lv_at hl26 2 rfl) ?_
        refine n_if_le (tgt := 62) hx hb (by omega) dX6_pressureAt_14 (by decide) (fun c27 => absurd c27 (by decide)) (fun c27 => ?_)
        refine lv_aload_n hx hb dX6_pressureAt_17 rfl (lv_at hl26 3 rfl) ?_
        refine lv_bipush (v := nI 7) hx hb dX6_pressureAt_18 (by decide) ?_
        refine lv_iload hx hb dX6_pressureAt_20 (lv_at hl26 2 rfl) ?_
        refine lv_iadd hx hb dX6_pressureAt_22 ?_
        refine tp_i (y := nI 8) (by decide) ?_
        refine lv_iconst (v := nI 1) hx hb dX6_pressureAt_23 (by decide) ?_
        refine lv_isub hx hb dX6_pressureAt_24 ?_
        refine tp_i (y := nI 7) (by decide) ?_
        refine r_iald hx hb hK hP23 0 (f := a) (n := 111) rfl 7 (by decide) dX6_pressureAt_25 (by decide) ?_
        refine lv_iconst (v := nI 1) hx hb dX6_pressureAt_26 (by decide) ?_
        refine lv_icmp_ne (tgt := 62) hx hb dX6_pressureAt_27 (by decide) (fun c_27_2 => ?_) (fun c_27_2 => ?_)
        · skip
          refine lv_iload_n hx hb dX6_pressureAt_62 rfl (lv_at hl26 0 rfl) ?_
          refine ro_i hTG (Nat.le_refl _) (Nat.le_refl _) hx hb hr hlocks hS23 dX6_pressureAt_63 ?_
          simp only [prM, hz, pmL, mn, c_27, c_49, c_27_2, if_true, ↓reduceIte] <;> rfl
        · skip
          refine lv_iinc (v := nI 0) (lv' := [(4, .int (nI 0)), (3, .int (ownM a o s)), (5, .int (ownM a o 7)), (0, .ref b), (1, .int (nI s)), (2, .int o)]) hx hb dX6_pressureAt_30 hl26 (k := 2) rfl (by decide) (by decide) rfl (fun ls29 hl29 => ?_)
          clear hl26
          refine lv_aload_n hx hb dX6_pressureAt_33 rfl (lv_at hl29 3 rfl) ?_
          refine lv_iconst (v := nI 4) hx hb dX6_pressureAt_34 (by decide) ?_
          refine lv_iload hx hb dX6_pressureAt_35 (lv_at hl29 0 rfl) ?_
          refine lv_imul hx hb dX6_pressureAt_37 ?_
          refine tp_i (y := nI 0) (by decide) ?_
          refine lv_iconst (v := nI 3) hx hb dX6_pressureAt_38 (by decide) ?_
          refine lv_iadd hx hb dX6_pressureAt_39 ?_
          refine tp_i (y := nI 3) (by decide) ?_
          refine lv_iload_n hx hb dX6_pressureAt_40 rfl (lv_at hl29 5 rfl) ?_
          have hPc30 : va_P D vwCl (fl [aW T 0 b 111 a]) _ := hP23.sub [0] rfl
          refine cr_i (va_runS (As := [.ref b, .int (nI 3), .int o]) (rest := []) ⟨hx, hb, hml, hown, hts⟩ (c_X6_own l D T b a 3 o (by omega)) (mkS hts okX6_own kw_800 kw_801 ⟨rfl, rfl, Nat.le_of_ble_eq_true rfl, Nat.le_of_ble_eq_true rfl⟩) (ps_ro hK hPc30) rfl rfl hl29.1 rfl (lv_room (Nat.le_of_ble_eq_true rfl)) dX6_pressureAt_41 ⟨Nat.le_of_ble_eq_true rfl, Nat.le_of_ble_eq_true rfl⟩) hP23 hS23 (fun r_41 H31 locs31 hq_41 hP31 hS31 => ?_)
          clear hP23 hS23 hPc30
          have hq_41 : r_41 = ownM a o 3 := hq_41
          subst hq_41
          refine lv_istore (lv' := [(5, .int (ownM a o 3)), (4, .int (nI 0)), (3, .int (ownM a o s)), (0, .ref b), (1, .int (nI s)), (2, .int o)]) hx hb dX6_pressureAt_44 hl29 (by decide) rfl (fun ls32 hl32 => ?_)
          clear hl29
          refine lv_iload hx hb dX6_pressureAt_46 (lv_at hl32 0 rfl) ?_
          refine lv_iload_n hx hb dX6_pressureAt_48 rfl (lv_at hl32 2 rfl) ?_
          refine lv_icmp_ge (tgt := 57) hx hb dX6_pressureAt_49 (by decide) (fun c_49_2 => ?_) (fun c_49_2 => ?_)
          · skip
            refine lv_iload_n hx hb dX6_pressureAt_57 rfl (lv_at hl32 2 rfl) ?_
            refine lv_istore_n (lv' := [(3, .int (ownM a o s)), (5, .int (ownM a o 3)), (4, .int (nI 0)), (0, .ref b), (1, .int (nI s)), (2, .int o)]) hx hb dX6_pressureAt_58 rfl hl32 (by decide) rfl (fun ls34 hl34 => ?_)
            clear hl32
            refine lv_goto (tgt := 12) hx hb dX6_pressureAt_59 (by decide) ?_
            refine lv_iload hx hb dX6_pressureAt_12 (lv_at hl34 2 rfl) ?_
            refine n_if_le (tgt := 62) hx hb (by omega) dX6_pressureAt_14 (by decide) (fun c35 => ?_) (fun c35 => absurd (by decide) c35)
            refine lv_iload_n hx hb dX6_pressureAt_62 rfl (lv_at hl34 0 rfl) ?_
            refine ro_i hTG (Nat.le_refl _) (Nat.le_refl _) hx hb hr hlocks hS31 dX6_pressureAt_63 ?_
            simp only [prM, hz, pmL, mn, c_27, c_49, c_27_2, c_49_2, if_true, ↓reduceIte] <;> rfl
          · skip
            refine lv_iload hx hb dX6_pressureAt_52 (lv_at hl32 0 rfl) ?_
            refine lv_goto (tgt := 58) hx hb dX6_pressureAt_54 (by decide) ?_
            refine lv_istore_n (lv' := [(3, .int (ownM a o 3)), (5, .int (ownM a o 3)), (4, .int (nI 0)), (0, .ref b), (1, .int (nI s)), (2, .int o)]) hx hb dX6_pressureAt_58 rfl hl32 (by decide) rfl (fun ls36 hl36 => ?_)
            clear hl32
            refine lv_goto (tgt := 12) hx hb dX6_pressureAt_59 (by decide) ?_
            refine lv_iload hx hb dX6_pressureAt_12 (lv_at hl36 2 rfl) ?_
            refine n_if_le (tgt := 62) hx hb (by omega) dX6_pressureAt_14 (by decide) (fun c37 => ?_) (fun c37 => absurd (by decide) c37)
            refine lv_iload_n hx hb dX6_pressureAt_62 rfl (lv_at hl36 0 rfl) ?_
            refine ro_i hTG (Nat.le_refl _) (Nat.le_refl _) hx hb hr hlocks hS31 dX6_pressureAt_63 ?_
            simp only [prM, hz, pmL, mn, c_27, c_49, c_27_2, c_49_2, if_true, ↓reduceIte] <;> rfl
      · skip
        refine lv_iload hx hb dX6_pressureAt_52 (lv_at hl24 0 rfl) ?_
        refine lv_goto (tgt := 58) hx hb dX6_pressureAt_54 (by decide) ?_
        refine lv_istore_n (lv' := [(3, .int (ownM a o 7)), (5, .int (ownM a o 7)), (4, .int (nI 1)), (0, .ref b), (1, .int (nI s)), (2, .int o)]) hx hb dX6_pressureAt_58 rfl hl24 (by decide) rfl (fun ls38 hl38 => ?_)
        clear hl24
        refine lv_goto (tgt := 12) hx hb dX6_pressureAt_59 (by decide) ?_
        refine lv_iload hx hb dX6_pressureAt_12 (lv_at hl38 2 rfl) ?_
        refine n_if_le (tgt := 62) hx hb (by omega) dX6_pressureAt_14 (by decide) (fun c39 => absurd c39 (by decide)) (fun c39 => ?_)
        refine lv_aload_n hx hb dX6_pressureAt_17 rfl (lv_at hl38 3 rfl) ?_
        refine lv_bipush (v := nI 7) hx hb dX6_pressureAt_18 (by decide) ?_
        refine lv_iload hx hb dX6_pressureAt_20 (lv_at hl38 2 rfl) ?_
        refine lv_iadd hx hb dX6_pressureAt_22 ?_
        refine tp_i (y := nI 8) (by decide) ?_
        refine lv_iconst (v := nI 1) hx hb dX6_pressureAt_23 (by decide) ?_
        refine lv_isub hx hb dX6_pressureAt_24 ?_
        refine tp_i (y := nI 7) (by decide) ?_
        refine r_iald hx hb hK hP23 0 (f := a) (n := 111) rfl 7 (by decide) dX6_pressureAt_25 (by decide) ?_
        refine lv_iconst (v := nI 1) hx hb dX6_pressureAt_26 (by decide) ?_
        refine lv_icmp_ne (tgt := 62) hx hb dX6_pressureAt_27 (by decide) (fun c_27_2 => ?_) (fun c_27_2 => ?_)
        · skip
          refine lv_iload_n hx hb dX6_pressureAt_62 rfl (lv_at hl38 0 rfl) ?_
          refine ro_i hTG (Nat.le_refl _) (Nat.le_refl _) hx hb hr hlocks hS23 dX6_pressureAt_63 ?_
          simp only [prM, hz, pmL, mn, c_27, c_49, c_27_2, if_true, ↓reduceIte] <;> rfl
        · skip
          refine lv_iinc (v := nI 0) (lv' := [(4, .int (nI 0)), (3, .int (ownM a o 7)), (5, .int (ownM a o 7)), (0, .ref b), (1, .int (nI s)), (2, .int o)]) hx hb dX6_pressureAt_30 hl38 (k := 2) rfl (by decide) (by decide) rfl (fun ls41 hl41 => ?_)
          clear hl38
          refine lv_aload_n hx hb dX6_pressureAt_33 rfl (lv_at hl41 3 rfl) ?_
          refine lv_iconst (v := nI 4) hx hb dX6_pressureAt_34 (by decide) ?_
          refine lv_iload hx hb dX6_pressureAt_35 (lv_at hl41 0 rfl) ?_
          refine lv_imul hx hb dX6_pressureAt_37 ?_
          refine tp_i (y := nI 0) (by decide) ?_
          refine lv_iconst (v := nI 3) hx hb dX6_pressureAt_38 (by decide) ?_
          refine lv_iadd hx hb dX6_pressureAt_39 ?_
          refine tp_i (y := nI 3) (by decide) ?_
          refine lv_iload_n hx hb dX6_pressureAt_40 rfl (lv_at hl41 5 rfl) ?_
          have hPc42 : va_P D vwCl (fl [aW T 0 b 111 a]) _ := hP23.sub [0] rfl
          refine cr_i (va_runS (As := [.ref b, .int (nI 3), .int o]) (rest := []) ⟨hx, hb, hml, hown, hts⟩ (c_X6_own l D T b a 3 o (by omega)) (mkS hts okX6_own kw_800 kw_801 ⟨rfl, rfl, Nat.le_of_ble_eq_true rfl, Nat.le_of_ble_eq_true rfl⟩) (ps_ro hK hPc42) rfl rfl hl41.1 rfl (lv_room (Nat.le_of_ble_eq_true rfl)) dX6_pressureAt_41 ⟨Nat.le_of_ble_eq_true rfl, Nat.le_of_ble_eq_true rfl⟩) hP23 hS23 (fun r_41 H43 locs43 hq_41 hP43 hS43 => ?_)
          clear hP23 hS23 hPc42
          have hq_41 : r_41 = ownM a o 3 := hq_41
          subst hq_41
          refine lv_istore (lv' := [(5, .int (ownM a o 3)), (4, .int (nI 0)), (3, .int (ownM a o 7)), (0, .ref b), (1, .int (nI s)), (2, .int o)]) hx hb dX6_pressureAt_44 hl41 (by decide) rfl (fun ls44 hl44 => ?_)
          clear hl41
          refine lv_iload hx hb dX6_pressureAt_46 (lv_at hl44 0 rfl) ?_
          refine lv_iload_n hx hb dX6_pressureAt_48 rfl (lv_at hl44 2 rfl) ?_
          refine lv_icmp_ge (tgt := 57) hx hb dX6_pressureAt_49 (by decide) (fun c_49_2 => ?_) (fun c_49_2 => ?_)
          · skip
            refine lv_iload_n hx hb dX6_pressureAt_57 rfl (lv_at hl44 2 rfl) ?_
            refine lv_istore_n (lv' := [(3, .int (ownM a o 7)), (5, .int (ownM a o 3)), (4, .int (nI 0)), (0, .ref b), (1, .int (nI s)), (2, .int o)]) hx hb dX6_pressureAt_58 rfl hl44 (by decide) rfl (fun ls46 hl46 => ?_)
            clear hl44
            refine lv_goto (tgt := 12) hx hb dX6_pressureAt_59 (by decide) ?_
            refine lv_iload hx hb dX6_pressureAt_12 (lv_at hl46 2 rfl) ?_
            refine n_if_le (tgt := 62) hx hb (by omega) dX6_pressureAt_14 (by decide) (fun c47 => ?_) (fun c47 => absurd (by decide) c47)
            refine lv_iload_n hx hb dX6_pressureAt_62 rfl (lv_at hl46 0 rfl) ?_
            refine ro_i hTG (Nat.le_refl _) (Nat.le_refl _) hx hb hr hlocks hS43 dX6_pressureAt_63 ?_
            simp only [prM, hz, pmL, mn, c_27, c_49, c_27_2, c_49_2, if_true, ↓reduceIte] <;> rfl
          · skip
            refine lv_iload hx hb dX6_pressureAt_52 (lv_at hl44 0 rfl) ?_
            refine lv_goto (tgt := 58) hx hb dX6_pressureAt_54 (by decide) ?_
            refine lv_istore_n (lv' := [(3, .int (ownM a o 3)), (5, .int (ownM a o 3)), (4, .int (nI 0)), (0, .ref b), (1, .int (nI s)), (2, .int o)]) hx hb dX6_pressureAt_58 rfl hl44 (by decide) rfl (fun ls48 hl48 => ?_)
            clear hl44
            refine lv_goto (tgt := 12) hx hb dX6_pressureAt_59 (by decide) ?_
            refine lv_iload hx hb dX6_pressureAt_12 (lv_at hl48 2 rfl) ?_
            refine n_if_le (tgt := 62) hx hb (by omega) dX6_pressureAt_14 (by decide) (fun c49 => ?_) (fun c49 => absurd (by decide) c49)
            refine lv_iload_n hx hb dX6_pressureAt_62 rfl (lv_at hl48 0 rfl) ?_
            refine ro_i hTG (Nat.le_refl _) (Nat.le_refl _) hx hb hr hlocks hS43 dX6_pressureAt_63 ?_
            simp only [prM, hz, pmL, mn, c_27, c_49, c_27_2, c_49_2, if_true, ↓reduceIte] <;> rfl
set_option maxHeartbeats 4000000 in
set_option maxRecDepth 100000 in
theorem c_X6_source (l : Launch) (D : va_G) (T : TI) (b : Nat) (a : Nat → Int32) (s : Nat) (hs : s < 12) : OI l yX6_source cX6_source 3 .int (rmD 0 0 0) D T [.ref b, .int (nI s)] [aW T 0 b 111 a] (fun r => r = srcM a s) := by
  refine met_ro rfl (Nat.le_of_ble_eq_true rfl) ?_
  intro pX eX sX mX bX mtX cX hC hP0 hS0 ls0 hl0 TG hTG
  obtain ⟨hx, hb, hr, hml, hown, hts, hlocks, hin, hK⟩ := hC
  have hown : sX.vm.findClass RX6 = some mX.cls := hown
  have hl0 : lv_has ls0 3 [(0, .ref b), (1, .int (nI s))] := hl0
  refine lv_iload_n hx hb dX6_source_0 rfl (lv_at hl0 1 rfl) ?_
  refine lv_iconst (v := nI 4) hx hb dX6_source_1 (by decide) ?_
  refine lv_irem hx hb dX6_source_2 (by decide) ?_
  refine tp_i (y := nI (s % 4)) (pk_rem (by omega) (by omega) (by omega)) ?_
  refine n_if_gt (tgt := 24) hx hb (by omega) dX6_source_3 (by decide) (fun c_3 => ?_) (fun c_3 => ?_)
  · skip
    refine lv_iconst (v := nI 1) hx hb dX6_source_24 (by decide) ?_
    refine lv_goto (tgt := 29) hx hb dX6_source_25 (by decide) ?_
    refine lv_istore_n (lv' := [(2, .int (nI 1)), (0, .ref b), (1, .int (nI s))]) hx hb dX6_source_29 rfl hl0 (by decide) rfl (fun ls2 hl2 => ?_)
    clear hl0
    refine lv_iload_n hx hb dX6_source_30 rfl (lv_at hl2 0 rfl) ?_
    refine n_if_eq (tgt := 40) hx hb (by omega) dX6_source_31 (by decide) (fun c3 => absurd c3 (by decide)) (fun c3 => ?_)
    refine lv_iload_n hx hb dX6_source_34 rfl (lv_at hl2 2 rfl) ?_
    refine lv_iconst (v := nI 1) hx hb dX6_source_35 (by decide) ?_
    refine lv_isub hx hb dX6_source_36 ?_
    refine tp_i (y := nI (s - 1)) (pk_sub (by omega)) ?_
    refine lv_goto (tgt := 41) hx hb dX6_source_37 (by decide) ?_
    refine ro_i hTG (Nat.le_refl _) (Nat.le_refl _) hx hb hr hlocks hS0 dX6_source_41 ?_
    simp only [srcM, c_3, if_true, ↓reduceIte] <;> rfl
  · skip
    refine lv_iload_n hx hb dX6_source_6 rfl (lv_at hl0 1 rfl) ?_
    refine n_if_le (tgt := 28) hx hb (by omega) dX6_source_7 (by decide) (fun c_7 => ?_) (fun c_7 => ?_)
    · skip
      refine lv_iconst (v := nI 0) hx hb dX6_source_28 (by decide) ?_
      refine lv_istore_n (lv' := [(2, .int (nI 0)), (0, .ref b), (1, .int (nI s))]) hx hb dX6_source_29 rfl hl0 (by decide) rfl (fun ls5 hl5 => ?_)
      clear hl0
      refine lv_iload_n hx hb dX6_source_30 rfl (lv_at hl5 0 rfl) ?_
      refine n_if_eq (tgt := 40) hx hb (by omega) dX6_source_31 (by decide) (fun c6 => ?_) (fun c6 => absurd (by decide) c6)
      refine lv_iconst (v := (-1)) hx hb dX6_source_40 (by decide) ?_
      refine ro_i hTG (Nat.le_refl _) (Nat.le_refl _) hx hb hr hlocks hS0 dX6_source_41 ?_
      simp only [srcM, c_3, c_7, if_true, ↓reduceIte] <;> rfl
    · skip
      refine lv_aload_n hx hb dX6_source_10 rfl (lv_at hl0 0 rfl) ?_
      refine lv_bipush (v := nI 7) hx hb dX6_source_11 (by decide) ?_
      refine lv_iload_n hx hb dX6_source_13 rfl (lv_at hl0 1 rfl) ?_
      refine lv_iconst (v := nI 4) hx hb dX6_source_14 (by decide) ?_
      refine lv_idiv hx hb dX6_source_15 (by decide) ?_
      refine tp_i (y := nI (s / 4)) (pk_div (by omega) (by omega) (by omega)) ?_
      refine lv_iadd hx hb dX6_source_16 ?_
      refine tp_i (y := nI (7 + (s / 4))) (nI_add _ _) ?_
      refine lv_iconst (v := nI 1) hx hb dX6_source_17 (by decide) ?_
      refine lv_isub hx hb dX6_source_18 ?_
      refine tp_i (y := nI (7 + (s / 4) - 1)) (pk_sub (by omega)) ?_
      refine r_iald hx hb hK hP0 0 (f := a) (n := 111) rfl (7 + (s / 4) - 1) (by decide) dX6_source_19 (by omega) ?_
      refine lv_iconst (v := nI 1) hx hb dX6_source_20 (by decide) ?_
      refine lv_icmp_ne (tgt := 28) hx hb dX6_source_21 (by decide) (fun c_21 => ?_) (fun c_21 => ?_)
      · skip
        refine lv_iconst (v := nI 0) hx hb dX6_source_28 (by decide) ?_
        refine lv_istore_n (lv' := [(2, .int (nI 0)), (0, .ref b), (1, .int (nI s))]) hx hb dX6_source_29 rfl hl0 (by decide) rfl (fun ls8 hl8 => ?_)
        clear hl0
        refine lv_iload_n hx hb dX6_source_30 rfl (lv_at hl8 0 rfl) ?_
        refine n_if_eq (tgt := 40) hx hb (by omega) dX6_source_31 (by decide) (fun c9 => ?_) (fun c9 => absurd (by decide) c9)
        refine lv_iconst (v := (-1)) hx hb dX6_source_40 (by decide) ?_
        refine ro_i hTG (Nat.le_refl _) (Nat.le_refl _) hx hb hr hlocks hS0 dX6_source_41 ?_
        simp only [srcM, c_3, c_7, c_21, if_true, ↓reduceIte] <;> rfl
      · skip
        refine lv_iconst (v := nI 1) hx hb dX6_source_24 (by decide) ?_
        refine lv_goto (tgt := 29) hx hb dX6_source_25 (by decide) ?_
        refine lv_istore_n (lv' := [(2, .int (nI 1)), (0, .ref b), (1, .int (nI s))]) hx hb dX6_source_29 rfl hl0 (by decide) rfl (fun ls10 hl10 => ?_)
        clear hl0
        refine lv_iload_n hx hb dX6_source_30 rfl (lv_at hl10 0 rfl) ?_
        refine n_if_eq (tgt := 40) hx hb (by omega) dX6_source_31 (by decide) (fun c11 => absurd c11 (by decide)) (fun c11 => ?_)
        refine lv_iload_n hx hb dX6_source_34 rfl (lv_at hl10 2 rfl) ?_
        refine lv_iconst (v := nI 1) hx hb dX6_source_35 (by decide) ?_
        refine lv_isub hx hb dX6_source_36 ?_
        refine tp_i (y := nI (s - 1)) (pk_sub (by omega)) ?_
        refine lv_goto (tgt := 41) hx hb dX6_source_37 (by decide) ?_
        refine ro_i hTG (Nat.le_refl _) (Nat.le_refl _) hx hb hr hlocks hS0 dX6_source_41 ?_
        simp only [srcM, c_3, c_7, c_21, if_true, ↓reduceIte] <;> rfl
set_option maxHeartbeats 4000000 in
set_option maxRecDepth 100000 in
theorem c_X6_isBrown (l : Launch) (D : va_G) (T : TI) (b : Nat) (a : Nat → Int32) (s : Nat) (hs : s < 12) : OI l yX6_isBrown cX6_isBrown 2 .boolean (rmD 1 0 0) D T [.ref b, .int (nI s)] [aW T 0 b 111 a] (fun r => r = bI (brM a s)) := by
  refine met_ro rfl (Nat.le_of_ble_eq_true rfl) ?_
  intro pX eX sX mX bX mtX cX hC hP0 hS0 ls0 hl0 TG hTG
  obtain ⟨hx, hb, hr, hml, hown, hts, hlocks, hin, hK⟩ := hC
  have hown : sX.vm.findClass RX6 = some mX.cls := hown
  have hl0 : lv_has ls0 2 [(0, .ref b), (1, .int (nI s))] := hl0
  refine lv_aload_n hx hb dX6_isBrown_0 rfl (lv_at hl0 0 rfl) ?_
  refine lv_iload_n hx hb dX6_isBrown_1 rfl (lv_at hl0 1 rfl) ?_
  refine lv_iconst (v := nI 0) hx hb dX6_isBrown_2 (by decide) ?_
  have hPc1 : va_P D vwCl (fl [aW T 0 b 111 a]) _ := hP0.sub [0] rfl
  refine cr_i (va_runS (As := [.ref b, .int (nI s), .int (nI 0)]) (rest := []) ⟨hx, hb, hml, hown, hts⟩ (c_X6_of l D T b a s 0 (by omega) (by omega)) (mkS hts okX6_of kw_783 kw_784 ⟨rfl, rfl, Nat.le_of_ble_eq_true rfl, Nat.le_of_ble_eq_true rfl⟩) (ps_ro hK hPc1) rfl rfl hl0.1 rfl (lv_room (Nat.le_of_ble_eq_true rfl)) dX6_isBrown_3 ⟨Nat.le_of_ble_eq_true rfl, Nat.le_of_ble_eq_true rfl⟩) hP0 hS0 (fun r_3 H2 locs2 hq_3 hP2 hS2 => ?_)
  clear hP0 hS0 hPc1
  have hq_3 : r_3 = a (12 + 6 * s + 0) := hq_3
  subst hq_3
  refine lv_aload_n hx hb dX6_isBrown_6 rfl (lv_at hl0 0 rfl) ?_
  refine lv_iconst (v := nI 0) hx hb dX6_isBrown_7 (by decide) ?_
  refine r_iald hx hb hK hP2 0 (f := a) (n := 111) rfl 0 (by decide) dX6_isBrown_8 (by decide) ?_
  refine lv_icmp_le (tgt := 16) hx hb dX6_isBrown_9 (by decide) (fun c_9 => ?_) (fun c_9 => ?_)
  · skip
    refine lv_iconst (v := nI 0) hx hb dX6_isBrown_16 (by decide) ?_
    refine ro_z (b := false) rfl hTG (Nat.le_refl _) (Nat.le_refl _) hx hb hr hlocks hS2 dX6_isBrown_17 ?_
    show bI _ = bI _
    unfold brM
    first | (rw [decide_eq_true c_9]; rfl) | (rw [decide_eq_false c_9]; rfl)
  · skip
    refine lv_iconst (v := nI 1) hx hb dX6_isBrown_12 (by decide) ?_
    refine lv_goto (tgt := 17) hx hb dX6_isBrown_13 (by decide) ?_
    refine ro_z (b := true) rfl hTG (Nat.le_refl _) (Nat.le_refl _) hx hb hr hlocks hS2 dX6_isBrown_17 ?_
    show bI _ = bI _
    unfold brM
    first | (rw [decide_eq_true c_9]; rfl) | (rw [decide_eq_false c_9]; rfl)
set_option maxHeartbeats 4000000 in
set_option maxRecDepth 100000 in
theorem c_X6_sum (l : Launch) (D : va_G) (T : TI) (b : Nat) (a : Nat → Int32) (w : Nat) (hw : w < 6) : OI l yX6_sum cX6_sum 4 .int (rmD 1 0 0) D T [.ref b, .int (nI w)] [aW T 0 b 111 a] (fun r => r = sumM a w 12) := by
  refine met_ro rfl (Nat.le_of_ble_eq_true rfl) ?_
  intro pX eX sX mX bX mtX cX hC hP0 hS0 ls0 hl0 TG hTG
  obtain ⟨hx, hb, hr, hml, hown, hts, hlocks, hin, hK⟩ := hC
  have hown : sX.vm.findClass RX6 = some mX.cls := hown
  have hl0 : lv_has ls0 4 [(0, .ref b), (1, .int (nI w))] := hl0
  refine lv_iconst (v := nI 0) hx hb dX6_sum_0 (by decide) ?_
  refine lv_istore_n (lv' := [(2, .int (nI 0)), (0, .ref b), (1, .int (nI w))]) hx hb dX6_sum_1 rfl hl0 (by decide) rfl (fun ls1 hl1 => ?_)
  clear hl0
  refine lv_iconst (v := nI 0) hx hb dX6_sum_2 (by decide) ?_
  refine lv_istore_n (lv' := [(3, .int (nI 0)), (2, .int (nI 0)), (0, .ref b), (1, .int (nI w))]) hx hb dX6_sum_3 rfl hl1 (by decide) rfl (fun ls2 hl2 => ?_)
  clear hl1
  have loop4 : ∀ (n_ : Nat) (k : Nat), (k ≤ 12) → (12 - k) < n_ → ∀ (H : Heap) (locs : List Loc), va_P D vwCl (fl [aW T 0 b 111 a]) H → va_S NO sX.heap H locs → ∀ ls : Array Slot, lv_has ls 4 [(0, .ref b), (1, .int (nI w)), (2, .int (sumM a w k)), (3, .int (nI k))] → W pX l eX (rmD 1 0 0) sX mX ([.ref b, .int (nI w)] : List Value).toArray bX mtX cX H locs 0 0 TG (F0 mX 4 ls []) := by
    intro n_
    induction n_ with
    | zero => intro k hk hmu_ ; exact absurd hmu_ (Nat.not_lt_zero _)
    | succ n_ ih4 =>
      intro k hk hmu_4 H4 locs4 hP4  hS4 ls4 hl4
      refine lv_iload_n hx hb dX6_sum_4 rfl (lv_at hl4 3 rfl) ?_
      refine lv_bipush (v := nI 12) hx hb dX6_sum_5 (by decide) ?_
      refine n_icmp_ge (tgt := 25) hx hb (by omega) (by omega) dX6_sum_7 (by decide) (fun c_7 => ?_) (fun c_7 => ?_)
      · skip
        have hk2 : k = 12 := by omega
        subst hk2
        refine lv_iload_n hx hb dX6_sum_25 rfl (lv_at hl4 2 rfl) ?_
        refine ro_i hTG (Nat.le_refl _) (Nat.le_refl _) hx hb hr hlocks hS4 dX6_sum_26 ?_
        first | rfl | trivial
      · skip
        refine lv_iload_n hx hb dX6_sum_10 rfl (lv_at hl4 2 rfl) ?_
        refine lv_aload_n hx hb dX6_sum_11 rfl (lv_at hl4 0 rfl) ?_
        refine lv_iload_n hx hb dX6_sum_12 rfl (lv_at hl4 3 rfl) ?_
        refine lv_iload_n hx hb dX6_sum_13 rfl (lv_at hl4 1 rfl) ?_
        have hPc6 : va_P D vwCl (fl [aW T 0 b 111 a]) _ := hP4.sub [0] rfl
        refine cr_i (va_runS (As := [.ref b, .int (nI k), .int (nI w)]) (rest := [.int (sumM a w k)]) ⟨hx, hb, hml, hown, hts⟩ (c_X6_of l D T b a k w (by omega) (by omega)) (mkS hts okX6_of kw_783 kw_784 ⟨rfl, rfl, Nat.le_of_ble_eq_true rfl, Nat.le_of_ble_eq_true rfl⟩) (ps_ro hK hPc6) rfl rfl hl4.1 rfl (lv_room (Nat.le_of_ble_eq_true rfl)) dX6_sum_14 ⟨Nat.le_of_ble_eq_true rfl, Nat.le_of_ble_eq_true rfl⟩) hP4 hS4 (fun r_14 H7 locs7 hq_14 hP7 hS7 => ?_)
        clear hP4 hS4 hPc6
        have hq_14 : r_14 = a (12 + 6 * k + w) := hq_14
        subst hq_14
        refine lv_iadd hx hb dX6_sum_17 ?_
        refine lv_istore_n (lv' := [(2, .int ((sumM a w k) + (a (12 + 6 * k + w)))), (0, .ref b), (1, .int (nI w)), (3, .int (nI k))]) hx hb dX6_sum_18 rfl hl4 (by decide) rfl (fun ls8 hl8 => ?_)
        clear hl4
        refine lv_iinc (v := nI (k + 1)) (lv' := [(3, .int (nI (k + 1))), (2, .int ((sumM a w k) + (a (12 + 6 * k + w)))), (0, .ref b), (1, .int (nI w))]) hx hb dX6_sum_19 hl8 (k := 3) rfl (nI_add k 1) (by decide) rfl (fun ls9 hl9 => ?_)
        clear hl8
        refine lv_goto (tgt := 4) hx hb dX6_sum_22 (by decide) ?_
        exact ih4 (k + 1) (by omega) (by omega) _ _ hP7  hS7 _ (lv_sub hl9 [2, 3, 1, 0] rfl)
  exact loop4 ((12 - 0) + 1) 0 (by omega) (Nat.lt_succ_self _) _ _ hP0  hS0 _ (lv_sub hl2 [2, 3, 1, 0] rfl)
set_option maxHeartbeats 4000000 in
set_option maxRecDepth 100000 in
theorem c_X6_brown (l : Launch) (D : va_G) (T : TI) (b : Nat) (a : Nat → Int32)  : OI l yX6_brown cX6_brown 3 .int (rmD 2 0 0) D T [.ref b] [aW T 0 b 111 a] (fun r => r = nI (brNM a 12)) := by
  refine met_ro rfl (Nat.le_of_ble_eq_true rfl) ?_
  intro pX eX sX mX bX mtX cX hC hP0 hS0 ls0 hl0 TG hTG
  obtain ⟨hx, hb, hr, hml, hown, hts, hlocks, hin, hK⟩ := hC
  have hown : sX.vm.findClass RX6 = some mX.cls := hown
  have hl0 : lv_has ls0 3 [(0, .ref b)] := hl0
  refine lv_iconst (v := nI 0) hx hb dX6_brown_0 (by decide) ?_
  refine lv_istore_n (lv' := [(1, .int (nI 0)), (0, .ref b)]) hx hb dX6_brown_1 rfl hl0 (by decide) rfl (fun ls1 hl1 => ?_)
  clear hl0
  refine lv_iconst (v := nI 0) hx hb dX6_brown_2 (by decide) ?_
  refine lv_istore_n (lv' := [(2, .int (nI 0)), (1, .int (nI 0)), (0, .ref b)]) hx hb dX6_brown_3 rfl hl1 (by decide) rfl (fun ls2 hl2 => ?_)
  clear hl1
  have loop4 : ∀ (n_ : Nat) (k : Nat) (n : Nat), (k ≤ 12) → (n = brNM a k) → (12 - k) < n_ → ∀ (H : Heap) (locs : List Loc), va_P D vwCl (fl [aW T 0 b 111 a]) H → va_S NO sX.heap H locs → ∀ ls : Array Slot, lv_has ls 3 [(0, .ref b), (1, .int (nI n)), (2, .int (nI k))] → W pX l eX (rmD 2 0 0) sX mX ([.ref b] : List Value).toArray bX mtX cX H locs 0 0 TG (F0 mX 4 ls []) := by
    intro n_
    induction n_ with
    | zero => intro k n hk hn hmu_ ; exact absurd hmu_ (Nat.not_lt_zero _)
    | succ n_ ih4 =>
      intro k n hk hn hmu_4 H4 locs4 hP4  hS4 ls4 hl4
      have hbn : n < 100 := by subst hn; exact Nat.lt_of_le_of_lt (brNM_le a k) (by omega)
      refine lv_iload_n hx hb dX6_brown_4 rfl (lv_at hl4 2 rfl) ?_
      refine lv_bipush (v := nI 12) hx hb dX6_brown_5 (by decide) ?_
      refine n_icmp_ge (tgt := 32) hx hb (by omega) (by omega) dX6_brown_7 (by decide) (fun c_7 => ?_) (fun c_7 => ?_)
      · skip
        have hk2 : k = 12 := by omega
        subst hk2
        refine lv_iload_n hx hb dX6_brown_32 rfl (lv_at hl4 1 rfl) ?_
        refine ro_i hTG (Nat.le_refl _) (Nat.le_refl _) hx hb hr hlocks hS4 dX6_brown_33 ?_
        rw [hn]
      · skip
        refine lv_iload_n hx hb dX6_brown_10 rfl (lv_at hl4 1 rfl) ?_
        refine lv_aload_n hx hb dX6_brown_11 rfl (lv_at hl4 0 rfl) ?_
        refine lv_iload_n hx hb dX6_brown_12 rfl (lv_at hl4 2 rfl) ?_
        have hPc6 : va_P D vwCl (fl [aW T 0 b 111 a]) _ := hP4.sub [0] rfl
        refine cr_i (va_runS (As := [.ref b, .int (nI k)]) (rest := [.int (nI n)]) ⟨hx, hb, hml, hown, hts⟩ (c_X6_isBrown l D T b a k (by omega)) (mkS hts okX6_isBrown kw_803 kw_804 ⟨rfl, rfl, Nat.le_of_ble_eq_true rfl, Nat.le_of_ble_eq_true rfl⟩) (ps_ro hK hPc6) rfl rfl hl4.1 rfl (lv_room (Nat.le_of_ble_eq_true rfl)) dX6_brown_13 ⟨Nat.le_of_ble_eq_true rfl, Nat.le_of_ble_eq_true rfl⟩) hP4 hS4 (fun r_13 H7 locs7 hq_13 hP7 hS7 => ?_)
        clear hP4 hS4 hPc6
        have hq_13 : r_13 = bI (brM a k) := hq_13
        subst hq_13
        refine z_if_eq (tgt := 23) hx hb dX6_brown_16 (by decide) (fun c_16 => ?_) (fun c_16 => ?_)
        · skip
          refine lv_iconst (v := nI 0) hx hb dX6_brown_23 (by decide) ?_
          refine lv_iadd hx hb dX6_brown_24 ?_
          refine tp_i (y := nI (n + 0)) (nI_add _ _) ?_
          refine lv_istore_n (lv' := [(1, .int (nI (n + 0))), (0, .ref b), (2, .int (nI k))]) hx hb dX6_brown_25 rfl hl4 (by decide) rfl (fun ls9 hl9 => ?_)
          clear hl4
          refine lv_iinc (v := nI (k + 1)) (lv' := [(2, .int (nI (k + 1))), (1, .int (nI (n + 0))), (0, .ref b)]) hx hb dX6_brown_26 hl9 (k := 2) rfl (nI_add k 1) (by decide) rfl (fun ls10 hl10 => ?_)
          clear hl9
          refine lv_goto (tgt := 4) hx hb dX6_brown_29 (by decide) ?_
          exact ih4 (k + 1) (n + 0) (by omega) (by subst hn; simp [brNM, c_7, c_16, if_true]) (by omega) _ _ hP7  hS7 _ (lv_sub hl10 [2, 1, 0] rfl)
        · skip
          refine lv_iconst (v := nI 1) hx hb dX6_brown_19 (by decide) ?_
          refine lv_goto (tgt := 24) hx hb dX6_brown_20 (by decide) ?_
          refine lv_iadd hx hb dX6_brown_24 ?_
          refine tp_i (y := nI (n + 1)) (nI_add _ _) ?_
          refine lv_istore_n (lv' := [(1, .int (nI (n + 1))), (0, .ref b), (2, .int (nI k))]) hx hb dX6_brown_25 rfl hl4 (by decide) rfl (fun ls11 hl11 => ?_)
          clear hl4
          refine lv_iinc (v := nI (k + 1)) (lv' := [(2, .int (nI (k + 1))), (1, .int (nI (n + 1))), (0, .ref b)]) hx hb dX6_brown_26 hl11 (k := 2) rfl (nI_add k 1) (by decide) rfl (fun ls12 hl12 => ?_)
          clear hl11
          refine lv_goto (tgt := 4) hx hb dX6_brown_29 (by decide) ?_
          exact ih4 (k + 1) (n + 1) (by omega) (by subst hn; simp [brNM, c_7, c_16, if_true]) (by omega) _ _ hP7  hS7 _ (lv_sub hl12 [2, 1, 0] rfl)
  exact loop4 ((12 - 0) + 1) 0 0 (by omega) (rfl) (Nat.lt_succ_self _) _ _ hP0  hS0 _ (lv_sub hl2 [2, 1, 0] rfl)
set_option maxHeartbeats 4000000 in
set_option maxRecDepth 100000 in
theorem c_X6_comes (l : Launch) (D : va_G) (T : TI) (b : Nat) (a : Nat → Int32) (s : Nat) (d : Int32) (hs : s < 12) : CV l yX6_comes cX6_comes 4 (rmD 0 0 0) D T [.ref b, .int (nI s), .int d] [aW T 0 b 111 a] 0 0 (β := Nat → Int32) (fun (a2 : Nat → Int32) => [aW T 0 b 111 a2]) (fun (a2 : Nat → Int32) => cmM a s d = a2) := by
  intro sz
  refine met_rw (Qc := fun A => va_Qv _ (PST D _ A) A) rfl (Nat.le_of_ble_eq_true rfl) ?_
  intro pX eX sX mX bX mtX cX A hAe hC hA hP0 hD0 hS0 ls0 hl0 TG hTG
  clear hAe
  obtain ⟨hx, hb, hr, hml, hown, hts, hlocks, hin, hK⟩ := hC
  have hown : sX.vm.findClass RX6 = some mX.cls := hown
  have hl0 : lv_has ls0 4 [(0, .ref b), (1, .int (nI s)), (2, .int d)] := hl0
  refine lv_bipush (v := nI 12) hx hb dX6_comes_0 (by decide) ?_
  refine lv_bipush (v := nI 6) hx hb dX6_comes_2 (by decide) ?_
  refine lv_iload_n hx hb dX6_comes_4 rfl (lv_at hl0 1 rfl) ?_
  refine lv_imul hx hb dX6_comes_5 ?_
  refine tp_i (y := nI (6 * s)) (pk_mul _ _) ?_
  refine lv_iadd hx hb dX6_comes_6 ?_
  refine tp_i (y := nI (12 + (6 * s))) (nI_add _ _) ?_
  refine lv_istore_n (lv' := [(3, .int (nI (12 + (6 * s)))), (0, .ref b), (1, .int (nI s)), (2, .int d)]) hx hb dX6_comes_7 rfl hl0 (by decide) rfl (fun ls1 hl1 => ?_)
  clear hl0
  refine lv_aload_n hx hb dX6_comes_8 rfl (lv_at hl1 1 rfl) ?_
  refine lv_iload_n hx hb dX6_comes_9 rfl (lv_at hl1 0 rfl) ?_
  refine lv_dup2_11 hx hb dX6_comes_10 rfl rfl ?_
  refine r_iald hx hb hK hP0 0 (f := a) (n := 111) rfl (12 + (6 * s)) (by decide) dX6_comes_11 (by omega) ?_
  refine lv_iload_n hx hb dX6_comes_12 rfl (lv_at hl1 3 rfl) ?_
  refine lv_iadd hx hb dX6_comes_13 ?_
  refine r_iast hx hb hK hP0 hD0 hS0 0 (f := a) (n := 111) rfl (12 + (6 * s)) (by decide) dX6_comes_14 (by omega) (fun (H2 : Heap) (locs2 : List Loc) (hP2 : va_P D vwCl (fl [aW T 0 b 111 (upd a (12 + (6 * s)) ((a (12 + (6 * s))) + d))]) H2) (hD2 : va_D A (fl [aW T 0 b 111 (upd a (12 + (6 * s)) ((a (12 + (6 * s))) + d))])) hS2 => ?_)
  clear hP0 hD0 hS0
  refine lv_aload_n hx hb dX6_comes_15 rfl (lv_at hl1 1 rfl) ?_
  refine lv_iload_n hx hb dX6_comes_16 rfl (lv_at hl1 0 rfl) ?_
  refine r_iald hx hb hK hP2 0 (f := (upd a (12 + (6 * s)) ((a (12 + (6 * s))) + d))) (n := 111) rfl (12 + (6 * s)) (by decide) dX6_comes_17 (by omega) ?_
  refine lv_sipush (v := nI 999) hx hb dX6_comes_18 (by decide) ?_
  refine lv_icmp_le (tgt := 44) hx hb dX6_comes_21 (by decide) (fun c_21 => ?_) (fun c_21 => ?_)
  · skip
    refine ret_v hTG (Nat.le_refl _) (Nat.le_refl _) hx hb hr hlocks ((upd a (12 + (6 * s)) ((a (12 + (6 * s))) + d))) hP2 hD2 hS2 [0] rfl (by decide) dX6_comes_44 ?_
    simp only [cmM, c_21, if_true, ↓reduceIte]
  · skip
    refine lv_aload_n hx hb dX6_comes_24 rfl (lv_at hl1 1 rfl) ?_
    refine lv_bipush (v := nI 11) hx hb dX6_comes_25 (by decide) ?_
    refine lv_dup2_11 hx hb dX6_comes_27 rfl rfl ?_
    refine r_iald hx hb hK hP2 0 (f := (upd a (12 + (6 * s)) ((a (12 + (6 * s))) + d))) (n := 111) rfl 11 (by decide) dX6_comes_28 (by decide) ?_
    refine lv_aload_n hx hb dX6_comes_29 rfl (lv_at hl1 1 rfl) ?_
    refine lv_iload_n hx hb dX6_comes_30 rfl (lv_at hl1 0 rfl) ?_
    refine r_iald hx hb hK hP2 0 (f := (upd a (12 + (6 * s)) ((a (12 + (6 * s))) + d))) (n := 111) rfl (12 + (6 * s)) (by decide) dX6_comes_31 (by omega) ?_
    refine lv_sipush (v := nI 999) hx hb dX6_comes_32 (by decide) ?_
    refine lv_isub hx hb dX6_comes_35 ?_
    refine lv_iadd hx hb dX6_comes_36 ?_
    refine r_iast hx hb hK hP2 hD2 hS2 0 (f := (upd a (12 + (6 * s)) ((a (12 + (6 * s))) + d))) (n := 111) rfl 11 (by decide) dX6_comes_37 (by decide) (fun (H4 : Heap) (locs4 : List Loc) (hP4 : va_P D vwCl (fl [aW T 0 b 111 (upd (upd a (12 + (6 * s)) ((a (12 + (6 * s))) + d)) 11 (((upd a (12 + (6 * s)) ((a (12 + (6 * s))) + d)) 11) + (((upd a (12 + (6 * s)) ((a (12 + (6 * s))) + d)) (12 + (6 * s))) - (nI 999))))]) H4) (hD4 : va_D A (fl [aW T 0 b 111 (upd (upd a (12 + (6 * s)) ((a (12 + (6 * s))) + d)) 11 (((upd a (12 + (6 * s)) ((a (12 + (6 * s))) + d)) 11) + (((upd a (12 + (6 * s)) ((a (12 + (6 * s))) + d)) (12 + (6 * s))) - (nI 999))))])) hS4 => ?_)
    clear hP2 hD2 hS2
    refine lv_aload_n hx hb dX6_comes_38 rfl (lv_at hl1 1 rfl) ?_
    refine lv_iload_n hx hb dX6_comes_39 rfl (lv_at hl1 0 rfl) ?_
    refine lv_sipush (v := nI 999) hx hb dX6_comes_40 (by decide) ?_
    refine r_iast hx hb hK hP4 hD4 hS4 0 (f := (upd (upd a (12 + (6 * s)) ((a (12 + (6 * s))) + d)) 11 (((upd a (12 + (6 * s)) ((a (12 + (6 * s))) + d)) 11) + (((upd a (12 + (6 * s)) ((a (12 + (6 * s))) + d)) (12 + (6 * s))) - (nI 999))))) (n := 111) rfl (12 + (6 * s)) (by decide) dX6_comes_43 (by omega) (fun (H5 : Heap) (locs5 : List Loc) (hP5 : va_P D vwCl (fl [aW T 0 b 111 (upd (upd (upd a (12 + (6 * s)) ((a (12 + (6 * s))) + d)) 11 (((upd a (12 + (6 * s)) ((a (12 + (6 * s))) + d)) 11) + (((upd a (12 + (6 * s)) ((a (12 + (6 * s))) + d)) (12 + (6 * s))) - (nI 999)))) (12 + (6 * s)) (nI 999))]) H5) (hD5 : va_D A (fl [aW T 0 b 111 (upd (upd (upd a (12 + (6 * s)) ((a (12 + (6 * s))) + d)) 11 (((upd a (12 + (6 * s)) ((a (12 + (6 * s))) + d)) 11) + (((upd a (12 + (6 * s)) ((a (12 + (6 * s))) + d)) (12 + (6 * s))) - (nI 999)))) (12 + (6 * s)) (nI 999))])) hS5 => ?_)
    clear hP4 hD4 hS4
    refine ret_v hTG (Nat.le_refl _) (Nat.le_refl _) hx hb hr hlocks ((upd (upd (upd a (12 + (6 * s)) ((a (12 + (6 * s))) + d)) 11 (((upd a (12 + (6 * s)) ((a (12 + (6 * s))) + d)) 11) + (((upd a (12 + (6 * s)) ((a (12 + (6 * s))) + d)) (12 + (6 * s))) - (nI 999)))) (12 + (6 * s)) (nI 999))) hP5 hD5 hS5 [0] rfl (by decide) dX6_comes_44 ?_
    simp only [cmM, c_21, if_true, ↓reduceIte]
set_option maxHeartbeats 4000000 in
set_option maxRecDepth 100000 in
theorem c_X6_copies (l : Launch) (D : va_G) (T : TI) (b1 : Nat) (n1 : Nat) (f : Nat → Int32) (fa : Nat) (b2 : Nat) (n2 : Nat) (g : Nat → Int32) (ta : Nat) (h1 : fa + 111 ≤ n1) (h2 : ta + 111 ≤ n2) (h3 : n1 < 1000) (h4 : n2 < 1000) : CV l yX6_copies cX6_copies 5 (rmD 0 0 0) D T [.ref b1, .int (nI fa), .ref b2, .int (nI ta)] [aW T 0 b1 n1 f, aW T 0 b2 n2 g] 0 0 (β := Nat → Int32) (fun (g2 : Nat → Int32) => [aW T 0 b1 n1 f, aW T 0 b2 n2 g2]) (fun (g2 : Nat → Int32) => va_cpy f g fa ta 111 = g2) := by
  intro sz
  refine met_rw (Qc := fun A => va_Qv _ (PST D _ A) A) rfl (Nat.le_of_ble_eq_true rfl) ?_
  intro pX eX sX mX bX mtX cX A hAe hC hA hP0 hD0 hS0 ls0 hl0 TG hTG
  clear hAe
  obtain ⟨hx, hb, hr, hml, hown, hts, hlocks, hin, hK⟩ := hC
  have hown : sX.vm.findClass RX6 = some mX.cls := hown
  have hl0 : lv_has ls0 5 [(0, .ref b1), (1, .int (nI fa)), (2, .ref b2), (3, .int (nI ta))] := hl0
  refine lv_iconst (v := nI 0) hx hb dX6_copies_0 (by decide) ?_
  refine lv_istore (lv' := [(4, .int (nI 0)), (0, .ref b1), (1, .int (nI fa)), (2, .ref b2), (3, .int (nI ta))]) hx hb dX6_copies_1 hl0 (by decide) rfl (fun ls1 hl1 => ?_)
  clear hl0
  have loop3 : ∀ (n_ : Nat) (k : Nat) (g1 : Nat → Int32), (k ≤ 111) → (g1 = va_cpy f g fa ta k) → (111 - k) < n_ → ∀ (H : Heap) (locs : List Loc), va_P D vwCl (fl [aW T 0 b1 n1 f, aW T 0 b2 n2 g1]) H → va_D A (fl [aW T 0 b1 n1 f, aW T 0 b2 n2 g1]) → va_S A sX.heap H locs → ∀ ls : Array Slot, lv_has ls 5 [(0, .ref b1), (1, .int (nI fa)), (2, .ref b2), (3, .int (nI ta)), (4, .int (nI k))] → W pX l eX (rmD 0 0 0) sX mX ([.ref b1, .int (nI fa), .ref b2, .int (nI ta)] : List Value).toArray bX mtX cX H locs 0 0 TG (F0 mX 3 ls []) := by
    intro n_
    induction n_ with
    | zero => intro k g1 hk hg hmu_ ; exact absurd hmu_ (Nat.not_lt_zero _)
    | succ n_ ih3 =>
      intro k g1 hk hg hmu_3 H3 locs3 hP3 hD3 hS3 ls3 hl3
      refine lv_iload hx hb dX6_copies_3 (lv_at hl3 4 rfl) ?_
      refine lv_bipush (v := nI 111) hx hb dX6_copies_5 (by decide) ?_
      refine n_icmp_ge (tgt := 28) hx hb (by omega) (by omega) dX6_copies_7 (by decide) (fun c_7 => ?_) (fun c_7 => ?_)
      · skip
        have hk2 : k = 111 := by omega
        subst hk2
        refine ret_v hTG (Nat.le_refl _) (Nat.le_refl _) hx hb hr hlocks ((g1)) hP3 hD3 hS3 [0, 1] rfl (by decide) dX6_copies_28 ?_
        exact hg.symm
      · skip
        refine lv_aload_n hx hb dX6_copies_10 rfl (lv_at hl3 2 rfl) ?_
        refine lv_iload_n hx hb dX6_copies_11 rfl (lv_at hl3 3 rfl) ?_
        refine lv_iload hx hb dX6_copies_12 (lv_at hl3 4 rfl) ?_
        refine lv_iadd hx hb dX6_copies_14 ?_
        refine tp_i (y := nI (ta + k)) (nI_add _ _) ?_
        refine lv_aload_n hx hb dX6_copies_15 rfl (lv_at hl3 0 rfl) ?_
        refine lv_iload_n hx hb dX6_copies_16 rfl (lv_at hl3 1 rfl) ?_
        refine lv_iload hx hb dX6_copies_17 (lv_at hl3 4 rfl) ?_
        refine lv_iadd hx hb dX6_copies_19 ?_
        refine tp_i (y := nI (fa + k)) (nI_add _ _) ?_
        refine r_iald hx hb hK hP3 0 (f := f) (n := n1) rfl (fa + k) (by omega) dX6_copies_20 (by omega) ?_
        refine r_iast hx hb hK hP3 hD3 hS3 1 (f := g1) (n := n2) rfl (ta + k) (by omega) dX6_copies_21 (by omega) (fun (H5 : Heap) (locs5 : List Loc) (hP5 : va_P D vwCl (fl [aW T 0 b1 n1 f, aW T 0 b2 n2 (upd g1 (ta + k) (f (fa + k)))]) H5) (hD5 : va_D A (fl [aW T 0 b1 n1 f, aW T 0 b2 n2 (upd g1 (ta + k) (f (fa + k)))])) hS5 => ?_)
        clear hP3 hD3 hS3
        refine lv_iinc (v := nI (k + 1)) (lv' := [(4, .int (nI (k + 1))), (0, .ref b1), (1, .int (nI fa)), (2, .ref b2), (3, .int (nI ta))]) hx hb dX6_copies_22 hl3 (k := 4) rfl (nI_add k 1) (by decide) rfl (fun ls6 hl6 => ?_)
        clear hl3
        refine lv_goto (tgt := 3) hx hb dX6_copies_25 (by decide) ?_
        exact ih3 (k + 1) (upd g1 (ta + k) (f (fa + k))) (by omega) (by rw [hg, va_cpy_s]) (by omega) _ _ hP5 hD5 hS5 _ (lv_sub hl6 [1, 2, 3, 4, 0] rfl)
  exact loop3 ((111 - 0) + 1) 0 g (by omega) ((va_cpy_0 _ _ _ _).symm) (Nat.lt_succ_self _) _ _ hP0 hD0 hS0 _ (lv_sub hl1 [1, 2, 3, 4, 0] rfl)
set_option maxHeartbeats 4000000 in
set_option maxRecDepth 100000 in
theorem c_X6_lays (l : Launch) (D : va_G) (T : TI) (q : Nat → Nat) (kp : Nat) (ty : Nat) (th : Int32) (at_ : Nat) (isF : Bool) (op : Int32) (b : Nat) (a : Nat → Int32) (wh : Nat → Int32) (hok : okM a) : CV l yX6_lays cX6_lays 7 (rmD 3 0 0) D T [.ref (q 0), .ref b] [mO q (nI kp) (nI ty) th (nI at_) isF op, aW T 0 b 111 a, aW T 0 (q 6) 3 wh] 0 0 (β := Int32 × (Nat → Int32)) (fun ⟨op2, wh2⟩ => [mO q (nI kp) (nI ty) th (nI at_) isF op2, aW T 0 b 111 a, aW T 0 (q 6) 3 wh2]) (fun ⟨op2, wh2⟩ => (op2, wh2) = laI a wh 3) := by
  intro sz
  refine met_rw (Qc := fun A => va_Qv _ (PST D _ A) A) rfl (Nat.le_of_ble_eq_true rfl) ?_
  intro pX eX sX mX bX mtX cX A hAe hC hA hP0 hD0 hS0 ls0 hl0 TG hTG
  clear hAe
  obtain ⟨hx, hb, hr, hml, hown, hts, hlocks, hin, hK⟩ := hC
  have hown : sX.vm.findClass RX6 = some mX.cls := hown
  have hl0 : lv_has ls0 7 [(0, .ref (q 0)), (1, .ref b)] := hl0
  refine lv_aload_n hx hb dX6_lays_0 rfl (lv_at hl0 0 rfl) ?_
  refine lv_iconst (v := nI 0) hx hb dX6_lays_1 (by decide) ?_
  refine r_put (own := RX6) (C := RX6) (F := TX6) (N := 12) (ci := 6) (v := nI 0) hx hb hK hts in_X6 tyX6 tyX6_ok nmX6 hown hP0 hD0 hS0 0 rfl rfl 11 (by decide) kw_681 rfl rfl (Nat.le_of_ble_eq_true rfl) dX6_lays_2 (fun (H1 : Heap) (locs1 : List Loc) (hP1 : va_P D vwCl (fl [mO q (nI kp) (nI ty) th (nI at_) isF (nI 0), aW T 0 b 111 a, aW T 0 (q 6) 3 wh]) H1) (hD1 : va_D A (fl [mO q (nI kp) (nI ty) th (nI at_) isF (nI 0), aW T 0 b 111 a, aW T 0 (q 6) 3 wh])) hS1 => ?_)
  clear hP0 hD0 hS0
  refine lv_iconst (v := nI 0) hx hb dX6_lays_5 (by decide) ?_
  refine lv_istore_n (lv' := [(2, .int (nI 0)), (0, .ref (q 0)), (1, .ref b)]) hx hb dX6_lays_6 rfl hl0 (by decide) rfl (fun ls2 hl2 => ?_)
  clear hl0
  have loop7 : ∀ (n_ : Nat) (i : Nat) (op1 : Int32) (wh1 : Nat → Int32), (i ≤ 3) → ((op1, wh1) = laI a wh i) → (3 - i) < n_ → ∀ (H : Heap) (locs : List Loc), va_P D vwCl (fl [mO q (nI kp) (nI ty) th (nI at_) isF op1, aW T 0 b 111 a, aW T 0 (q 6) 3 wh1]) H → va_D A (fl [mO q (nI kp) (nI ty) th (nI at_) isF op1, aW T 0 b 111 a, aW T 0 (q 6) 3 wh1]) → va_S A sX.heap H locs → ∀ ls : Array Slot, lv_has ls 7 [(0, .ref (q 0)), (1, .ref b), (2, .int (nI i))] → W pX l eX (rmD 3 0 0) sX mX ([.ref (q 0), .ref b] : List Value).toArray bX mtX cX H locs 0 0 TG (F0 mX 7 ls []) := by
    intro n_
    induction n_ with
    | zero => intro i op1 wh1 hi hw hmu_ ; exact absurd hmu_ (Nat.not_lt_zero _)
    | succ n_ ih7 =>
      intro i op1 wh1 hi hw hmu_7 H4 locs4 hP4 hD4 hS4 ls4 hl4
      refine lv_iload_n hx hb dX6_lays_7 rfl (lv_at hl4 2 rfl) ?_
      refine lv_iconst (v := nI 3) hx hb dX6_lays_8 (by decide) ?_
      refine n_icmp_ge (tgt := 160) hx hb (by omega) (by omega) dX6_lays_9 (by decide) (fun c_9 => ?_) (fun c_9 => ?_)
      · skip
        have hi2 : i = 3 := by omega
        subst hi2
        refine ret_v hTG (Nat.le_refl _) (Nat.le_refl _) hx hb hr hlocks ((op1, wh1)) hP4 hD4 hS4 [0, 1, 2] rfl (by decide) dX6_lays_160 ?_
        exact hw
      · skip
        refine lv_aload_n hx hb dX6_lays_12 rfl (lv_at hl4 1 rfl) ?_
        refine lv_iload_n hx hb dX6_lays_13 rfl (lv_at hl4 2 rfl) ?_
        have hPc6 : va_P D vwCl (fl [aW T 0 b 111 a]) _ := hP4.sub [1] rfl
        refine cr_i (va_runS (As := [.ref b, .int (nI i)]) (rest := []) ⟨hx, hb, hml, hown, hts⟩ (c_X6_first l D T b a i (by omega)) (mkS hts okX6_first kw_763 kw_764 ⟨rfl, rfl, Nat.le_of_ble_eq_true rfl, Nat.le_of_ble_eq_true rfl⟩) (ps_ro hK hPc6) rfl rfl hl4.1 rfl (lv_room (Nat.le_of_ble_eq_true rfl)) dX6_lays_14 ⟨Nat.le_of_ble_eq_true rfl, Nat.le_of_ble_eq_true rfl⟩) hP4 hS4 (fun r_14 H7 locs7 hq_14 hP7 hS7 => ?_)
        clear hP4 hS4 hPc6
        have hD7 := hD4
        clear hD4
        have hq_14 : r_14 = frM a i := hq_14
        subst hq_14
        rcases frM_or hok (show i < 3 by omega) with hfr | ⟨t, ht, hfr⟩
        · rw [hfr]
          refine lv_istore_n (lv' := [(3, .int (-1)), (0, .ref (q 0)), (1, .ref b), (2, .int (nI i))]) hx hb dX6_lays_17 rfl hl4 (by decide) rfl (fun ls8 hl8 => ?_)
          clear hl4
          refine lv_iload_n hx hb dX6_lays_18 rfl (lv_at hl8 0 rfl) ?_
          refine lv_iconst (v := (-1)) hx hb dX6_lays_19 (by decide) ?_
          refine lv_icmp_ne (tgt := 33) hx hb dX6_lays_20 (by decide) (fun c9 => absurd c9 (fun h => h rfl)) (fun c9 => ?_)
          refine lv_aload_n hx hb dX6_lays_23 rfl (lv_at hl8 1 rfl) ?_
          refine r_get (own := RX6) (C := RX6) (F := TX6) (N := 12) (ci := 6) (v := .ref (q 6)) hx hb hK hts in_X6 hown hP7 0 rfl rfl 10 (by decide) kw_680 rfl dX6_lays_24 ?_
          refine lv_iload_n hx hb dX6_lays_27 rfl (lv_at hl8 3 rfl) ?_
          refine lv_iconst (v := (-1)) hx hb dX6_lays_28 (by decide) ?_
          refine r_iast hx hb hK hP7 hD7 hS7 2 (f := wh1) (n := 3) rfl i (by decide) dX6_lays_29 (by omega) (fun (H10 : Heap) (locs10 : List Loc) (hP10 : va_P D vwCl (fl [mO q (nI kp) (nI ty) th (nI at_) isF op1, aW T 0 b 111 a, aW T 0 (q 6) 3 (upd wh1 i (-1))]) H10) (hD10 : va_D A (fl [mO q (nI kp) (nI ty) th (nI at_) isF op1, aW T 0 b 111 a, aW T 0 (q 6) 3 (upd wh1 i (-1))])) hS10 => ?_)
          clear hP7 hD7 hS7
          refine lv_goto (tgt := 154) hx hb dX6_lays_30 (by decide) ?_
          refine lv_iinc (v := nI (i + 1)) (lv' := [(2, .int (nI (i + 1))), (3, .int (-1)), (0, .ref (q 0)), (1, .ref b)]) hx hb dX6_lays_154 hl8 (k := 3) rfl (nI_add i 1) (by decide) rfl (fun ls11 hl11 => ?_)
          clear hl8
          refine lv_goto (tgt := 7) hx hb dX6_lays_157 (by decide) ?_
          have hw' : (op1, upd wh1 i (-1)) = laI a wh (i + 1) := by rw [laI, ← hw, laS_m1 (w := (op1, wh1)) hfr]
          exact ih7 (i + 1) op1 (upd wh1 i (-1)) (by omega) (hw') (by omega) _ _ hP10 hD10 hS10 _ (lv_sub hl11 [2, 3, 0] rfl)
        · rw [hfr]
          refine lv_istore_n (lv' := [(3, .int (nI t)), (0, .ref (q 0)), (1, .ref b), (2, .int (nI i))]) hx hb dX6_lays_17 rfl hl4 (by decide) rfl (fun ls12 hl12 => ?_)
          clear hl4
          refine lv_iload_n hx hb dX6_lays_18 rfl (lv_at hl12 0 rfl) ?_
          refine lv_iconst (v := (-1)) hx hb dX6_lays_19 (by decide) ?_
          refine lv_icmp_ne (tgt := 33) hx hb dX6_lays_20 (by decide) (fun c13 => ?_) (fun c13 => absurd c13 (nI_nm1 (by omega)))
          refine lv_aload_n hx hb dX6_lays_33 rfl (lv_at hl12 2 rfl) ?_
          refine lv_iload_n hx hb dX6_lays_34 rfl (lv_at hl12 0 rfl) ?_
          have hPc14 : va_P D vwCl (fl [aW T 0 b 111 a]) _ := hP7.sub [1] rfl
          refine cr_i (va_runS (As := [.ref b, .int (nI t)]) (rest := []) ⟨hx, hb, hml, hown, hts⟩ (c_X6_source l D T b a t (by omega)) (mkS hts okX6_source kw_794 kw_795 ⟨rfl, rfl, Nat.le_of_ble_eq_true rfl, Nat.le_of_ble_eq_true rfl⟩) (ps_ro hK hPc14) rfl rfl hl12.1 rfl (lv_room (Nat.le_of_ble_eq_true rfl)) dX6_lays_35 ⟨Nat.le_of_ble_eq_true rfl, Nat.le_of_ble_eq_true rfl⟩) hP7 hS7 (fun r_35 H15 locs15 hq_35 hP15 hS15 => ?_)
          clear hP7 hS7 hPc14
          have hD15 := hD7
          clear hD7
          have hq_35 : r_35 = srcM a t := hq_35
          subst hq_35
          rcases srcM_or a t with hsr | ⟨hsr, hs0⟩
          · rw [hsr]
            refine lv_istore (lv' := [(4, .int (-1)), (3, .int (nI t)), (0, .ref (q 0)), (1, .ref b), (2, .int (nI i))]) hx hb dX6_lays_38 hl12 (by decide) rfl (fun ls16 hl16 => ?_)
            clear hl12
            refine lv_aload_n hx hb dX6_lays_40 rfl (lv_at hl16 2 rfl) ?_
            refine r_get (own := RX6) (C := RX6) (F := TX6) (N := 12) (ci := 6) (v := .int op1) hx hb hK hts in_X6 hown hP15 0 rfl rfl 11 (by decide) kw_681 rfl dX6_lays_41 ?_
            refine lv_iload_n hx hb dX6_lays_44 rfl (lv_at hl16 1 rfl) ?_
            refine lv_ishr hx hb dX6_lays_45 ?_
            refine lv_iconst (v := nI 1) hx hb dX6_lays_46 (by decide) ?_
            refine lv_iand hx hb dX6_lays_47 ?_
            refine lv_iconst (v := nI 1) hx hb dX6_lays_48 (by decide) ?_
            refine lv_icmp_ne (tgt := 56) hx hb dX6_lays_49 (by decide) (fun c_49 => ?_) (fun c_49 => ?_)
            · skip
              refine lv_iconst (v := nI 0) hx hb dX6_lays_56 (by decide) ?_
              refine lv_istore (lv' := [(5, .int (nI 0)), (4, .int (-1)), (3, .int (nI t)), (0, .ref (q 0)), (1, .ref b), (2, .int (nI i))]) hx hb dX6_lays_57 hl16 (by decide) rfl (fun ls18 hl18 => ?_)
              clear hl16
              refine lv_aload_n hx hb dX6_lays_59 rfl (lv_at hl18 4 rfl) ?_
              refine lv_iload_n hx hb dX6_lays_60 rfl (lv_at hl18 2 rfl) ?_
              refine lv_aload_n hx hb dX6_lays_61 rfl (lv_at hl18 3 rfl) ?_
              refine r_get (own := RX6) (C := RX6) (F := TX6) (N := 12) (ci := 6) (v := .int op1) hx hb hK hts in_X6 hown hP15 0 rfl rfl 11 (by decide) kw_681 rfl dX6_lays_62 ?_
              refine lv_iconst (v := nI 1) hx hb dX6_lays_65 (by decide) ?_
              refine lv_iload_n hx hb dX6_lays_66 rfl (lv_at hl18 2 rfl) ?_
              refine lv_ishl hx hb dX6_lays_67 ?_
              refine lv_ior hx hb dX6_lays_68 ?_
              have hPc19 : va_P D vwCl (fl [aW T 0 b 111 a]) _ := hP15.sub [1] rfl
              refine cr_i (va_runS (As := [.ref b, .int (nI t), .int (op1 ||| ((nI 1) <<< ((nI t) &&& 31)))]) (rest := []) ⟨hx, hb, hml, hown, hts⟩ (c_X6_pressureAt l D T b a t (op1 ||| ((nI 1) <<< ((nI t) &&& 31))) (by omega)) (mkS hts okX6_pressureAt kw_797 kw_798 ⟨rfl, rfl, Nat.le_of_ble_eq_true rfl, Nat.le_of_ble_eq_true rfl⟩) (ps_ro hK hPc19) rfl rfl hl18.1 rfl (lv_room (Nat.le_of_ble_eq_true rfl)) dX6_lays_69 ⟨Nat.le_of_ble_eq_true rfl, Nat.le_of_ble_eq_true rfl⟩) hP15 hS15 (fun r_69 H20 locs20 hq_69 hP20 hS20 => ?_)
              clear hP15 hS15 hPc19
              have hD20 := hD15
              clear hD15
              have hq_69 : r_69 = prM a (op1 ||| ((nI 1) <<< ((nI t) &&& 31))) t := hq_69
              subst hq_69
              refine lv_aload_n hx hb dX6_lays_72 rfl (lv_at hl18 4 rfl) ?_
              refine lv_iconst (v := nI 1) hx hb dX6_lays_73 (by decide) ?_
              refine r_iald hx hb hK hP20 1 (f := a) (n := 111) rfl 1 (by decide) dX6_lays_74 (by decide) ?_
              refine lv_icmp_ge (tgt := 82) hx hb dX6_lays_75 (by decide) (fun c_75 => ?_) (fun c_75 => ?_)
              · skip
                refine lv_iconst (v := nI 0) hx hb dX6_lays_82 (by decide) ?_
                refine lv_istore (lv' := [(6, .int (nI 0)), (5, .int (nI 0)), (4, .int (-1)), (3, .int (nI t)), (0, .ref (q 0)), (1, .ref b), (2, .int (nI i))]) hx hb dX6_lays_83 hl18 (by decide) rfl (fun ls22 hl22 => ?_)
                clear hl18
                refine lv_aload_n hx hb dX6_lays_85 rfl (lv_at hl22 4 rfl) ?_
                refine r_get (own := RX6) (C := RX6) (F := TX6) (N := 12) (ci := 6) (v := .ref (q 6)) hx hb hK hts in_X6 hown hP20 0 rfl rfl 10 (by decide) kw_680 rfl dX6_lays_86 ?_
                refine lv_iload_n hx hb dX6_lays_89 rfl (lv_at hl22 6 rfl) ?_
                refine lv_iload hx hb dX6_lays_90 (lv_at hl22 1 rfl) ?_
                refine n_if_eq (tgt := 99) hx hb (by omega) dX6_lays_92 (by decide) (fun c23 => ?_) (fun c23 => absurd (by decide) c23)
                refine lv_iload hx hb dX6_lays_99 (lv_at hl22 0 rfl) ?_
                refine n_if_eq (tgt := 108) hx hb (by omega) dX6_lays_101 (by decide) (fun c24 => ?_) (fun c24 => absurd (by decide) c24)
                refine lv_iload hx hb dX6_lays_108 (lv_at hl22 2 rfl) ?_
                refine lv_iconst (v := (-1)) hx hb dX6_lays_110 (by decide) ?_
                refine lv_icmp_eq (tgt := 127) hx hb dX6_lays_111 (by decide) (fun c25 => ?_) (fun c25 => absurd (rfl) c25)
                refine lv_iconst (v := nI 0) hx hb dX6_lays_127 (by decide) ?_
                refine r_iast hx hb hK hP20 hD20 hS20 2 (f := wh1) (n := 3) rfl i (by decide) dX6_lays_128 (by omega) (fun (H26 : Heap) (locs26 : List Loc) (hP26 : va_P D vwCl (fl [mO q (nI kp) (nI ty) th (nI at_) isF op1, aW T 0 b 111 a, aW T 0 (q 6) 3 (upd wh1 i (nI 0))]) H26) (hD26 : va_D A (fl [mO q (nI kp) (nI ty) th (nI at_) isF op1, aW T 0 b 111 a, aW T 0 (q 6) 3 (upd wh1 i (nI 0))])) hS26 => ?_)
                clear hP20 hD20 hS20
                refine lv_aload_n hx hb dX6_lays_129 rfl (lv_at hl22 4 rfl) ?_
                refine lv_dup hx hb dX6_lays_130 rfl ?_
                refine r_get (own := RX6) (C := RX6) (F := TX6) (N := 12) (ci := 6) (v := .int op1) hx hb hK hts in_X6 hown hP26 0 rfl rfl 11 (by decide) kw_681 rfl dX6_lays_131 ?_
                refine lv_aload_n hx hb dX6_lays_134 rfl (lv_at hl22 4 rfl) ?_
                refine r_get (own := RX6) (C := RX6) (F := TX6) (N := 12) (ci := 6) (v := .ref (q 6)) hx hb hK hts in_X6 hown hP26 0 rfl rfl 10 (by decide) kw_680 rfl dX6_lays_135 ?_
                refine lv_iload_n hx hb dX6_lays_138 rfl (lv_at hl22 6 rfl) ?_
                refine r_iald hx hb hK hP26 2 (f := (upd wh1 i (nI 0))) (n := 3) rfl i (by decide) dX6_lays_139 (by omega) ?_
                refine tp_i (y := nI 0) (pk_us) ?_
                refine n_if_ne (tgt := 149) hx hb (by omega) dX6_lays_140 (by decide) (fun c27 => absurd c27 (by decide)) (fun c27 => ?_)
                refine lv_iconst (v := nI 1) hx hb dX6_lays_143 (by decide) ?_
                refine lv_iload_n hx hb dX6_lays_144 rfl (lv_at hl22 3 rfl) ?_
                refine lv_ishl hx hb dX6_lays_145 ?_
                refine lv_goto (tgt := 150) hx hb dX6_lays_146 (by decide) ?_
                refine lv_ior hx hb dX6_lays_150 ?_
                refine r_put (own := RX6) (C := RX6) (F := TX6) (N := 12) (ci := 6) (v := op1 ||| ((nI 1) <<< ((nI t) &&& 31))) hx hb hK hts in_X6 tyX6 tyX6_ok nmX6 hown hP26 hD26 hS26 0 rfl rfl 11 (by decide) kw_681 rfl rfl (Nat.le_of_ble_eq_true rfl) dX6_lays_151 (fun (H28 : Heap) (locs28 : List Loc) (hP28 : va_P D vwCl (fl [mO q (nI kp) (nI ty) th (nI at_) isF (op1 ||| ((nI 1) <<< ((nI t) &&& 31))), aW T 0 b 111 a, aW T 0 (q 6) 3 (upd wh1 i (nI 0))]) H28) (hD28 : va_D A (fl [mO q (nI kp) (nI ty) th (nI at_) isF (op1 ||| ((nI 1) <<< ((nI t) &&& 31))), aW T 0 b 111 a, aW T 0 (q 6) 3 (upd wh1 i (nI 0))])) hS28 => ?_)
                clear hP26 hD26 hS26
                refine lv_iinc (v := nI (i + 1)) (lv' := [(2, .int (nI (i + 1))), (6, .int (nI 0)), (5, .int (nI 0)), (4, .int (-1)), (3, .int (nI t)), (0, .ref (q 0)), (1, .ref b)]) hx hb dX6_lays_154 hl22 (k := 6) rfl (nI_add i 1) (by decide) rfl (fun ls29 hl29 => ?_)
                clear hl22
                refine lv_goto (tgt := 7) hx hb dX6_lays_157 (by decide) ?_
                have hy : whyM a op1 t = nI 0 := by simp only [whyM, bitM, hsr, c_9, c_49, c_75, if_true, ↓reduceIte, Bool.false_eq_true, nI_nm1 (show t - 1 < 2147483648 by omega)]
                have hw' : (op1 ||| ((nI 1) <<< ((nI t) &&& 31)), upd wh1 i (nI 0)) = laI a wh (i + 1) := by rw [laI, ← hw, laS_t (w := (op1, wh1)) hfr ht, hy, if_pos (show nI 0 = 0 by decide)]
                exact ih7 (i + 1) (op1 ||| ((nI 1) <<< ((nI t) &&& 31))) (upd wh1 i (nI 0)) (by omega) (hw') (by omega) _ _ hP28 hD28 hS28 _ (lv_sub hl29 [5, 6, 0] rfl)
              · skip
                refine lv_iconst (v := nI 1) hx hb dX6_lays_78 (by decide) ?_
                refine lv_goto (tgt := 83) hx hb dX6_lays_79 (by decide) ?_
                refine lv_istore (lv' := [(6, .int (nI 1)), (5, .int (nI 0)), (4, .int (-1)), (3, .int (nI t)), (0, .ref (q 0)), (1, .ref b), (2, .int (nI i))]) hx hb dX6_lays_83 hl18 (by decide) rfl (fun ls30 hl30 => ?_)
                clear hl18
                refine lv_aload_n hx hb dX6_lays_85 rfl (lv_at hl30 4 rfl) ?_
                refine r_get (own := RX6) (C := RX6) (F := TX6) (N := 12) (ci := 6) (v := .ref (q 6)) hx hb hK hts in_X6 hown hP20 0 rfl rfl 10 (by decide) kw_680 rfl dX6_lays_86 ?_
                refine lv_iload_n hx hb dX6_lays_89 rfl (lv_at hl30 6 rfl) ?_
                refine lv_iload hx hb dX6_lays_90 (lv_at hl30 1 rfl) ?_
                refine n_if_eq (tgt := 99) hx hb (by omega) dX6_lays_92 (by decide) (fun c31 => ?_) (fun c31 => absurd (by decide) c31)
                refine lv_iload hx hb dX6_lays_99 (lv_at hl30 0 rfl) ?_
                refine n_if_eq (tgt := 108) hx hb (by omega) dX6_lays_101 (by decide) (fun c32 => absurd c32 (by decide)) (fun c32 => ?_)
                refine lv_iconst (v := nI 2) hx hb dX6_lays_104 (by decide) ?_
                refine lv_goto (tgt := 128) hx hb dX6_lays_105 (by decide) ?_
                refine r_iast hx hb hK hP20 hD20 hS20 2 (f := wh1) (n := 3) rfl i (by decide) dX6_lays_128 (by omega) (fun (H33 : Heap) (locs33 : List Loc) (hP33 : va_P D vwCl (fl [mO q (nI kp) (nI ty) th (nI at_) isF op1, aW T 0 b 111 a, aW T 0 (q 6) 3 (upd wh1 i (nI 2))]) H33) (hD33 : va_D A (fl [mO q (nI kp) (nI ty) th (nI at_) isF op1, aW T 0 b 111 a, aW T 0 (q 6) 3 (upd wh1 i (nI 2))])) hS33 => ?_)
                clear hP20 hD20 hS20
                refine lv_aload_n hx hb dX6_lays_129 rfl (lv_at hl30 4 rfl) ?_
                refine lv_dup hx hb dX6_lays_130 rfl ?_
                refine r_get (own := RX6) (C := RX6) (F := TX6) (N := 12) (ci := 6) (v := .int op1) hx hb hK hts in_X6 hown hP33 0 rfl rfl 11 (by decide) kw_681 rfl dX6_lays_131 ?_
                refine lv_aload_n hx hb dX6_lays_134 rfl (lv_at hl30 4 rfl) ?_
                refine r_get (own := RX6) (C := RX6) (F := TX6) (N := 12) (ci := 6) (v := .ref (q 6)) hx hb hK hts in_X6 hown hP33 0 rfl rfl 10 (by decide) kw_680 rfl dX6_lays_135 ?_
                refine lv_iload_n hx hb dX6_lays_138 rfl (lv_at hl30 6 rfl) ?_
                refine r_iald hx hb hK hP33 2 (f := (upd wh1 i (nI 2))) (n := 3) rfl i (by decide) dX6_lays_139 (by omega) ?_
                refine tp_i (y := nI 2) (pk_us) ?_
                refine n_if_ne (tgt := 149) hx hb (by omega) dX6_lays_140 (by decide) (fun c34 => ?_) (fun c34 => absurd c34 (by decide))
                refine lv_iconst (v := nI 0) hx hb dX6_lays_149 (by decide) ?_
                refine lv_ior hx hb dX6_lays_150 ?_
                refine r_put (own := RX6) (C := RX6) (F := TX6) (N := 12) (ci := 6) (v := op1 ||| (nI 0)) hx hb hK hts in_X6 tyX6 tyX6_ok nmX6 hown hP33 hD33 hS33 0 rfl rfl 11 (by decide) kw_681 rfl rfl (Nat.le_of_ble_eq_true rfl) dX6_lays_151 (fun (H35 : Heap) (locs35 : List Loc) (hP35 : va_P D vwCl (fl [mO q (nI kp) (nI ty) th (nI at_) isF (op1 ||| (nI 0)), aW T 0 b 111 a, aW T 0 (q 6) 3 (upd wh1 i (nI 2))]) H35) (hD35 : va_D A (fl [mO q (nI kp) (nI ty) th (nI at_) isF (op1 ||| (nI 0)), aW T 0 b 111 a, aW T 0 (q 6) 3 (upd wh1 i (nI 2))])) hS35 => ?_)
                clear hP33 hD33 hS33
                refine lv_iinc (v := nI (i + 1)) (lv' := [(2, .int (nI (i + 1))), (6, .int (nI 1)), (5, .int (nI 0)), (4, .int (-1)), (3, .int (nI t)), (0, .ref (q 0)), (1, .ref b)]) hx hb dX6_lays_154 hl30 (k := 6) rfl (nI_add i 1) (by decide) rfl (fun ls36 hl36 => ?_)
                clear hl30
                refine lv_goto (tgt := 7) hx hb dX6_lays_157 (by decide) ?_
                have hy : whyM a op1 t = nI 2 := by simp only [whyM, bitM, hsr, c_9, c_49, c_75, if_true, ↓reduceIte, Bool.false_eq_true, nI_nm1 (show t - 1 < 2147483648 by omega)]
                have hw' : (op1 ||| (nI 0), upd wh1 i (nI 2)) = laI a wh (i + 1) := by rw [laI, ← hw, laS_t (w := (op1, wh1)) hfr ht, hy, if_neg (show ¬ nI 2 = 0 by decide)]
                exact ih7 (i + 1) (op1 ||| (nI 0)) (upd wh1 i (nI 2)) (by omega) (hw') (by omega) _ _ hP35 hD35 hS35 _ (lv_sub hl36 [5, 6, 0] rfl)
            · skip
              refine lv_iconst (v := nI 1) hx hb dX6_lays_52 (by decide) ?_
              refine lv_goto (tgt := 57) hx hb dX6_lays_53 (by decide) ?_
              refine lv_istore (lv' := [(5, .int (nI 1)), (4, .int (-1)), (3, .int (nI t)), (0, .ref (q 0)), (1, .ref b), (2, .int (nI i))]) hx hb dX6_lays_57 hl16 (by decide) rfl (fun ls37 hl37 => ?_)
              clear hl16
              refine lv_aload_n hx hb dX6_lays_59 rfl (lv_at hl37 4 rfl) ?_
              refine lv_iload_n hx hb dX6_lays_60 rfl (lv_at hl37 2 rfl) ?_
              refine lv_aload_n hx hb dX6_lays_61 rfl (lv_at hl37 3 rfl) ?_
              refine r_get (own := RX6) (C := RX6) (F := TX6) (N := 12) (ci := 6) (v := .int op1) hx hb hK hts in_X6 hown hP15 0 rfl rfl 11 (by decide) kw_681 rfl dX6_lays_62 ?_
              refine lv_iconst (v := nI 1) hx hb dX6_lays_65 (by decide) ?_
              refine lv_iload_n hx hb dX6_lays_66 rfl (lv_at hl37 2 rfl) ?_
              refine lv_ishl hx hb dX6_lays_67 ?_
              refine lv_ior hx hb dX6_lays_68 ?_
              have hPc38 : va_P D vwCl (fl [aW T 0 b 111 a]) _ := hP15.sub [1] rfl
              refine cr_i (va_runS (As := [.ref b, .int (nI t), .int (op1 ||| ((nI 1) <<< ((nI t) &&& 31)))]) (rest := []) ⟨hx, hb, hml, hown, hts⟩ (c_X6_pressureAt l D T b a t (op1 ||| ((nI 1) <<< ((nI t) &&& 31))) (by omega)) (mkS hts okX6_pressureAt kw_797 kw_798 ⟨rfl, rfl, Nat.le_of_ble_eq_true rfl, Nat.le_of_ble_eq_true rfl⟩) (ps_ro hK hPc38) rfl rfl hl37.1 rfl (lv_room (Nat.le_of_ble_eq_true rfl)) dX6_lays_69 ⟨Nat.le_of_ble_eq_true rfl, Nat.le_of_ble_eq_true rfl⟩) hP15 hS15 (fun r_69 H39 locs39 hq_69 hP39 hS39 => ?_)
              clear hP15 hS15 hPc38
              have hD39 := hD15
              clear hD15
              have hq_69 : r_69 = prM a (op1 ||| ((nI 1) <<< ((nI t) &&& 31))) t := hq_69
              subst hq_69
              refine lv_aload_n hx hb dX6_lays_72 rfl (lv_at hl37 4 rfl) ?_
              refine lv_iconst (v := nI 1) hx hb dX6_lays_73 (by decide) ?_
              refine r_iald hx hb hK hP39 1 (f := a) (n := 111) rfl 1 (by decide) dX6_lays_74 (by decide) ?_
              refine lv_icmp_ge (tgt := 82) hx hb dX6_lays_75 (by decide) (fun c_75 => ?_) (fun c_75 => ?_)
              · skip
                refine lv_iconst (v := nI 0) hx hb dX6_lays_82 (by decide) ?_
                refine lv_istore (lv' := [(6, .int (nI 0)), (5, .int (nI 1)), (4, .int (-1)), (3, .int (nI t)), (0, .ref (q 0)), (1, .ref b), (2, .int (nI i))]) hx hb dX6_lays_83 hl37 (by decide) rfl (fun ls41 hl41 => ?_)
                clear hl37
                refine lv_aload_n hx hb dX6_lays_85 rfl (lv_at hl41 4 rfl) ?_
                refine r_get (own := RX6) (C := RX6) (F := TX6) (N := 12) (ci := 6) (v := .ref (q 6)) hx hb hK hts in_X6 hown hP39 0 rfl rfl 10 (by decide) kw_680 rfl dX6_lays_86 ?_
                refine lv_iload_n hx hb dX6_lays_89 rfl (lv_at hl41 6 rfl) ?_
                refine lv_iload hx hb dX6_lays_90 (lv_at hl41 1 rfl) ?_
                refine n_if_eq (tgt := 99) hx hb (by omega) dX6_lays_92 (by decide) (fun c42 => absurd c42 (by decide)) (fun c42 => ?_)
                refine lv_iconst (v := nI 1) hx hb dX6_lays_95 (by decide) ?_
                refine lv_goto (tgt := 128) hx hb dX6_lays_96 (by decide) ?_
                refine r_iast hx hb hK hP39 hD39 hS39 2 (f := wh1) (n := 3) rfl i (by decide) dX6_lays_128 (by omega) (fun (H43 : Heap) (locs43 : List Loc) (hP43 : va_P D vwCl (fl [mO q (nI kp) (nI ty) th (nI at_) isF op1, aW T 0 b 111 a, aW T 0 (q 6) 3 (upd wh1 i (nI 1))]) H43) (hD43 : va_D A (fl [mO q (nI kp) (nI ty) th (nI at_) isF op1, aW T 0 b 111 a, aW T 0 (q 6) 3 (upd wh1 i (nI 1))])) hS43 => ?_)
                clear hP39 hD39 hS39
                refine lv_aload_n hx hb dX6_lays_129 rfl (lv_at hl41 4 rfl) ?_
                refine lv_dup hx hb dX6_lays_130 rfl ?_
                refine r_get (own := RX6) (C := RX6) (F := TX6) (N := 12) (ci := 6) (v := .int op1) hx hb hK hts in_X6 hown hP43 0 rfl rfl 11 (by decide) kw_681 rfl dX6_lays_131 ?_
                refine lv_aload_n hx hb dX6_lays_134 rfl (lv_at hl41 4 rfl) ?_
                refine r_get (own := RX6) (C := RX6) (F := TX6) (N := 12) (ci := 6) (v := .ref (q 6)) hx hb hK hts in_X6 hown hP43 0 rfl rfl 10 (by decide) kw_680 rfl dX6_lays_135 ?_
                refine lv_iload_n hx hb dX6_lays_138 rfl (lv_at hl41 6 rfl) ?_
                refine r_iald hx hb hK hP43 2 (f := (upd wh1 i (nI 1))) (n := 3) rfl i (by decide) dX6_lays_139 (by omega) ?_
                refine tp_i (y := nI 1) (pk_us) ?_
                refine n_if_ne (tgt := 149) hx hb (by omega) dX6_lays_140 (by decide) (fun c44 => ?_) (fun c44 => absurd c44 (by decide))
                refine lv_iconst (v := nI 0) hx hb dX6_lays_149 (by decide) ?_
                refine lv_ior hx hb dX6_lays_150 ?_
                refine r_put (own := RX6) (C := RX6) (F := TX6) (N := 12) (ci := 6) (v := op1 ||| (nI 0)) hx hb hK hts in_X6 tyX6 tyX6_ok nmX6 hown hP43 hD43 hS43 0 rfl rfl 11 (by decide) kw_681 rfl rfl (Nat.le_of_ble_eq_true rfl) dX6_lays_151 (fun (H45 : Heap) (locs45 : List Loc) (hP45 : va_P D vwCl (fl [mO q (nI kp) (nI ty) th (nI at_) isF (op1 ||| (nI 0)), aW T 0 b 111 a, aW T 0 (q 6) 3 (upd wh1 i (nI 1))]) H45) (hD45 : va_D A (fl [mO q (nI kp) (nI ty) th (nI at_) isF (op1 ||| (nI 0)), aW T 0 b 111 a, aW T 0 (q 6) 3 (upd wh1 i (nI 1))])) hS45 => ?_)
                clear hP43 hD43 hS43
                refine lv_iinc (v := nI (i + 1)) (lv' := [(2, .int (nI (i + 1))), (6, .int (nI 0)), (5, .int (nI 1)), (4, .int (-1)), (3, .int (nI t)), (0, .ref (q 0)), (1, .ref b)]) hx hb dX6_lays_154 hl41 (k := 6) rfl (nI_add i 1) (by decide) rfl (fun ls46 hl46 => ?_)
                clear hl41
                refine lv_goto (tgt := 7) hx hb dX6_lays_157 (by decide) ?_
                have hy : whyM a op1 t = nI 1 := by simp only [whyM, bitM, hsr, c_9, c_49, c_75, if_true, ↓reduceIte, Bool.false_eq_true, nI_nm1 (show t - 1 < 2147483648 by omega)]
                have hw' : (op1 ||| (nI 0), upd wh1 i (nI 1)) = laI a wh (i + 1) := by rw [laI, ← hw, laS_t (w := (op1, wh1)) hfr ht, hy, if_neg (show ¬ nI 1 = 0 by decide)]
                exact ih7 (i + 1) (op1 ||| (nI 0)) (upd wh1 i (nI 1)) (by omega) (hw') (by omega) _ _ hP45 hD45 hS45 _ (lv_sub hl46 [5, 6, 0] rfl)
              · skip
                refine lv_iconst (v := nI 1) hx hb dX6_lays_78 (by decide) ?_
                refine lv_goto (tgt := 83) hx hb dX6_lays_79 (by decide) ?_
                refine lv_istore (lv' := [(6, .int (nI 1)), (5, .int (nI 1)), (4, .int (-1)), (3, .int (nI t)), (0, .ref (q 0)), (1, .ref b), (2, .int (nI i))]) hx hb dX6_lays_83 hl37 (by decide) rfl (fun ls47 hl47 => ?_)
                clear hl37
                refine lv_aload_n hx hb dX6_lays_85 rfl (lv_at hl47 4 rfl) ?_
                refine r_get (own := RX6) (C := RX6) (F := TX6) (N := 12) (ci := 6) (v := .ref (q 6)) hx hb hK hts in_X6 hown hP39 0 rfl rfl 10 (by decide) kw_680 rfl dX6_lays_86 ?_
                refine lv_iload_n hx hb dX6_lays_89 rfl (lv_at hl47 6 rfl) ?_
                refine lv_iload hx hb dX6_lays_90 (lv_at hl47 1 rfl) ?_
                refine n_if_eq (tgt := 99) hx hb (by omega) dX6_lays_92 (by decide) (fun c48 => absurd c48 (by decide)) (fun c48 => ?_)
                refine lv_iconst (v := nI 1) hx hb dX6_lays_95 (by decide) ?_
                refine lv_goto (tgt := 128) hx hb dX6_lays_96 (by decide) ?_
                refine r_iast hx hb hK hP39 hD39 hS39 2 (f := wh1) (n := 3) rfl i (by decide) dX6_lays_128 (by omega) (fun (H49 : Heap) (locs49 : List Loc) (hP49 : va_P D vwCl (fl [mO q (nI kp) (nI ty) th (nI at_) isF op1, aW T 0 b 111 a, aW T 0 (q 6) 3 (upd wh1 i (nI 1))]) H49) (hD49 : va_D A (fl [mO q (nI kp) (nI ty) th (nI at_) isF op1, aW T 0 b 111 a, aW T 0 (q 6) 3 (upd wh1 i (nI 1))])) hS49 => ?_)
                clear hP39 hD39 hS39
                refine lv_aload_n hx hb dX6_lays_129 rfl (lv_at hl47 4 rfl) ?_
                refine lv_dup hx hb dX6_lays_130 rfl ?_
                refine r_get (own := RX6) (C := RX6) (F := TX6) (N := 12) (ci := 6) (v := .int op1) hx hb hK hts in_X6 hown hP49 0 rfl rfl 11 (by decide) kw_681 rfl dX6_lays_131 ?_
                refine lv_aload_n hx hb dX6_lays_134 rfl (lv_at hl47 4 rfl) ?_
                refine r_get (own := RX6) (C := RX6) (F := TX6) (N := 12) (ci := 6) (v := .ref (q 6)) hx hb hK hts in_X6 hown hP49 0 rfl rfl 10 (by decide) kw_680 rfl dX6_lays_135 ?_
                refine lv_iload_n hx hb dX6_lays_138 rfl (lv_at hl47 6 rfl) ?_
                refine r_iald hx hb hK hP49 2 (f := (upd wh1 i (nI 1))) (n := 3) rfl i (by decide) dX6_lays_139 (by omega) ?_
                refine tp_i (y := nI 1) (pk_us) ?_
                refine n_if_ne (tgt := 149) hx hb (by omega) dX6_lays_140 (by decide) (fun c50 => ?_) (fun c50 => absurd c50 (by decide))
                refine lv_iconst (v := nI 0) hx hb dX6_lays_149 (by decide) ?_
                refine lv_ior hx hb dX6_lays_150 ?_
                refine r_put (own := RX6) (C := RX6) (F := TX6) (N := 12) (ci := 6) (v := op1 ||| (nI 0)) hx hb hK hts in_X6 tyX6 tyX6_ok nmX6 hown hP49 hD49 hS49 0 rfl rfl 11 (by decide) kw_681 rfl rfl (Nat.le_of_ble_eq_true rfl) dX6_lays_151 (fun (H51 : Heap) (locs51 : List Loc) (hP51 : va_P D vwCl (fl [mO q (nI kp) (nI ty) th (nI at_) isF (op1 ||| (nI 0)), aW T 0 b 111 a, aW T 0 (q 6) 3 (upd wh1 i (nI 1))]) H51) (hD51 : va_D A (fl [mO q (nI kp) (nI ty) th (nI at_) isF (op1 ||| (nI 0)), aW T 0 b 111 a, aW T 0 (q 6) 3 (upd wh1 i (nI 1))])) hS51 => ?_)
                clear hP49 hD49 hS49
                refine lv_iinc (v := nI (i + 1)) (lv' := [(2, .int (nI (i + 1))), (6, .int (nI 1)), (5, .int (nI 1)), (4, .int (-1)), (3, .int (nI t)), (0, .ref (q 0)), (1, .ref b)]) hx hb dX6_lays_154 hl47 (k := 6) rfl (nI_add i 1) (by decide) rfl (fun ls52 hl52 => ?_)
                clear hl47
                refine lv_goto (tgt := 7) hx hb dX6_lays_157 (by decide) ?_
                have hy : whyM a op1 t = nI 1 := by simp only [whyM, bitM, hsr, c_9, c_49, c_75, if_true, ↓reduceIte, Bool.false_eq_true, nI_nm1 (show t - 1 < 2147483648 by omega)]
                have hw' : (op1 ||| (nI 0), upd wh1 i (nI 1)) = laI a wh (i + 1) := by rw [laI, ← hw, laS_t (w := (op1, wh1)) hfr ht, hy, if_neg (show ¬ nI 1 = 0 by decide)]
                exact ih7 (i + 1) (op1 ||| (nI 0)) (upd wh1 i (nI 1)) (by omega) (hw') (by omega) _ _ hP51 hD51 hS51 _ (lv_sub hl52 [5, 6, 0] rfl)
          · rw [hsr]
            refine lv_istore (lv' := [(4, .int (nI (t - 1))), (3, .int (nI t)), (0, .ref (q 0)), (1, .ref b), (2, .int (nI i))]) hx hb dX6_lays_38 hl12 (by decide) rfl (fun ls53 hl53 => ?_)
            clear hl12
            refine lv_aload_n hx hb dX6_lays_40 rfl (lv_at hl53 2 rfl) ?_
            refine r_get (own := RX6) (C := RX6) (F := TX6) (N := 12) (ci := 6) (v := .int op1) hx hb hK hts in_X6 hown hP15 0 rfl rfl 11 (by decide) kw_681 rfl dX6_lays_41 ?_
            refine lv_iload_n hx hb dX6_lays_44 rfl (lv_at hl53 1 rfl) ?_
            refine lv_ishr hx hb dX6_lays_45 ?_
            refine lv_iconst (v := nI 1) hx hb dX6_lays_46 (by decide) ?_
            refine lv_iand hx hb dX6_lays_47 ?_
            refine lv_iconst (v := nI 1) hx hb dX6_lays_48 (by decide) ?_
            refine lv_icmp_ne (tgt := 56) hx hb dX6_lays_49 (by decide) (fun c_49 => ?_) (fun c_49 => ?_)
            · skip
              refine lv_iconst (v := nI 0) hx hb dX6_lays_56 (by decide) ?_
              refine lv_istore (lv' := [(5, .int (nI 0)), (4, .int (nI (t - 1))), (3, .int (nI t)), (0, .ref (q 0)), (1, .ref b), (2, .int (nI i))]) hx hb dX6_lays_57 hl53 (by decide) rfl (fun ls55 hl55 => ?_)
              clear hl53
              refine lv_aload_n hx hb dX6_lays_59 rfl (lv_at hl55 4 rfl) ?_
              refine lv_iload_n hx hb dX6_lays_60 rfl (lv_at hl55 2 rfl) ?_
              refine lv_aload_n hx hb dX6_lays_61 rfl (lv_at hl55 3 rfl) ?_
              refine r_get (own := RX6) (C := RX6) (F := TX6) (N := 12) (ci := 6) (v := .int op1) hx hb hK hts in_X6 hown hP15 0 rfl rfl 11 (by decide) kw_681 rfl dX6_lays_62 ?_
              refine lv_iconst (v := nI 1) hx hb dX6_lays_65 (by decide) ?_
              refine lv_iload_n hx hb dX6_lays_66 rfl (lv_at hl55 2 rfl) ?_
              refine lv_ishl hx hb dX6_lays_67 ?_
              refine lv_ior hx hb dX6_lays_68 ?_
              have hPc56 : va_P D vwCl (fl [aW T 0 b 111 a]) _ := hP15.sub [1] rfl
              refine cr_i (va_runS (As := [.ref b, .int (nI t), .int (op1 ||| ((nI 1) <<< ((nI t) &&& 31)))]) (rest := []) ⟨hx, hb, hml, hown, hts⟩ (c_X6_pressureAt l D T b a t (op1 ||| ((nI 1) <<< ((nI t) &&& 31))) (by omega)) (mkS hts okX6_pressureAt kw_797 kw_798 ⟨rfl, rfl, Nat.le_of_ble_eq_true rfl, Nat.le_of_ble_eq_true rfl⟩) (ps_ro hK hPc56) rfl rfl hl55.1 rfl (lv_room (Nat.le_of_ble_eq_true rfl)) dX6_lays_69 ⟨Nat.le_of_ble_eq_true rfl, Nat.le_of_ble_eq_true rfl⟩) hP15 hS15 (fun r_69 H57 locs57 hq_69 hP57 hS57 => ?_)
              clear hP15 hS15 hPc56
              have hD57 := hD15
              clear hD15
              have hq_69 : r_69 = prM a (op1 ||| ((nI 1) <<< ((nI t) &&& 31))) t := hq_69
              subst hq_69
              refine lv_aload_n hx hb dX6_lays_72 rfl (lv_at hl55 4 rfl) ?_
              refine lv_iconst (v := nI 1) hx hb dX6_lays_73 (by decide) ?_
              refine r_iald hx hb hK hP57 1 (f := a) (n := 111) rfl 1 (by decide) dX6_lays_74 (by decide) ?_
              refine lv_icmp_ge (tgt := 82) hx hb dX6_lays_75 (by decide) (fun c_75 => ?_) (fun c_75 => ?_)
              · skip
                refine lv_iconst (v := nI 0) hx hb dX6_lays_82 (by decide) ?_
                refine lv_istore (lv' := [(6, .int (nI 0)), (5, .int (nI 0)), (4, .int (nI (t - 1))), (3, .int (nI t)), (0, .ref (q 0)), (1, .ref b), (2, .int (nI i))]) hx hb dX6_lays_83 hl55 (by decide) rfl (fun ls59 hl59 => ?_)
                clear hl55
                refine lv_aload_n hx hb dX6_lays_85 rfl (lv_at hl59 4 rfl) ?_
                refine r_get (own := RX6) (C := RX6) (F := TX6) (N := 12) (ci := 6) (v := .ref (q 6)) hx hb hK hts in_X6 hown hP57 0 rfl rfl 10 (by decide) kw_680 rfl dX6_lays_86 ?_
                refine lv_iload_n hx hb dX6_lays_89 rfl (lv_at hl59 6 rfl) ?_
                refine lv_iload hx hb dX6_lays_90 (lv_at hl59 1 rfl) ?_
                refine n_if_eq (tgt := 99) hx hb (by omega) dX6_lays_92 (by decide) (fun c60 => ?_) (fun c60 => absurd (by decide) c60)
                refine lv_iload hx hb dX6_lays_99 (lv_at hl59 0 rfl) ?_
                refine n_if_eq (tgt := 108) hx hb (by omega) dX6_lays_101 (by decide) (fun c61 => ?_) (fun c61 => absurd (by decide) c61)
                refine lv_iload hx hb dX6_lays_108 (lv_at hl59 2 rfl) ?_
                refine lv_iconst (v := (-1)) hx hb dX6_lays_110 (by decide) ?_
                refine lv_icmp_eq (tgt := 127) hx hb dX6_lays_111 (by decide) (fun c62 => absurd c62 (nI_nm1 (by omega))) (fun c62 => ?_)
                refine lv_aload_n hx hb dX6_lays_114 rfl (lv_at hl59 5 rfl) ?_
                refine lv_iload hx hb dX6_lays_115 (lv_at hl59 2 rfl) ?_
                have hPc63 : va_P D vwCl (fl [aW T 0 b 111 a]) _ := hP57.sub [1] rfl
                refine cr_i (va_runS (As := [.ref b, .int (nI (t - 1))]) (rest := [.int (nI i), .ref (q 6)]) ⟨hx, hb, hml, hown, hts⟩ (c_X6_isBrown l D T b a (t - 1) (by omega)) (mkS hts okX6_isBrown kw_803 kw_804 ⟨rfl, rfl, Nat.le_of_ble_eq_true rfl, Nat.le_of_ble_eq_true rfl⟩) (ps_ro hK hPc63) rfl rfl hl59.1 rfl (lv_room (Nat.le_of_ble_eq_true rfl)) dX6_lays_117 ⟨Nat.le_of_ble_eq_true rfl, Nat.le_of_ble_eq_true rfl⟩) hP57 hS57 (fun r_117 H64 locs64 hq_117 hP64 hS64 => ?_)
                clear hP57 hS57 hPc63
                have hD64 := hD57
                clear hD57
                have hq_117 : r_117 = bI (brM a (t - 1)) := hq_117
                subst hq_117
                refine z_if_eq (tgt := 127) hx hb dX6_lays_120 (by decide) (fun c_120 => ?_) (fun c_120 => ?_)
                · skip
                  refine lv_iconst (v := nI 0) hx hb dX6_lays_127 (by decide) ?_
                  refine r_iast hx hb hK hP64 hD64 hS64 2 (f := wh1) (n := 3) rfl i (by decide) dX6_lays_128 (by omega) (fun (H66 : Heap) (locs66 : List Loc) (hP66 : va_P D vwCl (fl [mO q (nI kp) (nI ty) th (nI at_) isF op1, aW T 0 b 111 a, aW T 0 (q 6) 3 (upd wh1 i (nI 0))]) H66) (hD66 : va_D A (fl [mO q (nI kp) (nI ty) th (nI at_) isF op1, aW T 0 b 111 a, aW T 0 (q 6) 3 (upd wh1 i (nI 0))])) hS66 => ?_)
                  clear hP64 hD64 hS64
                  refine lv_aload_n hx hb dX6_lays_129 rfl (lv_at hl59 4 rfl) ?_
                  refine lv_dup hx hb dX6_lays_130 rfl ?_
                  refine r_get (own := RX6) (C := RX6) (F := TX6) (N := 12) (ci := 6) (v := .int op1) hx hb hK hts in_X6 hown hP66 0 rfl rfl 11 (by decide) kw_681 rfl dX6_lays_131 ?_
                  refine lv_aload_n hx hb dX6_lays_134 rfl (lv_at hl59 4 rfl) ?_
                  refine r_get (own := RX6) (C := RX6) (F := TX6) (N := 12) (ci := 6) (v := .ref (q 6)) hx hb hK hts in_X6 hown hP66 0 rfl rfl 10 (by decide) kw_680 rfl dX6_lays_135 ?_
                  refine lv_iload_n hx hb dX6_lays_138 rfl (lv_at hl59 6 rfl) ?_
                  refine r_iald hx hb hK hP66 2 (f := (upd wh1 i (nI 0))) (n := 3) rfl i (by decide) dX6_lays_139 (by omega) ?_
                  refine tp_i (y := nI 0) (pk_us) ?_
                  refine n_if_ne (tgt := 149) hx hb (by omega) dX6_lays_140 (by decide) (fun c67 => absurd c67 (by decide)) (fun c67 => ?_)
                  refine lv_iconst (v := nI 1) hx hb dX6_lays_143 (by decide) ?_
                  refine lv_iload_n hx hb dX6_lays_144 rfl (lv_at hl59 3 rfl) ?_
                  refine lv_ishl hx hb dX6_lays_145 ?_
                  refine lv_goto (tgt := 150) hx hb dX6_lays_146 (by decide) ?_
                  refine lv_ior hx hb dX6_lays_150 ?_
                  refine r_put (own := RX6) (C := RX6) (F := TX6) (N := 12) (ci := 6) (v := op1 ||| ((nI 1) <<< ((nI t) &&& 31))) hx hb hK hts in_X6 tyX6 tyX6_ok nmX6 hown hP66 hD66 hS66 0 rfl rfl 11 (by decide) kw_681 rfl rfl (Nat.le_of_ble_eq_true rfl) dX6_lays_151 (fun (H68 : Heap) (locs68 : List Loc) (hP68 : va_P D vwCl (fl [mO q (nI kp) (nI ty) th (nI at_) isF (op1 ||| ((nI 1) <<< ((nI t) &&& 31))), aW T 0 b 111 a, aW T 0 (q 6) 3 (upd wh1 i (nI 0))]) H68) (hD68 : va_D A (fl [mO q (nI kp) (nI ty) th (nI at_) isF (op1 ||| ((nI 1) <<< ((nI t) &&& 31))), aW T 0 b 111 a, aW T 0 (q 6) 3 (upd wh1 i (nI 0))])) hS68 => ?_)
                  clear hP66 hD66 hS66
                  refine lv_iinc (v := nI (i + 1)) (lv' := [(2, .int (nI (i + 1))), (6, .int (nI 0)), (5, .int (nI 0)), (4, .int (nI (t - 1))), (3, .int (nI t)), (0, .ref (q 0)), (1, .ref b)]) hx hb dX6_lays_154 hl59 (k := 6) rfl (nI_add i 1) (by decide) rfl (fun ls69 hl69 => ?_)
                  clear hl59
                  refine lv_goto (tgt := 7) hx hb dX6_lays_157 (by decide) ?_
                  have hy : whyM a op1 t = nI 0 := by simp only [whyM, bitM, hsr, c_9, c_49, c_75, c_120, if_true, ↓reduceIte, Bool.false_eq_true, nI_nm1 (show t - 1 < 2147483648 by omega)]
                  have hw' : (op1 ||| ((nI 1) <<< ((nI t) &&& 31)), upd wh1 i (nI 0)) = laI a wh (i + 1) := by rw [laI, ← hw, laS_t (w := (op1, wh1)) hfr ht, hy, if_pos (show nI 0 = 0 by decide)]
                  exact ih7 (i + 1) (op1 ||| ((nI 1) <<< ((nI t) &&& 31))) (upd wh1 i (nI 0)) (by omega) (hw') (by omega) _ _ hP68 hD68 hS68 _ (lv_sub hl69 [5, 6, 0] rfl)
                · skip
                  refine lv_iconst (v := nI 3) hx hb dX6_lays_123 (by decide) ?_
                  refine lv_goto (tgt := 128) hx hb dX6_lays_124 (by decide) ?_
                  refine r_iast hx hb hK hP64 hD64 hS64 2 (f := wh1) (n := 3) rfl i (by decide) dX6_lays_128 (by omega) (fun (H70 : Heap) (locs70 : List Loc) (hP70 : va_P D vwCl (fl [mO q (nI kp) (nI ty) th (nI at_) isF op1, aW T 0 b 111 a, aW T 0 (q 6) 3 (upd wh1 i (nI 3))]) H70) (hD70 : va_D A (fl [mO q (nI kp) (nI ty) th (nI at_) isF op1, aW T 0 b 111 a, aW T 0 (q 6) 3 (upd wh1 i (nI 3))])) hS70 => ?_)
                  clear hP64 hD64 hS64
                  refine lv_aload_n hx hb dX6_lays_129 rfl (lv_at hl59 4 rfl) ?_
                  refine lv_dup hx hb dX6_lays_130 rfl ?_
                  refine r_get (own := RX6) (C := RX6) (F := TX6) (N := 12) (ci := 6) (v := .int op1) hx hb hK hts in_X6 hown hP70 0 rfl rfl 11 (by decide) kw_681 rfl dX6_lays_131 ?_
                  refine lv_aload_n hx hb dX6_lays_134 rfl (lv_at hl59 4 rfl) ?_
                  refine r_get (own := RX6) (C := RX6) (F := TX6) (N := 12) (ci := 6) (v := .ref (q 6)) hx hb hK hts in_X6 hown hP70 0 rfl rfl 10 (by decide) kw_680 rfl dX6_lays_135 ?_
                  refine lv_iload_n hx hb dX6_lays_138 rfl (lv_at hl59 6 rfl) ?_
                  refine r_iald hx hb hK hP70 2 (f := (upd wh1 i (nI 3))) (n := 3) rfl i (by decide) dX6_lays_139 (by omega) ?_
                  refine tp_i (y := nI 3) (pk_us) ?_
                  refine n_if_ne (tgt := 149) hx hb (by omega) dX6_lays_140 (by decide) (fun c71 => ?_) (fun c71 => absurd c71 (by decide))
                  refine lv_iconst (v := nI 0) hx hb dX6_lays_149 (by decide) ?_
                  refine lv_ior hx hb dX6_lays_150 ?_
                  refine r_put (own := RX6) (C := RX6) (F := TX6) (N := 12) (ci := 6) (v := op1 ||| (nI 0)) hx hb hK hts in_X6 tyX6 tyX6_ok nmX6 hown hP70 hD70 hS70 0 rfl rfl 11 (by decide) kw_681 rfl rfl (Nat.le_of_ble_eq_true rfl) dX6_lays_151 (fun (H72 : Heap) (locs72 : List Loc) (hP72 : va_P D vwCl (fl [mO q (nI kp) (nI ty) th (nI at_) isF (op1 ||| (nI 0)), aW T 0 b 111 a, aW T 0 (q 6) 3 (upd wh1 i (nI 3))]) H72) (hD72 : va_D A (fl [mO q (nI kp) (nI ty) th (nI at_) isF (op1 ||| (nI 0)), aW T 0 b 111 a, aW T 0 (q 6) 3 (upd wh1 i (nI 3))])) hS72 => ?_)
                  clear hP70 hD70 hS70
                  refine lv_iinc (v := nI (i + 1)) (lv' := [(2, .int (nI (i + 1))), (6, .int (nI 0)), (5, .int (nI 0)), (4, .int (nI (t - 1))), (3, .int (nI t)), (0, .ref (q 0)), (1, .ref b)]) hx hb dX6_lays_154 hl59 (k := 6) rfl (nI_add i 1) (by decide) rfl (fun ls73 hl73 => ?_)
                  clear hl59
                  refine lv_goto (tgt := 7) hx hb dX6_lays_157 (by decide) ?_
                  have hy : whyM a op1 t = nI 3 := by simp only [whyM, bitM, hsr, c_9, c_49, c_75, c_120, if_true, ↓reduceIte, Bool.false_eq_true, nI_nm1 (show t - 1 < 2147483648 by omega)]
                  have hw' : (op1 ||| (nI 0), upd wh1 i (nI 3)) = laI a wh (i + 1) := by rw [laI, ← hw, laS_t (w := (op1, wh1)) hfr ht, hy, if_neg (show ¬ nI 3 = 0 by decide)]
                  exact ih7 (i + 1) (op1 ||| (nI 0)) (upd wh1 i (nI 3)) (by omega) (hw') (by omega) _ _ hP72 hD72 hS72 _ (lv_sub hl73 [5, 6, 0] rfl)
              · skip
                refine lv_iconst (v := nI 1) hx hb dX6_lays_78 (by decide) ?_
                refine lv_goto (tgt := 83) hx hb dX6_lays_79 (by decide) ?_
                refine lv_istore (lv' := [(6, .int (nI 1)), (5, .int (nI 0)), (4, .int (nI (t - 1))), (3, .int (nI t)), (0, .ref (q 0)), (1, .ref b), (2, .int (nI i))]) hx hb dX6_lays_83 hl55 (by decide) rfl (fun ls74 hl74 => ?_)
                clear hl55
                refine lv_aload_n hx hb dX6_lays_85 rfl (lv_at hl74 4 rfl) ?_
                refine r_get (own := RX6) (C := RX6) (F := TX6) (N := 12) (ci := 6) (v := .ref (q 6)) hx hb hK hts in_X6 hown hP57 0 rfl rfl 10 (by decide) kw_680 rfl dX6_lays_86 ?_
                refine lv_iload_n hx hb dX6_lays_89 rfl (lv_at hl74 6 rfl) ?_
                refine lv_iload hx hb dX6_lays_90 (lv_at hl74 1 rfl) ?_
                refine n_if_eq (tgt := 99) hx hb (by omega) dX6_lays_92 (by decide) (fun c75 => ?_) (fun c75 => absurd (by decide) c75)
                refine lv_iload hx hb dX6_lays_99 (lv_at hl74 0 rfl) ?_
                refine n_if_eq (tgt := 108) hx hb (by omega) dX6_lays_101 (by decide) (fun c76 => absurd c76 (by decide)) (fun c76 => ?_)
                refine lv_iconst (v := nI 2) hx hb dX6_lays_104 (by decide) ?_
                refine lv_goto (tgt := 128) hx hb dX6_lays_105 (by decide) ?_
                refine r_iast hx hb hK hP57 hD57 hS57 2 (f := wh1) (n := 3) rfl i (by decide) dX6_lays_128 (by omega) (fun (H77 : Heap) (locs77 : List Loc) (hP77 : va_P D vwCl (fl [mO q (nI kp) (nI ty) th (nI at_) isF op1, aW T 0 b 111 a, aW T 0 (q 6) 3 (upd wh1 i (nI 2))]) H77) (hD77 : va_D A (fl [mO q (nI kp) (nI ty) th (nI at_) isF op1, aW T 0 b 111 a, aW T 0 (q 6) 3 (upd wh1 i (nI 2))])) hS77 => ?_)
                clear hP57 hD57 hS57
                refine lv_aload_n hx hb dX6_lays_129 rfl (lv_at hl74 4 rfl) ?_
                refine lv_dup hx hb dX6_lays_130 rfl ?_
                refine r_get (own := RX6) (C := RX6) (F := TX6) (N := 12) (ci := 6) (v := .int op1) hx hb hK hts in_X6 hown hP77 0 rfl rfl 11 (by decide) kw_681 rfl dX6_lays_131 ?_
                refine lv_aload_n hx hb dX6_lays_134 rfl (lv_at hl74 4 rfl) ?_
                refine r_get (own := RX6) (C := RX6) (F := TX6) (N := 12) (ci := 6) (v := .ref (q 6)) hx hb hK hts in_X6 hown hP77 0 rfl rfl 10 (by decide) kw_680 rfl dX6_lays_135 ?_
                refine lv_iload_n hx hb dX6_lays_138 rfl (lv_at hl74 6 rfl) ?_
                refine r_iald hx hb hK hP77 2 (f := (upd wh1 i (nI 2))) (n := 3) rfl i (by decide) dX6_lays_139 (by omega) ?_
                refine tp_i (y := nI 2) (pk_us) ?_
                refine n_if_ne (tgt := 149) hx hb (by omega) dX6_lays_140 (by decide) (fun c78 => ?_) (fun c78 => absurd c78 (by decide))
                refine lv_iconst (v := nI 0) hx hb dX6_lays_149 (by decide) ?_
                refine lv_ior hx hb dX6_lays_150 ?_
                refine r_put (own := RX6) (C := RX6) (F := TX6) (N := 12) (ci := 6) (v := op1 ||| (nI 0)) hx hb hK hts in_X6 tyX6 tyX6_ok nmX6 hown hP77 hD77 hS77 0 rfl rfl 11 (by decide) kw_681 rfl rfl (Nat.le_of_ble_eq_true rfl) dX6_lays_151 (fun (H79 : Heap) (locs79 : List Loc) (hP79 : va_P D vwCl (fl [mO q (nI kp) (nI ty) th (nI at_) isF (op1 ||| (nI 0)), aW T 0 b 111 a, aW T 0 (q 6) 3 (upd wh1 i (nI 2))]) H79) (hD79 : va_D A (fl [mO q (nI kp) (nI ty) th (nI at_) isF (op1 ||| (nI 0)), aW T 0 b 111 a, aW T 0 (q 6) 3 (upd wh1 i (nI 2))])) hS79 => ?_)
                clear hP77 hD77 hS77
                refine lv_iinc (v := nI (i + 1)) (lv' := [(2, .int (nI (i + 1))), (6, .int (nI 1)), (5, .int (nI 0)), (4, .int (nI (t - 1))), (3, .int (nI t)), (0, .ref (q 0)), (1, .ref b)]) hx hb dX6_lays_154 hl74 (k := 6) rfl (nI_add i 1) (by decide) rfl (fun ls80 hl80 => ?_)
                clear hl74
                refine lv_goto (tgt := 7) hx hb dX6_lays_157 (by decide) ?_
                have hy : whyM a op1 t = nI 2 := by simp only [whyM, bitM, hsr, c_9, c_49, c_75, if_true, ↓reduceIte, Bool.false_eq_true, nI_nm1 (show t - 1 < 2147483648 by omega)]
                have hw' : (op1 ||| (nI 0), upd wh1 i (nI 2)) = laI a wh (i + 1) := by rw [laI, ← hw, laS_t (w := (op1, wh1)) hfr ht, hy, if_neg (show ¬ nI 2 = 0 by decide)]
                exact ih7 (i + 1) (op1 ||| (nI 0)) (upd wh1 i (nI 2)) (by omega) (hw') (by omega) _ _ hP79 hD79 hS79 _ (lv_sub hl80 [5, 6, 0] rfl)
            · skip
              refine lv_iconst (v := nI 1) hx hb dX6_lays_52 (by decide) ?_
              refine lv_goto (tgt := 57) hx hb dX6_lays_53 (by decide) ?_
              refine lv_istore (lv' := [(5, .int (nI 1)), (4, .int (nI (t - 1))), (3, .int (nI t)), (0, .ref (q 0)), (1, .ref b), (2, .int (nI i))]) hx hb dX6_lays_57 hl53 (by decide) rfl (fun ls81 hl81 => ?_)
              clear hl53
              refine lv_aload_n hx hb dX6_lays_59 rfl (lv_at hl81 4 rfl) ?_
              refine lv_iload_n hx hb dX6_lays_60 rfl (lv_at hl81 2 rfl) ?_
              refine lv_aload_n hx hb dX6_lays_61 rfl (lv_at hl81 3 rfl) ?_
              refine r_get (own := RX6) (C := RX6) (F := TX6) (N := 12) (ci := 6) (v := .int op1) hx hb hK hts in_X6 hown hP15 0 rfl rfl 11 (by decide) kw_681 rfl dX6_lays_62 ?_
              refine lv_iconst (v := nI 1) hx hb dX6_lays_65 (by decide) ?_
              refine lv_iload_n hx hb dX6_lays_66 rfl (lv_at hl81 2 rfl) ?_
              refine lv_ishl hx hb dX6_lays_67 ?_
              refine lv_ior hx hb dX6_lays_68 ?_
              have hPc82 : va_P D vwCl (fl [aW T 0 b 111 a]) _ := hP15.sub [1] rfl
              refine cr_i (va_runS (As := [.ref b, .int (nI t), .int (op1 ||| ((nI 1) <<< ((nI t) &&& 31)))]) (rest := []) ⟨hx, hb, hml, hown, hts⟩ (c_X6_pressureAt l D T b a t (op1 ||| ((nI 1) <<< ((nI t) &&& 31))) (by omega)) (mkS hts okX6_pressureAt kw_797 kw_798 ⟨rfl, rfl, Nat.le_of_ble_eq_true rfl, Nat.le_of_ble_eq_true rfl⟩) (ps_ro hK hPc82) rfl rfl hl81.1 rfl (lv_room (Nat.le_of_ble_eq_true rfl)) dX6_lays_69 ⟨Nat.le_of_ble_eq_true rfl, Nat.le_of_ble_eq_true rfl⟩) hP15 hS15 (fun r_69 H83 locs83 hq_69 hP83 hS83 => ?_)
              clear hP15 hS15 hPc82
              have hD83 := hD15
              clear hD15
              have hq_69 : r_69 = prM a (op1 ||| ((nI 1) <<< ((nI t) &&& 31))) t := hq_69
              subst hq_69
              refine lv_aload_n hx hb dX6_lays_72 rfl (lv_at hl81 4 rfl) ?_
              refine lv_iconst (v := nI 1) hx hb dX6_lays_73 (by decide) ?_
              refine r_iald hx hb hK hP83 1 (f := a) (n := 111) rfl 1 (by decide) dX6_lays_74 (by decide) ?_
              refine lv_icmp_ge (tgt := 82) hx hb dX6_lays_75 (by decide) (fun c_75 => ?_) (fun c_75 => ?_)
              · skip
                refine lv_iconst (v := nI 0) hx hb dX6_lays_82 (by decide) ?_
                refine lv_istore (lv' := [(6, .int (nI 0)), (5, .int (nI 1)), (4, .int (nI (t - 1))), (3, .int (nI t)), (0, .ref (q 0)), (1, .ref b), (2, .int (nI i))]) hx hb dX6_lays_83 hl81 (by decide) rfl (fun ls85 hl85 => ?_)
                clear hl81
                refine lv_aload_n hx hb dX6_lays_85 rfl (lv_at hl85 4 rfl) ?_
                refine r_get (own := RX6) (C := RX6) (F := TX6) (N := 12) (ci := 6) (v := .ref (q 6)) hx hb hK hts in_X6 hown hP83 0 rfl rfl 10 (by decide) kw_680 rfl dX6_lays_86 ?_
                refine lv_iload_n hx hb dX6_lays_89 rfl (lv_at hl85 6 rfl) ?_
                refine lv_iload hx hb dX6_lays_90 (lv_at hl85 1 rfl) ?_
                refine n_if_eq (tgt := 99) hx hb (by omega) dX6_lays_92 (by decide) (fun c86 => absurd c86 (by decide)) (fun c86 => ?_)
                refine lv_iconst (v := nI 1) hx hb dX6_lays_95 (by decide) ?_
                refine lv_goto (tgt := 128) hx hb dX6_lays_96 (by decide) ?_
                refine r_iast hx hb hK hP83 hD83 hS83 2 (f := wh1) (n := 3) rfl i (by decide) dX6_lays_128 (by omega) (fun (H87 : Heap) (locs87 : List Loc) (hP87 : va_P D vwCl (fl [mO q (nI kp) (nI ty) th (nI at_) isF op1, aW T 0 b 111 a, aW T 0 (q 6) 3 (upd wh1 i (nI 1))]) H87) (hD87 : va_D A (fl [mO q (nI kp) (nI ty) th (nI at_) isF op1, aW T 0 b 111 a, aW T 0 (q 6) 3 (upd wh1 i (nI 1))])) hS87 => ?_)
                clear hP83 hD83 hS83
                refine lv_aload_n hx hb dX6_lays_129 rfl (lv_at hl85 4 rfl) ?_
                refine lv_dup hx hb dX6_lays_130 rfl ?_
                refine r_get (own := RX6) (C := RX6) (F := TX6) (N := 12) (ci := 6) (v := .int op1) hx hb hK hts in_X6 hown hP87 0 rfl rfl 11 (by decide) kw_681 rfl dX6_lays_131 ?_
                refine lv_aload_n hx hb dX6_lays_134 rfl (lv_at hl85 4 rfl) ?_
                refine r_get (own := RX6) (C := RX6) (F := TX6) (N := 12) (ci := 6) (v := .ref (q 6)) hx hb hK hts in_X6 hown hP87 0 rfl rfl 10 (by decide) kw_680 rfl dX6_lays_135 ?_
                refine lv_iload_n hx hb dX6_lays_138 rfl (lv_at hl85 6 rfl) ?_
                refine r_iald hx hb hK hP87 2 (f := (upd wh1 i (nI 1))) (n := 3) rfl i (by decide) dX6_lays_139 (by omega) ?_
                refine tp_i (y := nI 1) (pk_us) ?_
                refine n_if_ne (tgt := 149) hx hb (by omega) dX6_lays_140 (by decide) (fun c88 => ?_) (fun c88 => absurd c88 (by decide))
                refine lv_iconst (v := nI 0) hx hb dX6_lays_149 (by decide) ?_
                refine lv_ior hx hb dX6_lays_150 ?_
                refine r_put (own := RX6) (C := RX6) (F := TX6) (N := 12) (ci := 6) (v := op1 ||| (nI 0)) hx hb hK hts in_X6 tyX6 tyX6_ok nmX6 hown hP87 hD87 hS87 0 rfl rfl 11 (by decide) kw_681 rfl rfl (Nat.le_of_ble_eq_true rfl) dX6_lays_151 (fun (H89 : Heap) (locs89 : List Loc) (hP89 : va_P D vwCl (fl [mO q (nI kp) (nI ty) th (nI at_) isF (op1 ||| (nI 0)), aW T 0 b 111 a, aW T 0 (q 6) 3 (upd wh1 i (nI 1))]) H89) (hD89 : va_D A (fl [mO q (nI kp) (nI ty) th (nI at_) isF (op1 ||| (nI 0)), aW T 0 b 111 a, aW T 0 (q 6) 3 (upd wh1 i (nI 1))])) hS89 => ?_)
                clear hP87 hD87 hS87
                refine lv_iinc (v := nI (i + 1)) (lv' := [(2, .int (nI (i + 1))), (6, .int (nI 0)), (5, .int (nI 1)), (4, .int (nI (t - 1))), (3, .int (nI t)), (0, .ref (q 0)), (1, .ref b)]) hx hb dX6_lays_154 hl85 (k := 6) rfl (nI_add i 1) (by decide) rfl (fun ls90 hl90 => ?_)
                clear hl85
                refine lv_goto (tgt := 7) hx hb dX6_lays_157 (by decide) ?_
                have hy : whyM a op1 t = nI 1 := by simp only [whyM, bitM, hsr, c_9, c_49, c_75, if_true, ↓reduceIte, Bool.false_eq_true, nI_nm1 (show t - 1 < 2147483648 by omega)]
                have hw' : (op1 ||| (nI 0), upd wh1 i (nI 1)) = laI a wh (i + 1) := by rw [laI, ← hw, laS_t (w := (op1, wh1)) hfr ht, hy, if_neg (show ¬ nI 1 = 0 by decide)]
                exact ih7 (i + 1) (op1 ||| (nI 0)) (upd wh1 i (nI 1)) (by omega) (hw') (by omega) _ _ hP89 hD89 hS89 _ (lv_sub hl90 [5, 6, 0] rfl)
              · skip
                refine lv_iconst (v := nI 1) hx hb dX6_lays_78 (by decide) ?_
                refine lv_goto (tgt := 83) hx hb dX6_lays_79 (by decide) ?_
                refine lv_istore (lv' := [(6, .int (nI 1)), (5, .int (nI 1)), (4, .int (nI (t - 1))), (3, .int (nI t)), (0, .ref (q 0)), (1, .ref b), (2, .int (nI i))]) hx hb dX6_lays_83 hl81 (by decide) rfl (fun ls91 hl91 => ?_)
                clear hl81
                refine lv_aload_n hx hb dX6_lays_85 rfl (lv_at hl91 4 rfl) ?_
                refine r_get (own := RX6) (C := RX6) (F := TX6) (N := 12) (ci := 6) (v := .ref (q 6)) hx hb hK hts in_X6 hown hP83 0 rfl rfl 10 (by decide) kw_680 rfl dX6_lays_86 ?_
                refine lv_iload_n hx hb dX6_lays_89 rfl (lv_at hl91 6 rfl) ?_
                refine lv_iload hx hb dX6_lays_90 (lv_at hl91 1 rfl) ?_
                refine n_if_eq (tgt := 99) hx hb (by omega) dX6_lays_92 (by decide) (fun c92 => absurd c92 (by decide)) (fun c92 => ?_)
                refine lv_iconst (v := nI 1) hx hb dX6_lays_95 (by decide) ?_
                refine lv_goto (tgt := 128) hx hb dX6_lays_96 (by decide) ?_
                refine r_iast hx hb hK hP83 hD83 hS83 2 (f := wh1) (n := 3) rfl i (by decide) dX6_lays_128 (by omega) (fun (H93 : Heap) (locs93 : List Loc) (hP93 : va_P D vwCl (fl [mO q (nI kp) (nI ty) th (nI at_) isF op1, aW T 0 b 111 a, aW T 0 (q 6) 3 (upd wh1 i (nI 1))]) H93) (hD93 : va_D A (fl [mO q (nI kp) (nI ty) th (nI at_) isF op1, aW T 0 b 111 a, aW T 0 (q 6) 3 (upd wh1 i (nI 1))])) hS93 => ?_)
                clear hP83 hD83 hS83
                refine lv_aload_n hx hb dX6_lays_129 rfl (lv_at hl91 4 rfl) ?_
                refine lv_dup hx hb dX6_lays_130 rfl ?_
                refine r_get (own := RX6) (C := RX6) (F := TX6) (N := 12) (ci := 6) (v := .int op1) hx hb hK hts in_X6 hown hP93 0 rfl rfl 11 (by decide) kw_681 rfl dX6_lays_131 ?_
                refine lv_aload_n hx hb dX6_lays_134 rfl (lv_at hl91 4 rfl) ?_
                refine r_get (own := RX6) (C := RX6) (F := TX6) (N := 12) (ci := 6) (v := .ref (q 6)) hx hb hK hts in_X6 hown hP93 0 rfl rfl 10 (by decide) kw_680 rfl dX6_lays_135 ?_
                refine lv_iload_n hx hb dX6_lays_138 rfl (lv_at hl91 6 rfl) ?_
                refine r_iald hx hb hK hP93 2 (f := (upd wh1 i (nI 1))) (n := 3) rfl i (by decide) dX6_lays_139 (by omega) ?_
                refine tp_i (y := nI 1) (pk_us) ?_
                refine n_if_ne (tgt := 149) hx hb (by omega) dX6_lays_140 (by decide) (fun c94 => ?_) (fun c94 => absurd c94 (by decide))
                refine lv_iconst (v := nI 0) hx hb dX6_lays_149 (by decide) ?_
                refine lv_ior hx hb dX6_lays_150 ?_
                refine r_put (own := RX6) (C := RX6) (F := TX6) (N := 12) (ci := 6) (v := op1 ||| (nI 0)) hx hb hK hts in_X6 tyX6 tyX6_ok nmX6 hown hP93 hD93 hS93 0 rfl rfl 11 (by decide) kw_681 rfl rfl (Nat.le_of_ble_eq_true rfl) dX6_lays_151 (fun (H95 : Heap) (locs95 : List Loc) (hP95 : va_P D vwCl (fl [mO q (nI kp) (nI ty) th (nI at_) isF (op1 ||| (nI 0)), aW T 0 b 111 a, aW T 0 (q 6) 3 (upd wh1 i (nI 1))]) H95) (hD95 : va_D A (fl [mO q (nI kp) (nI ty) th (nI at_) isF (op1 ||| (nI 0)), aW T 0 b 111 a, aW T 0 (q 6) 3 (upd wh1 i (nI 1))])) hS95 => ?_)
                clear hP93 hD93 hS93
                refine lv_iinc (v := nI (i + 1)) (lv' := [(2, .int (nI (i + 1))), (6, .int (nI 1)), (5, .int (nI 1)), (4, .int (nI (t - 1))), (3, .int (nI t)), (0, .ref (q 0)), (1, .ref b)]) hx hb dX6_lays_154 hl91 (k := 6) rfl (nI_add i 1) (by decide) rfl (fun ls96 hl96 => ?_)
                clear hl91
                refine lv_goto (tgt := 7) hx hb dX6_lays_157 (by decide) ?_
                have hy : whyM a op1 t = nI 1 := by simp only [whyM, bitM, hsr, c_9, c_49, c_75, if_true, ↓reduceIte, Bool.false_eq_true, nI_nm1 (show t - 1 < 2147483648 by omega)]
                have hw' : (op1 ||| (nI 0), upd wh1 i (nI 1)) = laI a wh (i + 1) := by rw [laI, ← hw, laS_t (w := (op1, wh1)) hfr ht, hy, if_neg (show ¬ nI 1 = 0 by decide)]
                exact ih7 (i + 1) (op1 ||| (nI 0)) (upd wh1 i (nI 1)) (by omega) (hw') (by omega) _ _ hP95 hD95 hS95 _ (lv_sub hl96 [5, 6, 0] rfl)
  exact loop7 ((3 - 0) + 1) 0 (nI 0) wh (by omega) (rfl) (Nat.lt_succ_self _) _ _ hP1 hD1 hS1 _ (lv_sub hl2 [1, 2, 0] rfl)
set_option maxHeartbeats 4000000 in
set_option maxRecDepth 100000 in
theorem c_X6_skips (l : Launch) (D : va_G) (T : TI) (b : Nat) (a : Nat → Int32) (k : Nat) (n : Nat) (hk : k < 3) (hn : 0 < n) (hn8 : n ≤ 8) (ha : a (84 + 9 * k) = nI n) : CV l yX6_skips cX6_skips 4 (rmD 0 0 0) D T [.ref b, .int (nI k)] [aW T 0 b 111 a] 0 0 (β := Nat → Int32) (fun (a2 : Nat → Int32) => [aW T 0 b 111 a2]) (fun (a2 : Nat → Int32) => skI a (84 + 9 * k) n n = a2) := by
  intro sz
  refine met_rw (Qc := fun A => va_Qv _ (PST D _ A) A) rfl (Nat.le_of_ble_eq_true rfl) ?_
  intro pX eX sX mX bX mtX cX A hAe hC hA hP0 hD0 hS0 ls0 hl0 TG hTG
  clear hAe
  obtain ⟨hx, hb, hr, hml, hown, hts, hlocks, hin, hK⟩ := hC
  have hown : sX.vm.findClass RX6 = some mX.cls := hown
  have hl0 : lv_has ls0 4 [(0, .ref b), (1, .int (nI k))] := hl0
  refine lv_bipush (v := nI 84) hx hb dX6_skips_0 (by decide) ?_
  refine lv_bipush (v := nI 9) hx hb dX6_skips_2 (by decide) ?_
  refine lv_iload_n hx hb dX6_skips_4 rfl (lv_at hl0 1 rfl) ?_
  refine lv_imul hx hb dX6_skips_5 ?_
  refine tp_i (y := nI (9 * k)) (pk_mul _ _) ?_
  refine lv_iadd hx hb dX6_skips_6 ?_
  refine tp_i (y := nI (84 + (9 * k))) (nI_add _ _) ?_
  refine lv_istore_n (lv' := [(2, .int (nI (84 + (9 * k)))), (0, .ref b), (1, .int (nI k))]) hx hb dX6_skips_7 rfl hl0 (by decide) rfl (fun ls1 hl1 => ?_)
  clear hl0
  refine lv_aload_n hx hb dX6_skips_8 rfl (lv_at hl1 1 rfl) ?_
  refine lv_iload_n hx hb dX6_skips_9 rfl (lv_at hl1 0 rfl) ?_
  refine lv_dup2_11 hx hb dX6_skips_10 rfl rfl ?_
  refine r_iald hx hb hK hP0 0 (f := a) (n := 111) rfl (84 + (9 * k)) (by decide) dX6_skips_11 (by omega) ?_
  refine tp_i (y := nI n) (ha) ?_
  refine lv_iconst (v := nI 1) hx hb dX6_skips_12 (by decide) ?_
  refine lv_isub hx hb dX6_skips_13 ?_
  refine tp_i (y := nI (n - 1)) (pk_sub (by omega)) ?_
  refine r_iast hx hb hK hP0 hD0 hS0 0 (f := a) (n := 111) rfl (84 + (9 * k)) (by decide) dX6_skips_14 (by omega) (fun (H2 : Heap) (locs2 : List Loc) (hP2 : va_P D vwCl (fl [aW T 0 b 111 (upd a (84 + (9 * k)) (nI (n - 1)))]) H2) (hD2 : va_D A (fl [aW T 0 b 111 (upd a (84 + (9 * k)) (nI (n - 1)))])) hS2 => ?_)
  clear hP0 hD0 hS0
  refine lv_iconst (v := nI 1) hx hb dX6_skips_15 (by decide) ?_
  refine lv_istore_n (lv' := [(3, .int (nI 1)), (2, .int (nI (84 + (9 * k)))), (0, .ref b), (1, .int (nI k))]) hx hb dX6_skips_16 rfl hl1 (by decide) rfl (fun ls3 hl3 => ?_)
  clear hl1
  have loop17 : ∀ (n_ : Nat) (i : Nat) (g : Nat → Int32), (1 ≤ i) → (i ≤ n) → (g = skI a (84 + 9 * k) n i) → (n - i) < n_ → ∀ (H : Heap) (locs : List Loc), va_P D vwCl (fl [aW T 0 b 111 g]) H → va_D A (fl [aW T 0 b 111 g]) → va_S A sX.heap H locs → ∀ ls : Array Slot, lv_has ls 4 [(0, .ref b), (2, .int (nI (84 + 9 * k))), (3, .int (nI i))] → W pX l eX (rmD 0 0 0) sX mX ([.ref b, .int (nI k)] : List Value).toArray bX mtX cX H locs 0 0 TG (F0 mX 17 ls []) := by
    intro n_
    induction n_ with
    | zero => intro i g h1 hi hg hmu_ ; exact absurd hmu_ (Nat.not_lt_zero _)
    | succ n_ ih17 =>
      intro i g h1 hi hg hmu_17 H5 locs5 hP5 hD5 hS5 ls5 hl5
      refine lv_iload_n hx hb dX6_skips_17 rfl (lv_at hl5 2 rfl) ?_
      refine lv_aload_n hx hb dX6_skips_18 rfl (lv_at hl5 0 rfl) ?_
      refine lv_iload_n hx hb dX6_skips_19 rfl (lv_at hl5 1 rfl) ?_
      refine r_iald hx hb hK hP5 0 (f := g) (n := 111) rfl (84 + 9 * k) (by decide) dX6_skips_20 (by omega) ?_
      refine tp_i (y := nI (n - 1)) (by rw [hg, skI_r]) ?_
      refine n_icmp_gt (tgt := 42) hx hb (by omega) (by omega) dX6_skips_21 (by decide) (fun c_21 => ?_) (fun c_21 => ?_)
      · skip
        have hi2 : n = i := by omega
        subst hi2
        refine ret_v hTG (Nat.le_refl _) (Nat.le_refl _) hx hb hr hlocks ((g)) hP5 hD5 hS5 [0] rfl (by decide) dX6_skips_42 ?_
        exact hg.symm
      · skip
        refine lv_aload_n hx hb dX6_skips_24 rfl (lv_at hl5 0 rfl) ?_
        refine lv_iload_n hx hb dX6_skips_25 rfl (lv_at hl5 1 rfl) ?_
        refine lv_iload_n hx hb dX6_skips_26 rfl (lv_at hl5 2 rfl) ?_
        refine lv_iadd hx hb dX6_skips_27 ?_
        refine tp_i (y := nI (84 + 9 * k + i)) (nI_add _ _) ?_
        refine lv_aload_n hx hb dX6_skips_28 rfl (lv_at hl5 0 rfl) ?_
        refine lv_iload_n hx hb dX6_skips_29 rfl (lv_at hl5 1 rfl) ?_
        refine lv_iload_n hx hb dX6_skips_30 rfl (lv_at hl5 2 rfl) ?_
        refine lv_iadd hx hb dX6_skips_31 ?_
        refine tp_i (y := nI (84 + 9 * k + i)) (nI_add _ _) ?_
        refine lv_iconst (v := nI 1) hx hb dX6_skips_32 (by decide) ?_
        refine lv_iadd hx hb dX6_skips_33 ?_
        refine tp_i (y := nI (84 + 9 * k + i + 1)) (nI_add _ _) ?_
        refine r_iald hx hb hK hP5 0 (f := g) (n := 111) rfl (84 + 9 * k + i + 1) (by decide) dX6_skips_34 (by omega) ?_
        refine r_iast hx hb hK hP5 hD5 hS5 0 (f := g) (n := 111) rfl (84 + 9 * k + i) (by decide) dX6_skips_35 (by omega) (fun (H7 : Heap) (locs7 : List Loc) (hP7 : va_P D vwCl (fl [aW T 0 b 111 (upd g (84 + 9 * k + i) (g (84 + 9 * k + i + 1)))]) H7) (hD7 : va_D A (fl [aW T 0 b 111 (upd g (84 + 9 * k + i) (g (84 + 9 * k + i + 1)))])) hS7 => ?_)
        clear hP5 hD5 hS5
        refine lv_iinc (v := nI (i + 1)) (lv' := [(3, .int (nI (i + 1))), (0, .ref b), (2, .int (nI (84 + 9 * k)))]) hx hb dX6_skips_36 hl5 (k := 2) rfl (nI_add i 1) (by decide) rfl (fun ls8 hl8 => ?_)
        clear hl5
        refine lv_goto (tgt := 17) hx hb dX6_skips_39 (by decide) ?_
        exact ih17 (i + 1) (upd g (84 + 9 * k + i) (g (84 + 9 * k + i + 1))) (by omega) (by omega) (by rw [hg, skI_s _ _ _ _ h1]) (by omega) _ _ hP7 hD7 hS7 _ (lv_sub hl8 [1, 2, 0] rfl)
  exact loop17 ((n - 1) + 1) 1 (upd a (84 + (9 * k)) (nI (n - 1))) (by omega) (by omega) (skI_1 _ _ _) (Nat.lt_succ_self _) _ _ hP2 hD2 hS2 _ (lv_sub hl3 [2, 1, 0] rfl)
set_option maxHeartbeats 4000000 in
set_option maxRecDepth 100000 in
theorem c_X6_hour (l : Launch) (D : va_G) (T : TI) (q : Nat → Nat) (kp : Nat) (ty : Nat) (th : Int32) (at_ : Nat) (isF : Bool) (op : Int32) (b : Nat) (a : Nat → Int32) (wh : Nat → Int32) (hok : okM a) : CV l yX6_hour cX6_hour 6 (rmD 4 0 0) D T [.ref (q 0), .ref b] [mO q (nI kp) (nI ty) th (nI at_) isF op, aW T 0 b 111 a, aW T 0 (q 6) 3 wh] 0 0 (β := Int32 × (Nat → Int32) × (Nat → Int32)) (fun ⟨op2, a2, wh2⟩ => [mO q (nI kp) (nI ty) th (nI at_) isF op2, aW T 0 b 111 a2, aW T 0 (q 6) 3 wh2]) (fun ⟨op2, a2, wh2⟩ => a2 = hourF a) := by
  intro sz
  refine met_rw (Qc := fun A => va_Qv _ (PST D _ A) A) rfl (Nat.le_of_ble_eq_true rfl) ?_
  intro pX eX sX mX bX mtX cX A hAe hC hA hP0 hD0 hS0 ls0 hl0 TG hTG
  clear hAe
  obtain ⟨hx, hb, hr, hml, hown, hts, hlocks, hin, hK⟩ := hC
  have hown : sX.vm.findClass RX6 = some mX.cls := hown
  have hl0 : lv_has ls0 6 [(0, .ref (q 0)), (1, .ref b)] := hl0
  refine lv_aload_n hx hb dX6_hour_0 rfl (lv_at hl0 0 rfl) ?_
  refine lv_aload_n hx hb dX6_hour_1 rfl (lv_at hl0 1 rfl) ?_
  have hPc1 : va_P D vwCl (fl [mO q (nI kp) (nI ty) th (nI at_) isF op, aW T 0 b 111 a, aW T 0 (q 6) 3 wh]) _ := flP_sub hP0 [0, 1, 2] rfl
  have hDc1 : va_D A (fl [mO q (nI kp) (nI ty) th (nI at_) isF op, aW T 0 b 111 a, aW T 0 (q 6) 3 wh]) := flD_sub hD0 [0, 1, 2] (by decide) rfl
  refine cl_v (br := []) (va_runV (As := [.ref b]) (rest := []) ⟨hx, hb, hml, hown, hts⟩ (c_X6_lays l D T q kp ty th at_ isF op b a wh (by omega) _) (mkV hts okX6_lays kw_790 kw_792 ks_16 ⟨rfl, rfl, Nat.le_of_ble_eq_true rfl, Nat.le_of_ble_eq_true rfl⟩) (pv_rw hK hPc1 hDc1 (q0 := 0) rfl rfl rfl) rfl rfl hl0.1 rfl (lv_room (Nat.le_of_ble_eq_true rfl)) dX6_hour_2 ⟨Nat.le_of_ble_eq_true rfl, Nat.le_of_ble_eq_true rfl⟩) hP0 hD0 hS0 hA [] [0, 1, 2] rfl (by decide) (fun u_2 H2 locs2 hq_2 hP2 hD2 hS2 => ?_)
  clear hP0 hD0 hS0 hPc1 hDc1
  obtain ⟨op2_2, wh2_2⟩ := u_2
  have hP2 : va_P D vwCl (fl [mO q (nI kp) (nI ty) th (nI at_) isF op2_2, aW T 0 b 111 a, aW T 0 (q 6) 3 wh2_2]) _ := hP2
  have hD2 : va_D A (fl [mO q (nI kp) (nI ty) th (nI at_) isF op2_2, aW T 0 b 111 a, aW T 0 (q 6) 3 wh2_2]) := hD2
  have hq_2 : (op2_2, wh2_2) = laI a wh 3 := hq_2
  refine lv_iconst (v := nI 0) hx hb dX6_hour_5 (by decide) ?_
  refine lv_istore_n (lv' := [(2, .int (nI 0)), (0, .ref (q 0)), (1, .ref b)]) hx hb dX6_hour_6 rfl hl0 (by decide) rfl (fun ls3 hl3 => ?_)
  clear hl0
  refine lv_iconst (v := nI 0) hx hb dX6_hour_7 (by decide) ?_
  refine lv_istore_n (lv' := [(3, .int (nI 0)), (2, .int (nI 0)), (0, .ref (q 0)), (1, .ref b)]) hx hb dX6_hour_8 rfl hl3 (by decide) rfl (fun ls4 hl4 => ?_)
  clear hl3
  have loop9 : ∀ (n_ : Nat) (k : Nat) (g : Nat → Int32) (cl : Int32), (k ≤ 12) → ((g, cl) = hfI op2_2 a k) → (12 - k) < n_ → ∀ (H : Heap) (locs : List Loc), va_P D vwCl (fl [mO q (nI kp) (nI ty) th (nI at_) isF op2_2, aW T 0 b 111 g, aW T 0 (q 6) 3 wh2_2]) H → va_D A (fl [mO q (nI kp) (nI ty) th (nI at_) isF op2_2, aW T 0 b 111 g, aW T 0 (q 6) 3 wh2_2]) → va_S A sX.heap H locs → ∀ ls : Array Slot, lv_has ls 6 [(0, .ref (q 0)), (1, .ref b), (2, .int cl), (3, .int (nI k))] → W pX l eX (rmD 4 0 0) sX mX ([.ref (q 0), .ref b] : List Value).toArray bX mtX cX H locs 0 0 TG (F0 mX 9 ls []) := by
    intro n_
    induction n_ with
    | zero => intro k g cl hk hg hmu_ ; exact absurd hmu_ (Nat.not_lt_zero _)
    | succ n_ ih9 =>
      intro k g cl hk hg hmu_9 H6 locs6 hP6 hD6 hS6 ls6 hl6
      refine lv_iload_n hx hb dX6_hour_9 rfl (lv_at hl6 3 rfl) ?_
      refine lv_bipush (v := nI 12) hx hb dX6_hour_10 (by decide) ?_
      refine n_icmp_ge (tgt := 136) hx hb (by omega) (by omega) dX6_hour_12 (by decide) (fun c_12 => ?_) (fun c_12 => ?_)
      · skip
        have hk2 : k = 12 := by omega
        subst hk2
        refine lv_bipush (v := nI 10) hx hb dX6_hour_136 (by decide) ?_
        refine lv_istore_n (lv' := [(3, .int (nI 10)), (0, .ref (q 0)), (1, .ref b), (2, .int cl)]) hx hb dX6_hour_138 rfl hl6 (by decide) rfl (fun ls8 hl8 => ?_)
        clear hl6
        have loop139 : ∀ (n_ : Nat) (j : Nat) (g2 : Nat → Int32), (j ≤ 11) → (g2 = hcI op2_2 g (11 - j)) → j < n_ → ∀ (H : Heap) (locs : List Loc), va_P D vwCl (fl [mO q (nI kp) (nI ty) th (nI at_) isF op2_2, aW T 0 b 111 g2, aW T 0 (q 6) 3 wh2_2]) H → va_D A (fl [mO q (nI kp) (nI ty) th (nI at_) isF op2_2, aW T 0 b 111 g2, aW T 0 (q 6) 3 wh2_2]) → va_S A sX.heap H locs → ∀ ls : Array Slot, lv_has ls 6 [(0, .ref (q 0)), (1, .ref b), (2, .int cl), (3, .int (jm j))] → W pX l eX (rmD 4 0 0) sX mX ([.ref (q 0), .ref b] : List Value).toArray bX mtX cX H locs 0 0 TG (F0 mX 139 ls []) := by
          intro n_
          induction n_ with
          | zero => intro j g2 hj hc hmu_ ; exact absurd hmu_ (Nat.not_lt_zero _)
          | succ n_ ih139 =>
            intro j g2 hj hc hmu_139 H10 locs10 hP10 hD10 hS10 ls10 hl10
            rcases j with _ | k1
            · skip
              have hl10 : lv_has ls10 6 [(0, .ref (q 0)), (1, .ref b), (2, .int cl), (3, .int (-1))] := hl10
              refine lv_iload_n hx hb dX6_hour_139 rfl (lv_at hl10 3 rfl) ?_
              refine lv_if_lt (tgt := 205) hx hb dX6_hour_140 (by decide) (fun c11 => ?_) (fun c11 => absurd (by decide) c11)
              refine lv_iconst (v := nI 0) hx hb dX6_hour_205 (by decide) ?_
              refine lv_istore_n (lv' := [(3, .int (nI 0)), (0, .ref (q 0)), (1, .ref b), (2, .int cl)]) hx hb dX6_hour_206 rfl hl10 (by decide) rfl (fun ls12 hl12 => ?_)
              clear hl10
              have loop207 : ∀ (n_ : Nat) (k3 : Nat) (g3 : Nat → Int32), (k3 ≤ 12) → (g3 = hgI g2 k3) → (12 - k3) < n_ → ∀ (H : Heap) (locs : List Loc), va_P D vwCl (fl [mO q (nI kp) (nI ty) th (nI at_) isF op2_2, aW T 0 b 111 g3, aW T 0 (q 6) 3 wh2_2]) H → va_D A (fl [mO q (nI kp) (nI ty) th (nI at_) isF op2_2, aW T 0 b 111 g3, aW T 0 (q 6) 3 wh2_2]) → va_S A sX.heap H locs → ∀ ls : Array Slot, lv_has ls 6 [(0, .ref (q 0)), (1, .ref b), (2, .int cl), (3, .int (nI k3))] → W pX l eX (rmD 4 0 0) sX mX ([.ref (q 0), .ref b] : List Value).toArray bX mtX cX H locs 0 0 TG (F0 mX 207 ls []) := by
                intro n_
                induction n_ with
                | zero => intro k3 g3 hk3 hg3 hmu_ ; exact absurd hmu_ (Nat.not_lt_zero _)
                | succ n_ ih207 =>
                  intro k3 g3 hk3 hg3 hmu_207 H14 locs14 hP14 hD14 hS14 ls14 hl14
                  refine lv_iload_n hx hb dX6_hour_207 rfl (lv_at hl14 3 rfl) ?_
                  refine lv_bipush (v := nI 12) hx hb dX6_hour_208 (by decide) ?_
                  refine n_icmp_ge (tgt := 285) hx hb (by omega) (by omega) dX6_hour_210 (by decide) (fun c_210 => ?_) (fun c_210 => ?_)
                  · skip
                    have hk32 : k3 = 12 := by omega
                    subst hk32
                    refine lv_iconst (v := nI 0) hx hb dX6_hour_285 (by decide) ?_
                    refine lv_istore_n (lv' := [(3, .int (nI 0)), (0, .ref (q 0)), (1, .ref b), (2, .int cl)]) hx hb dX6_hour_286 rfl hl14 (by decide) rfl (fun ls16 hl16 => ?_)
                    clear hl14
                    have loop287 : ∀ (n_ : Nat) (c : Nat) (g4 : Nat → Int32), (c ≤ 3) → (g4 = hwI wh2_2 cl g3 c) → (∀ j, 84 + 9 * c ≤ j → g4 j = a j) → (3 - c) < n_ → ∀ (H : Heap) (locs : List Loc), va_P D vwCl (fl [mO q (nI kp) (nI ty) th (nI at_) isF op2_2, aW T 0 b 111 g4, aW T 0 (q 6) 3 wh2_2]) H → va_D A (fl [mO q (nI kp) (nI ty) th (nI at_) isF op2_2, aW T 0 b 111 g4, aW T 0 (q 6) 3 wh2_2]) → va_S A sX.heap H locs → ∀ ls : Array Slot, lv_has ls 6 [(0, .ref (q 0)), (1, .ref b), (2, .int cl), (3, .int (nI c))] → W pX l eX (rmD 4 0 0) sX mX ([.ref (q 0), .ref b] : List Value).toArray bX mtX cX H locs 0 0 TG (F0 mX 287 ls []) := by
                      intro n_
                      induction n_ with
                      | zero => intro c g4 hc3 hw4 h4 hmu_ ; exact absurd hmu_ (Nat.not_lt_zero _)
                      | succ n_ ih287 =>
                        intro c g4 hc3 hw4 h4 hmu_287 H18 locs18 hP18 hD18 hS18 ls18 hl18
                        refine lv_iload_n hx hb dX6_hour_287 rfl (lv_at hl18 3 rfl) ?_
                        refine lv_iconst (v := nI 3) hx hb dX6_hour_288 (by decide) ?_
                        refine n_icmp_ge (tgt := 346) hx hb (by omega) (by omega) dX6_hour_289 (by decide) (fun c_289 => ?_) (fun c_289 => ?_)
                        · skip
                          have hc32 : c = 3 := by omega
                          subst hc32
                          refine lv_aload_n hx hb dX6_hour_346 rfl (lv_at hl18 1 rfl) ?_
                          refine lv_bipush (v := nI 9) hx hb dX6_hour_347 (by decide) ?_
                          refine lv_dup2_11 hx hb dX6_hour_349 rfl rfl ?_
                          refine r_iald hx hb hK hP18 1 (f := g4) (n := 111) rfl 9 (by decide) dX6_hour_350 (by decide) ?_
                          refine lv_iconst (v := nI 1) hx hb dX6_hour_351 (by decide) ?_
                          refine lv_iadd hx hb dX6_hour_352 ?_
                          refine r_iast hx hb hK hP18 hD18 hS18 1 (f := g4) (n := 111) rfl 9 (by decide) dX6_hour_353 (by decide) (fun (H20 : Heap) (locs20 : List Loc) (hP20 : va_P D vwCl (fl [mO q (nI kp) (nI ty) th (nI at_) isF op2_2, aW T 0 b 111 (upd g4 9 ((g4 9) + (nI 1))), aW T 0 (q 6) 3 wh2_2]) H20) (hD20 : va_D A (fl [mO q (nI kp) (nI ty) th (nI at_) isF op2_2, aW T 0 b 111 (upd g4 9 ((g4 9) + (nI 1))), aW T 0 (q 6) 3 wh2_2])) hS20 => ?_)
                          clear hP18 hD18 hS18
                          refine ret_v hTG (Nat.le_refl _) (Nat.le_refl _) hx hb hr hlocks ((op2_2, upd g4 9 ((g4 9) + (nI 1)), wh2_2)) hP20 hD20 hS20 [0, 1, 2] rfl (by decide) dX6_hour_354 ?_
                          exact hour_end hq_2 hg hc hg3 hw4
                        · skip
                          refine lv_aload_n hx hb dX6_hour_292 rfl (lv_at hl18 1 rfl) ?_
                          refine lv_bipush (v := nI 10) hx hb dX6_hour_293 (by decide) ?_
                          refine lv_dup2_11 hx hb dX6_hour_295 rfl rfl ?_
                          refine r_iald hx hb hK hP18 1 (f := g4) (n := 111) rfl 10 (by decide) dX6_hour_296 (by decide) ?_
                          refine lv_aload_n hx hb dX6_hour_297 rfl (lv_at hl18 0 rfl) ?_
                          refine r_get (own := RX6) (C := RX6) (F := TX6) (N := 12) (ci := 6) (v := .ref (q 6)) hx hb hK hts in_X6 hown hP18 0 rfl rfl 10 (by decide) kw_680 rfl dX6_hour_298 ?_
                          refine lv_iload_n hx hb dX6_hour_301 rfl (lv_at hl18 3 rfl) ?_
                          refine r_iald hx hb hK hP18 2 (f := wh2_2) (n := 3) rfl c (by decide) dX6_hour_302 (by omega) ?_
                          refine lv_if_le (tgt := 310) hx hb dX6_hour_303 (by decide) (fun c_303 => ?_) (fun c_303 => ?_)
                          · skip
                            refine lv_iconst (v := nI 0) hx hb dX6_hour_310 (by decide) ?_
                            refine lv_iadd hx hb dX6_hour_311 ?_
                            refine r_iast hx hb hK hP18 hD18 hS18 1 (f := g4) (n := 111) rfl 10 (by decide) dX6_hour_312 (by decide) (fun (H22 : Heap) (locs22 : List Loc) (hP22 : va_P D vwCl (fl [mO q (nI kp) (nI ty) th (nI at_) isF op2_2, aW T 0 b 111 (upd g4 10 ((g4 10) + (nI 0))), aW T 0 (q 6) 3 wh2_2]) H22) (hD22 : va_D A (fl [mO q (nI kp) (nI ty) th (nI at_) isF op2_2, aW T 0 b 111 (upd g4 10 ((g4 10) + (nI 0))), aW T 0 (q 6) 3 wh2_2])) hS22 => ?_)
                            clear hP18 hD18 hS18
                            refine lv_aload_n hx hb dX6_hour_313 rfl (lv_at hl18 0 rfl) ?_
                            refine r_get (own := RX6) (C := RX6) (F := TX6) (N := 12) (ci := 6) (v := .ref (q 6)) hx hb hK hts in_X6 hown hP22 0 rfl rfl 10 (by decide) kw_680 rfl dX6_hour_314 ?_
                            refine lv_iload_n hx hb dX6_hour_317 rfl (lv_at hl18 3 rfl) ?_
                            refine r_iald hx hb hK hP22 2 (f := wh2_2) (n := 3) rfl c (by decide) dX6_hour_318 (by omega) ?_
                            refine lv_if_ne (tgt := 340) hx hb dX6_hour_319 (by decide) (fun c_319 => ?_) (fun c_319 => ?_)
                            · skip
                              refine lv_iinc (v := nI (c + 1)) (lv' := [(3, .int (nI (c + 1))), (0, .ref (q 0)), (1, .ref b), (2, .int cl)]) hx hb dX6_hour_340 hl18 (k := 3) rfl (nI_add c 1) (by decide) rfl (fun ls24 hl24 => ?_)
                              clear hl18
                              refine lv_goto (tgt := 287) hx hb dX6_hour_343 (by decide) ?_
                              have e10 : upd g4 10 (g4 10 + nI 0) = upd g4 10 (g4 10 + (if wh2_2 c ≤ 0 then nI 0 else nI 1)) := by simp only [c_303, ↓reduceIte]
                              have hw' : upd g4 10 ((g4 10) + (nI 0)) = hwI wh2_2 cl g3 (c + 1) := by rw [hwI, ← hw4]; first | exact (hwS_1 e10 c_319).symm | exact (hwS_2 e10 c_319 c_332).symm
                              have h4' : ∀ j, 84 + 9 * (c + 1) ≤ j → (upd g4 10 ((g4 10) + (nI 0))) j = a j := by
                                intro j hj
                                rw [pk_un (by omega)]; exact h4 j (by omega)
                              exact ih287 (c + 1) (upd g4 10 ((g4 10) + (nI 0))) (by omega) (hw') (h4') (by omega) _ _ hP22 hD22 hS22 _ (lv_sub hl24 [1, 2, 3, 0] rfl)
                            · skip
                              refine lv_iload_n hx hb dX6_hour_322 rfl (lv_at hl18 2 rfl) ?_
                              refine lv_aload_n hx hb dX6_hour_323 rfl (lv_at hl18 1 rfl) ?_
                              refine lv_iload_n hx hb dX6_hour_324 rfl (lv_at hl18 3 rfl) ?_
                              have hPc25 : va_P D vwCl (fl [aW T 0 b 111 (upd g4 10 ((g4 10) + (nI 0)))]) _ := hP22.sub [1] rfl
                              refine cr_i (va_runS (As := [.ref b, .int (nI c)]) (rest := [.int cl]) ⟨hx, hb, hml, hown, hts⟩ (c_X6_first l D T b (upd g4 10 ((g4 10) + (nI 0))) c (by omega)) (mkS hts okX6_first kw_763 kw_764 ⟨rfl, rfl, Nat.le_of_ble_eq_true rfl, Nat.le_of_ble_eq_true rfl⟩) (ps_ro hK hPc25) rfl rfl hl18.1 rfl (lv_room (Nat.le_of_ble_eq_true rfl)) dX6_hour_325 ⟨Nat.le_of_ble_eq_true rfl, Nat.le_of_ble_eq_true rfl⟩) hP22 hS22 (fun r_325 H26 locs26 hq_325 hP26 hS26 => ?_)
                              clear hP22 hS22 hPc25
                              have hD26 := hD22
                              clear hD22
                              have hq_325 : r_325 = frM (upd g4 10 ((g4 10) + (nI 0))) c := hq_325
                              subst hq_325
                              refine lv_ishr hx hb dX6_hour_328 ?_
                              refine lv_iconst (v := nI 1) hx hb dX6_hour_329 (by decide) ?_
                              refine lv_iand hx hb dX6_hour_330 ?_
                              refine lv_iconst (v := nI 1) hx hb dX6_hour_331 (by decide) ?_
                              refine lv_icmp_ne (tgt := 340) hx hb dX6_hour_332 (by decide) (fun c_332 => ?_) (fun c_332 => ?_)
                              · skip
                                refine lv_iinc (v := nI (c + 1)) (lv' := [(3, .int (nI (c + 1))), (0, .ref (q 0)), (1, .ref b), (2, .int cl)]) hx hb dX6_hour_340 hl18 (k := 3) rfl (nI_add c 1) (by decide) rfl (fun ls28 hl28 => ?_)
                                clear hl18
                                refine lv_goto (tgt := 287) hx hb dX6_hour_343 (by decide) ?_
                                have e10 : upd g4 10 (g4 10 + nI 0) = upd g4 10 (g4 10 + (if wh2_2 c ≤ 0 then nI 0 else nI 1)) := by simp only [c_303, ↓reduceIte]
                                have hw' : upd g4 10 ((g4 10) + (nI 0)) = hwI wh2_2 cl g3 (c + 1) := by rw [hwI, ← hw4]; first | exact (hwS_1 e10 c_319).symm | exact (hwS_2 e10 c_319 c_332).symm
                                have h4' : ∀ j, 84 + 9 * (c + 1) ≤ j → (upd g4 10 ((g4 10) + (nI 0))) j = a j := by
                                  intro j hj
                                  rw [pk_un (by omega)]; exact h4 j (by omega)
                                exact ih287 (c + 1) (upd g4 10 ((g4 10) + (nI 0))) (by omega) (hw') (h4') (by omega) _ _ hP26 hD26 hS26 _ (lv_sub hl28 [1, 2, 3, 0] rfl)
                              · skip
                                obtain ⟨n, hn8, hna, hnt⟩ := hok c (by omega)
                                have hn0 : 0 < n := laI_n0 hok (show c < 3 by omega) (by rw [← hq_2]; exact c_319) hna
                                have hna2 : g4 (84 + 9 * c) = nI n := (h4 _ (by omega)).trans hna
                                have hna' : (upd g4 10 ((g4 10) + (nI 0))) (84 + 9 * c) = nI n := by rw [pk_un (by omega)]; exact hna2
                                refine lv_aload_n hx hb dX6_hour_335 rfl (lv_at hl18 1 rfl) ?_
                                refine lv_iload_n hx hb dX6_hour_336 rfl (lv_at hl18 3 rfl) ?_
                                have hPc29 : va_P D vwCl (fl [aW T 0 b 111 (upd g4 10 ((g4 10) + (nI 0)))]) _ := flP_sub hP26 [1] rfl
                                have hDc29 : va_D A (fl [aW T 0 b 111 (upd g4 10 ((g4 10) + (nI 0)))]) := flD_sub hD26 [1] (by decide) rfl
                                refine cl_v (br := [mO q (nI kp) (nI ty) th (nI at_) isF op2_2, aW T 0 (q 6) 3 wh2_2]) (va_runS (As := [.ref b, .int (nI c)]) (rest := []) ⟨hx, hb, hml, hown, hts⟩ (c_X6_skips l D T b (upd g4 10 ((g4 10) + (nI 0))) c n (by omega) (hn0) (hn8) (hna') _) (mkS hts okX6_skips kw_766 kw_767 ⟨rfl, rfl, Nat.le_of_ble_eq_true rfl, Nat.le_of_ble_eq_true rfl⟩) (ps_rw hK hPc29 hDc29) rfl rfl hl18.1 rfl (lv_room (Nat.le_of_ble_eq_true rfl)) dX6_hour_337 ⟨Nat.le_of_ble_eq_true rfl, Nat.le_of_ble_eq_true rfl⟩) hP26 hD26 hS26 hA [0, 2] [1] rfl (by decide) (fun a2_337 H30 locs30 hq_337 hP30 hD30 hS30 => ?_)
                                clear hP26 hD26 hS26 hPc29 hDc29
                                have hP30 : va_P D vwCl (fl [mO q (nI kp) (nI ty) th (nI at_) isF op2_2, aW T 0 (q 6) 3 wh2_2, aW T 0 b 111 a2_337]) _ := hP30
                                have hD30 : va_D A (fl [mO q (nI kp) (nI ty) th (nI at_) isF op2_2, aW T 0 (q 6) 3 wh2_2, aW T 0 b 111 a2_337]) := hD30
                                have hq_337 : skI (upd g4 10 ((g4 10) + (nI 0))) (84 + 9 * c) n n = a2_337 := hq_337
                                have hu_a2_337 : skI (upd g4 10 ((g4 10) + (nI 0))) (84 + 9 * c) n n = a2_337 := hq_337
                                subst hu_a2_337
                                refine lv_iinc (v := nI (c + 1)) (lv' := [(3, .int (nI (c + 1))), (0, .ref (q 0)), (1, .ref b), (2, .int cl)]) hx hb dX6_hour_340 hl18 (k := 3) rfl (nI_add c 1) (by decide) rfl (fun ls31 hl31 => ?_)
                                clear hl18
                                refine lv_goto (tgt := 287) hx hb dX6_hour_343 (by decide) ?_
                                have e10 : upd g4 10 (g4 10 + nI 0) = upd g4 10 (g4 10 + (if wh2_2 c ≤ 0 then nI 0 else nI 1)) := by simp only [c_303, ↓reduceIte]
                                have hw' : (skI (upd g4 10 ((g4 10) + (nI 0))) (84 + 9 * c) n n) = hwI wh2_2 cl g3 (c + 1) := by rw [hwI, ← hw4]; exact (hwS_3 e10 c_319 c_332 hna' hn8).symm
                                have h4' : ∀ j, 84 + 9 * (c + 1) ≤ j → (skI (upd g4 10 ((g4 10) + (nI 0))) (84 + 9 * c) n n) j = a j := by
                                  intro j hj
                                  rw [skI_out (by omega) hn0, pk_un (by omega)]; exact h4 j (by omega)
                                have hP32 : va_P D vwCl (fl [mO q (nI kp) (nI ty) th (nI at_) isF op2_2, aW T 0 b 111 (skI (upd g4 10 ((g4 10) + (nI 0))) (84 + 9 * c) n n), aW T 0 (q 6) 3 wh2_2]) _ := flP_sub hP30 [0, 2, 1] rfl
                                have hD32 : va_D A (fl [mO q (nI kp) (nI ty) th (nI at_) isF op2_2, aW T 0 b 111 (skI (upd g4 10 ((g4 10) + (nI 0))) (84 + 9 * c) n n), aW T 0 (q 6) 3 wh2_2]) := flD_sub hD30 [0, 2, 1] (by decide) rfl
                                have hS32 := hS30
                                clear hP30 hS30 hD30
                                exact ih287 (c + 1) (skI (upd g4 10 ((g4 10) + (nI 0))) (84 + 9 * c) n n) (by omega) (hw') (h4') (by omega) _ _ hP32 hD32 hS32 _ (lv_sub hl31 [1, 2, 3, 0] rfl)
                          · skip
                            refine lv_iconst (v := nI 1) hx hb dX6_hour_306 (by decide) ?_
                            refine lv_goto (tgt := 311) hx hb dX6_hour_307 (by decide) ?_
                            refine lv_iadd hx hb dX6_hour_311 ?_
                            refine r_iast hx hb hK hP18 hD18 hS18 1 (f := g4) (n := 111) rfl 10 (by decide) dX6_hour_312 (by decide) (fun (H33 : Heap) (locs33 : List Loc) (hP33 : va_P D vwCl (fl [mO q (nI kp) (nI ty) th (nI at_) isF op2_2, aW T 0 b 111 (upd g4 10 ((g4 10) + (nI 1))), aW T 0 (q 6) 3 wh2_2]) H33) (hD33 : va_D A (fl [mO q (nI kp) (nI ty) th (nI at_) isF op2_2, aW T 0 b 111 (upd g4 10 ((g4 10) + (nI 1))), aW T 0 (q 6) 3 wh2_2])) hS33 => ?_)
                            clear hP18 hD18 hS18
                            refine lv_aload_n hx hb dX6_hour_313 rfl (lv_at hl18 0 rfl) ?_
                            refine r_get (own := RX6) (C := RX6) (F := TX6) (N := 12) (ci := 6) (v := .ref (q 6)) hx hb hK hts in_X6 hown hP33 0 rfl rfl 10 (by decide) kw_680 rfl dX6_hour_314 ?_
                            refine lv_iload_n hx hb dX6_hour_317 rfl (lv_at hl18 3 rfl) ?_
                            refine r_iald hx hb hK hP33 2 (f := wh2_2) (n := 3) rfl c (by decide) dX6_hour_318 (by omega) ?_
                            refine lv_if_ne (tgt := 340) hx hb dX6_hour_319 (by decide) (fun c_319 => ?_) (fun c_319 => ?_)
                            · skip
                              refine lv_iinc (v := nI (c + 1)) (lv' := [(3, .int (nI (c + 1))), (0, .ref (q 0)), (1, .ref b), (2, .int cl)]) hx hb dX6_hour_340 hl18 (k := 3) rfl (nI_add c 1) (by decide) rfl (fun ls35 hl35 => ?_)
                              clear hl18
                              refine lv_goto (tgt := 287) hx hb dX6_hour_343 (by decide) ?_
                              have e10 : upd g4 10 (g4 10 + nI 1) = upd g4 10 (g4 10 + (if wh2_2 c ≤ 0 then nI 0 else nI 1)) := by simp only [c_303, ↓reduceIte]
                              have hw' : upd g4 10 ((g4 10) + (nI 1)) = hwI wh2_2 cl g3 (c + 1) := by rw [hwI, ← hw4]; first | exact (hwS_1 e10 c_319).symm | exact (hwS_2 e10 c_319 c_332).symm
                              have h4' : ∀ j, 84 + 9 * (c + 1) ≤ j → (upd g4 10 ((g4 10) + (nI 1))) j = a j := by
                                intro j hj
                                rw [pk_un (by omega)]; exact h4 j (by omega)
                              exact ih287 (c + 1) (upd g4 10 ((g4 10) + (nI 1))) (by omega) (hw') (h4') (by omega) _ _ hP33 hD33 hS33 _ (lv_sub hl35 [1, 2, 3, 0] rfl)
                            · skip
                              refine lv_iload_n hx hb dX6_hour_322 rfl (lv_at hl18 2 rfl) ?_
                              refine lv_aload_n hx hb dX6_hour_323 rfl (lv_at hl18 1 rfl) ?_
                              refine lv_iload_n hx hb dX6_hour_324 rfl (lv_at hl18 3 rfl) ?_
                              have hPc36 : va_P D vwCl (fl [aW T 0 b 111 (upd g4 10 ((g4 10) + (nI 1)))]) _ := hP33.sub [1] rfl
                              refine cr_i (va_runS (As := [.ref b, .int (nI c)]) (rest := [.int cl]) ⟨hx, hb, hml, hown, hts⟩ (c_X6_first l D T b (upd g4 10 ((g4 10) + (nI 1))) c (by omega)) (mkS hts okX6_first kw_763 kw_764 ⟨rfl, rfl, Nat.le_of_ble_eq_true rfl, Nat.le_of_ble_eq_true rfl⟩) (ps_ro hK hPc36) rfl rfl hl18.1 rfl (lv_room (Nat.le_of_ble_eq_true rfl)) dX6_hour_325 ⟨Nat.le_of_ble_eq_true rfl, Nat.le_of_ble_eq_true rfl⟩) hP33 hS33 (fun r_325 H37 locs37 hq_325 hP37 hS37 => ?_)
                              clear hP33 hS33 hPc36
                              have hD37 := hD33
                              clear hD33
                              have hq_325 : r_325 = frM (upd g4 10 ((g4 10) + (nI 1))) c := hq_325
                              subst hq_325
                              refine lv_ishr hx hb dX6_hour_328 ?_
                              refine lv_iconst (v := nI 1) hx hb dX6_hour_329 (by decide) ?_
                              refine lv_iand hx hb dX6_hour_330 ?_
                              refine lv_iconst (v := nI 1) hx hb dX6_hour_331 (by decide) ?_
                              refine lv_icmp_ne (tgt := 340) hx hb dX6_hour_332 (by decide) (fun c_332 => ?_) (fun c_332 => ?_)
                              · skip
                                refine lv_iinc (v := nI (c + 1)) (lv' := [(3, .int (nI (c + 1))), (0, .ref (q 0)), (1, .ref b), (2, .int cl)]) hx hb dX6_hour_340 hl18 (k := 3) rfl (nI_add c 1) (by decide) rfl (fun ls39 hl39 => ?_)
                                clear hl18
                                refine lv_goto (tgt := 287) hx hb dX6_hour_343 (by decide) ?_
                                have e10 : upd g4 10 (g4 10 + nI 1) = upd g4 10 (g4 10 + (if wh2_2 c ≤ 0 then nI 0 else nI 1)) := by simp only [c_303, ↓reduceIte]
                                have hw' : upd g4 10 ((g4 10) + (nI 1)) = hwI wh2_2 cl g3 (c + 1) := by rw [hwI, ← hw4]; first | exact (hwS_1 e10 c_319).symm | exact (hwS_2 e10 c_319 c_332).symm
                                have h4' : ∀ j, 84 + 9 * (c + 1) ≤ j → (upd g4 10 ((g4 10) + (nI 1))) j = a j := by
                                  intro j hj
                                  rw [pk_un (by omega)]; exact h4 j (by omega)
                                exact ih287 (c + 1) (upd g4 10 ((g4 10) + (nI 1))) (by omega) (hw') (h4') (by omega) _ _ hP37 hD37 hS37 _ (lv_sub hl39 [1, 2, 3, 0] rfl)
                              · skip
                                obtain ⟨n, hn8, hna, hnt⟩ := hok c (by omega)
                                have hn0 : 0 < n := laI_n0 hok (show c < 3 by omega) (by rw [← hq_2]; exact c_319) hna
                                have hna2 : g4 (84 + 9 * c) = nI n := (h4 _ (by omega)).trans hna
                                have hna' : (upd g4 10 ((g4 10) + (nI 1))) (84 + 9 * c) = nI n := by rw [pk_un (by omega)]; exact hna2
                                refine lv_aload_n hx hb dX6_hour_335 rfl (lv_at hl18 1 rfl) ?_
                                refine lv_iload_n hx hb dX6_hour_336 rfl (lv_at hl18 3 rfl) ?_
                                have hPc40 : va_P D vwCl (fl [aW T 0 b 111 (upd g4 10 ((g4 10) + (nI 1)))]) _ := flP_sub hP37 [1] rfl
                                have hDc40 : va_D A (fl [aW T 0 b 111 (upd g4 10 ((g4 10) + (nI 1)))]) := flD_sub hD37 [1] (by decide) rfl
                                refine cl_v (br := [mO q (nI kp) (nI ty) th (nI at_) isF op2_2, aW T 0 (q 6) 3 wh2_2]) (va_runS (As := [.ref b, .int (nI c)]) (rest := []) ⟨hx, hb, hml, hown, hts⟩ (c_X6_skips l D T b (upd g4 10 ((g4 10) + (nI 1))) c n (by omega) (hn0) (hn8) (hna') _) (mkS hts okX6_skips kw_766 kw_767 ⟨rfl, rfl, Nat.le_of_ble_eq_true rfl, Nat.le_of_ble_eq_true rfl⟩) (ps_rw hK hPc40 hDc40) rfl rfl hl18.1 rfl (lv_room (Nat.le_of_ble_eq_true rfl)) dX6_hour_337 ⟨Nat.le_of_ble_eq_true rfl, Nat.le_of_ble_eq_true rfl⟩) hP37 hD37 hS37 hA [0, 2] [1] rfl (by decide) (fun a2_337 H41 locs41 hq_337 hP41 hD41 hS41 => ?_)
                                clear hP37 hD37 hS37 hPc40 hDc40
                                have hP41 : va_P D vwCl (fl [mO q (nI kp) (nI ty) th (nI at_) isF op2_2, aW T 0 (q 6) 3 wh2_2, aW T 0 b 111 a2_337]) _ := hP41
                                have hD41 : va_D A (fl [mO q (nI kp) (nI ty) th (nI at_) isF op2_2, aW T 0 (q 6) 3 wh2_2, aW T 0 b 111 a2_337]) := hD41
                                have hq_337 : skI (upd g4 10 ((g4 10) + (nI 1))) (84 + 9 * c) n n = a2_337 := hq_337
                                have hu_a2_337 : skI (upd g4 10 ((g4 10) + (nI 1))) (84 + 9 * c) n n = a2_337 := hq_337
                                subst hu_a2_337
                                refine lv_iinc (v := nI (c + 1)) (lv' := [(3, .int (nI (c + 1))), (0, .ref (q 0)), (1, .ref b), (2, .int cl)]) hx hb dX6_hour_340 hl18 (k := 3) rfl (nI_add c 1) (by decide) rfl (fun ls42 hl42 => ?_)
                                clear hl18
                                refine lv_goto (tgt := 287) hx hb dX6_hour_343 (by decide) ?_
                                have e10 : upd g4 10 (g4 10 + nI 1) = upd g4 10 (g4 10 + (if wh2_2 c ≤ 0 then nI 0 else nI 1)) := by simp only [c_303, ↓reduceIte]
                                have hw' : (skI (upd g4 10 ((g4 10) + (nI 1))) (84 + 9 * c) n n) = hwI wh2_2 cl g3 (c + 1) := by rw [hwI, ← hw4]; exact (hwS_3 e10 c_319 c_332 hna' hn8).symm
                                have h4' : ∀ j, 84 + 9 * (c + 1) ≤ j → (skI (upd g4 10 ((g4 10) + (nI 1))) (84 + 9 * c) n n) j = a j := by
                                  intro j hj
                                  rw [skI_out (by omega) hn0, pk_un (by omega)]; exact h4 j (by omega)
                                have hP43 : va_P D vwCl (fl [mO q (nI kp) (nI ty) th (nI at_) isF op2_2, aW T 0 b 111 (skI (upd g4 10 ((g4 10) + (nI 1))) (84 + 9 * c) n n), aW T 0 (q 6) 3 wh2_2]) _ := flP_sub hP41 [0, 2, 1] rfl
                                have hD43 : va_D A (fl [mO q (nI kp) (nI ty) th (nI at_) isF op2_2, aW T 0 b 111 (skI (upd g4 10 ((g4 10) + (nI 1))) (84 + 9 * c) n n), aW T 0 (q 6) 3 wh2_2]) := flD_sub hD41 [0, 2, 1] (by decide) rfl
                                have hS43 := hS41
                                clear hP41 hS41 hD41
                                exact ih287 (c + 1) (skI (upd g4 10 ((g4 10) + (nI 1))) (84 + 9 * c) n n) (by omega) (hw') (h4') (by omega) _ _ hP43 hD43 hS43 _ (lv_sub hl42 [1, 2, 3, 0] rfl)
                    exact loop287 ((3 - 0) + 1) 0 g3 (by omega) (rfl) (fun j hj => by rw [hg3, hgI_t _ 12 (by omega) j (by omega), hc, hcI_t _ _ 11 (by omega) j (by omega), show g = (hfI op2_2 a 12).1 by rw [← hg]]; exact hfI_t _ _ 12 (by omega) j (by omega)) (Nat.lt_succ_self _) _ _ hP14 hD14 hS14 _ (lv_sub hl16 [1, 2, 3, 0] rfl)
                  · skip
                    refine lv_aload_n hx hb dX6_hour_213 rfl (lv_at hl14 1 rfl) ?_
                    refine lv_iload_n hx hb dX6_hour_214 rfl (lv_at hl14 3 rfl) ?_
                    refine lv_aload_n hx hb dX6_hour_215 rfl (lv_at hl14 1 rfl) ?_
                    refine lv_iconst (v := nI 3) hx hb dX6_hour_216 (by decide) ?_
                    refine r_iald hx hb hK hP14 1 (f := g3) (n := 111) rfl 3 (by decide) dX6_hour_217 (by decide) ?_
                    have hPc44 : va_P D vwCl (fl [aW T 0 b 111 g3]) _ := flP_sub hP14 [1] rfl
                    have hDc44 : va_D A (fl [aW T 0 b 111 g3]) := flD_sub hD14 [1] (by decide) rfl
                    refine cl_v (br := [mO q (nI kp) (nI ty) th (nI at_) isF op2_2, aW T 0 (q 6) 3 wh2_2]) (va_runS (As := [.ref b, .int (nI k3), .int (g3 3)]) (rest := []) ⟨hx, hb, hml, hown, hts⟩ (c_X6_comes l D T b g3 k3 (g3 3) (by omega) _) (mkS hts okX6_comes kw_806 kw_807 ⟨rfl, rfl, Nat.le_of_ble_eq_true rfl, Nat.le_of_ble_eq_true rfl⟩) (ps_rw hK hPc44 hDc44) rfl rfl hl14.1 rfl (lv_room (Nat.le_of_ble_eq_true rfl)) dX6_hour_218 ⟨Nat.le_of_ble_eq_true rfl, Nat.le_of_ble_eq_true rfl⟩) hP14 hD14 hS14 hA [0, 2] [1] rfl (by decide) (fun a2_218 H45 locs45 hq_218 hP45 hD45 hS45 => ?_)
                    clear hP14 hD14 hS14 hPc44 hDc44
                    have hP45 : va_P D vwCl (fl [mO q (nI kp) (nI ty) th (nI at_) isF op2_2, aW T 0 (q 6) 3 wh2_2, aW T 0 b 111 a2_218]) _ := hP45
                    have hD45 : va_D A (fl [mO q (nI kp) (nI ty) th (nI at_) isF op2_2, aW T 0 (q 6) 3 wh2_2, aW T 0 b 111 a2_218]) := hD45
                    have hq_218 : cmM g3 k3 (g3 3) = a2_218 := hq_218
                    have hu_a2_218 : cmM g3 k3 (g3 3) = a2_218 := hq_218
                    subst hu_a2_218
                    refine lv_bipush (v := nI 12) hx hb dX6_hour_221 (by decide) ?_
                    refine lv_bipush (v := nI 6) hx hb dX6_hour_223 (by decide) ?_
                    refine lv_iload_n hx hb dX6_hour_225 rfl (lv_at hl14 3 rfl) ?_
                    refine lv_imul hx hb dX6_hour_226 ?_
                    refine tp_i (y := nI (6 * k3)) (pk_mul _ _) ?_
                    refine lv_iadd hx hb dX6_hour_227 ?_
                    refine tp_i (y := nI (12 + (6 * k3))) (nI_add _ _) ?_
                    refine lv_istore (lv' := [(4, .int (nI (12 + (6 * k3)))), (0, .ref (q 0)), (1, .ref b), (2, .int cl), (3, .int (nI k3))]) hx hb dX6_hour_228 hl14 (by decide) rfl (fun ls46 hl46 => ?_)
                    clear hl14
                    refine lv_aload_n hx hb dX6_hour_230 rfl (lv_at hl46 2 rfl) ?_
                    refine lv_iload_n hx hb dX6_hour_231 rfl (lv_at hl46 4 rfl) ?_
                    have hPc47 : va_P D vwCl (fl [aW T 0 b 111 (cmM g3 k3 (g3 3))]) _ := hP45.sub [2] rfl
                    refine cr_i (va_runS (As := [.ref b, .int (nI k3)]) (rest := []) ⟨hx, hb, hml, hown, hts⟩ (c_X6_isBrown l D T b (cmM g3 k3 (g3 3)) k3 (by omega)) (mkS hts okX6_isBrown kw_803 kw_804 ⟨rfl, rfl, Nat.le_of_ble_eq_true rfl, Nat.le_of_ble_eq_true rfl⟩) (ps_ro hK hPc47) rfl rfl hl46.1 rfl (lv_room (Nat.le_of_ble_eq_true rfl)) dX6_hour_232 ⟨Nat.le_of_ble_eq_true rfl, Nat.le_of_ble_eq_true rfl⟩) hP45 hS45 (fun r_232 H48 locs48 hq_232 hP48 hS48 => ?_)
                    clear hP45 hS45 hPc47
                    have hD48 := hD45
                    clear hD45
                    have hq_232 : r_232 = bI (brM (cmM g3 k3 (g3 3)) k3) := hq_232
                    subst hq_232
                    refine z_if_eq (tgt := 242) hx hb dX6_hour_235 (by decide) (fun c_235 => ?_) (fun c_235 => ?_)
                    · skip
                      refine lv_iconst (v := nI 0) hx hb dX6_hour_242 (by decide) ?_
                      refine lv_istore (lv' := [(5, .int (nI 0)), (4, .int (nI (12 + (6 * k3)))), (0, .ref (q 0)), (1, .ref b), (2, .int cl), (3, .int (nI k3))]) hx hb dX6_hour_243 hl46 (by decide) rfl (fun ls50 hl50 => ?_)
                      clear hl46
                      refine lv_aload_n hx hb dX6_hour_245 rfl (lv_at hl50 3 rfl) ?_
                      refine lv_iload hx hb dX6_hour_246 (lv_at hl50 1 rfl) ?_
                      refine lv_iconst (v := nI 3) hx hb dX6_hour_248 (by decide) ?_
                      refine lv_iadd hx hb dX6_hour_249 ?_
                      refine tp_i (y := nI (12 + (6 * k3) + 3)) (nI_add _ _) ?_
                      refine lv_dup2_11 hx hb dX6_hour_250 rfl rfl ?_
                      refine r_iald hx hb hK hP48 2 (f := (cmM g3 k3 (g3 3))) (n := 111) rfl (12 + (6 * k3) + 3) (by decide) dX6_hour_251 (by omega) ?_
                      refine lv_iload hx hb dX6_hour_252 (lv_at hl50 0 rfl) ?_
                      refine n_if_ne (tgt := 261) hx hb (by omega) dX6_hour_254 (by decide) (fun c51 => absurd c51 (by decide)) (fun c51 => ?_)
                      refine lv_iconst (v := nI 0) hx hb dX6_hour_257 (by decide) ?_
                      refine lv_goto (tgt := 269) hx hb dX6_hour_258 (by decide) ?_
                      refine lv_iadd hx hb dX6_hour_269 ?_
                      refine r_iast hx hb hK hP48 hD48 hS48 2 (f := (cmM g3 k3 (g3 3))) (n := 111) rfl (12 + (6 * k3) + 3) (by decide) dX6_hour_270 (by omega) (fun (H52 : Heap) (locs52 : List Loc) (hP52 : va_P D vwCl (fl [mO q (nI kp) (nI ty) th (nI at_) isF op2_2, aW T 0 (q 6) 3 wh2_2, aW T 0 b 111 (upd (cmM g3 k3 (g3 3)) (12 + (6 * k3) + 3) (((cmM g3 k3 (g3 3)) (12 + (6 * k3) + 3)) + (nI 0)))]) H52) (hD52 : va_D A (fl [mO q (nI kp) (nI ty) th (nI at_) isF op2_2, aW T 0 (q 6) 3 wh2_2, aW T 0 b 111 (upd (cmM g3 k3 (g3 3)) (12 + (6 * k3) + 3) (((cmM g3 k3 (g3 3)) (12 + (6 * k3) + 3)) + (nI 0)))])) hS52 => ?_)
                      clear hP48 hD48 hS48
                      refine lv_aload_n hx hb dX6_hour_271 rfl (lv_at hl50 3 rfl) ?_
                      refine lv_iload hx hb dX6_hour_272 (lv_at hl50 1 rfl) ?_
                      refine lv_iconst (v := nI 2) hx hb dX6_hour_274 (by decide) ?_
                      refine lv_iadd hx hb dX6_hour_275 ?_
                      refine tp_i (y := nI (12 + (6 * k3) + 2)) (nI_add _ _) ?_
                      refine lv_iload hx hb dX6_hour_276 (lv_at hl50 0 rfl) ?_
                      refine r_iast hx hb hK hP52 hD52 hS52 2 (f := (upd (cmM g3 k3 (g3 3)) (12 + (6 * k3) + 3) (((cmM g3 k3 (g3 3)) (12 + (6 * k3) + 3)) + (nI 0)))) (n := 111) rfl (12 + (6 * k3) + 2) (by decide) dX6_hour_278 (by omega) (fun (H53 : Heap) (locs53 : List Loc) (hP53 : va_P D vwCl (fl [mO q (nI kp) (nI ty) th (nI at_) isF op2_2, aW T 0 (q 6) 3 wh2_2, aW T 0 b 111 (upd (upd (cmM g3 k3 (g3 3)) (12 + (6 * k3) + 3) (((cmM g3 k3 (g3 3)) (12 + (6 * k3) + 3)) + (nI 0))) (12 + (6 * k3) + 2) (nI 0))]) H53) (hD53 : va_D A (fl [mO q (nI kp) (nI ty) th (nI at_) isF op2_2, aW T 0 (q 6) 3 wh2_2, aW T 0 b 111 (upd (upd (cmM g3 k3 (g3 3)) (12 + (6 * k3) + 3) (((cmM g3 k3 (g3 3)) (12 + (6 * k3) + 3)) + (nI 0))) (12 + (6 * k3) + 2) (nI 0))])) hS53 => ?_)
                      clear hP52 hD52 hS52
                      refine lv_iinc (v := nI (k3 + 1)) (lv' := [(3, .int (nI (k3 + 1))), (5, .int (nI 0)), (4, .int (nI (12 + (6 * k3)))), (0, .ref (q 0)), (1, .ref b), (2, .int cl)]) hx hb dX6_hour_279 hl50 (k := 5) rfl (nI_add k3 1) (by decide) rfl (fun ls54 hl54 => ?_)
                      clear hl50
                      refine lv_goto (tgt := 207) hx hb dX6_hour_282 (by decide) ?_
                      have hP55 : va_P D vwCl (fl [mO q (nI kp) (nI ty) th (nI at_) isF op2_2, aW T 0 b 111 (upd (upd (cmM g3 k3 (g3 3)) (12 + (6 * k3) + 3) (((cmM g3 k3 (g3 3)) (12 + (6 * k3) + 3)) + (nI 0))) (12 + (6 * k3) + 2) (nI 0)), aW T 0 (q 6) 3 wh2_2]) _ := flP_sub hP53 [0, 2, 1] rfl
                      have hD55 : va_D A (fl [mO q (nI kp) (nI ty) th (nI at_) isF op2_2, aW T 0 b 111 (upd (upd (cmM g3 k3 (g3 3)) (12 + (6 * k3) + 3) (((cmM g3 k3 (g3 3)) (12 + (6 * k3) + 3)) + (nI 0))) (12 + (6 * k3) + 2) (nI 0)), aW T 0 (q 6) 3 wh2_2]) := flD_sub hD53 [0, 2, 1] (by decide) rfl
                      have hS55 := hS53
                      clear hP53 hS53 hD53
                      exact ih207 (k3 + 1) (upd (upd (cmM g3 k3 (g3 3)) (12 + (6 * k3) + 3) (((cmM g3 k3 (g3 3)) (12 + (6 * k3) + 3)) + (nI 0))) (12 + (6 * k3) + 2) (nI 0)) (by omega) (by rw [hgI, ← hg3]; first | exact (hgS_0 c_235).symm | exact (hgS_1 c_235).symm) (by omega) _ _ hP55 hD55 hS55 _ (lv_sub hl54 [3, 4, 5, 0] rfl)
                    · skip
                      refine lv_iconst (v := nI 1) hx hb dX6_hour_238 (by decide) ?_
                      refine lv_goto (tgt := 243) hx hb dX6_hour_239 (by decide) ?_
                      refine lv_istore (lv' := [(5, .int (nI 1)), (4, .int (nI (12 + (6 * k3)))), (0, .ref (q 0)), (1, .ref b), (2, .int cl), (3, .int (nI k3))]) hx hb dX6_hour_243 hl46 (by decide) rfl (fun ls56 hl56 => ?_)
                      clear hl46
                      refine lv_aload_n hx hb dX6_hour_245 rfl (lv_at hl56 3 rfl) ?_
                      refine lv_iload hx hb dX6_hour_246 (lv_at hl56 1 rfl) ?_
                      refine lv_iconst (v := nI 3) hx hb dX6_hour_248 (by decide) ?_
                      refine lv_iadd hx hb dX6_hour_249 ?_
                      refine tp_i (y := nI (12 + (6 * k3) + 3)) (nI_add _ _) ?_
                      refine lv_dup2_11 hx hb dX6_hour_250 rfl rfl ?_
                      refine r_iald hx hb hK hP48 2 (f := (cmM g3 k3 (g3 3))) (n := 111) rfl (12 + (6 * k3) + 3) (by decide) dX6_hour_251 (by omega) ?_
                      refine lv_iload hx hb dX6_hour_252 (lv_at hl56 0 rfl) ?_
                      refine n_if_ne (tgt := 261) hx hb (by omega) dX6_hour_254 (by decide) (fun c57 => ?_) (fun c57 => absurd c57 (by decide))
                      refine lv_iconst (v := nI 1) hx hb dX6_hour_261 (by decide) ?_
                      refine lv_aload_n hx hb dX6_hour_262 rfl (lv_at hl56 3 rfl) ?_
                      refine lv_iload hx hb dX6_hour_263 (lv_at hl56 1 rfl) ?_
                      refine lv_iconst (v := nI 2) hx hb dX6_hour_265 (by decide) ?_
                      refine lv_iadd hx hb dX6_hour_266 ?_
                      refine tp_i (y := nI (12 + (6 * k3) + 2)) (nI_add _ _) ?_
                      refine r_iald hx hb hK hP48 2 (f := (cmM g3 k3 (g3 3))) (n := 111) rfl (12 + (6 * k3) + 2) (by decide) dX6_hour_267 (by omega) ?_
                      refine lv_iadd hx hb dX6_hour_268 ?_
                      refine lv_iadd hx hb dX6_hour_269 ?_
                      refine r_iast hx hb hK hP48 hD48 hS48 2 (f := (cmM g3 k3 (g3 3))) (n := 111) rfl (12 + (6 * k3) + 3) (by decide) dX6_hour_270 (by omega) (fun (H58 : Heap) (locs58 : List Loc) (hP58 : va_P D vwCl (fl [mO q (nI kp) (nI ty) th (nI at_) isF op2_2, aW T 0 (q 6) 3 wh2_2, aW T 0 b 111 (upd (cmM g3 k3 (g3 3)) (12 + (6 * k3) + 3) (((cmM g3 k3 (g3 3)) (12 + (6 * k3) + 3)) + ((nI 1) + ((cmM g3 k3 (g3 3)) (12 + (6 * k3) + 2)))))]) H58) (hD58 : va_D A (fl [mO q (nI kp) (nI ty) th (nI at_) isF op2_2, aW T 0 (q 6) 3 wh2_2, aW T 0 b 111 (upd (cmM g3 k3 (g3 3)) (12 + (6 * k3) + 3) (((cmM g3 k3 (g3 3)) (12 + (6 * k3) + 3)) + ((nI 1) + ((cmM g3 k3 (g3 3)) (12 + (6 * k3) + 2)))))])) hS58 => ?_)
                      clear hP48 hD48 hS48
                      refine lv_aload_n hx hb dX6_hour_271 rfl (lv_at hl56 3 rfl) ?_
                      refine lv_iload hx hb dX6_hour_272 (lv_at hl56 1 rfl) ?_
                      refine lv_iconst (v := nI 2) hx hb dX6_hour_274 (by decide) ?_
                      refine lv_iadd hx hb dX6_hour_275 ?_
                      refine tp_i (y := nI (12 + (6 * k3) + 2)) (nI_add _ _) ?_
                      refine lv_iload hx hb dX6_hour_276 (lv_at hl56 0 rfl) ?_
                      refine r_iast hx hb hK hP58 hD58 hS58 2 (f := (upd (cmM g3 k3 (g3 3)) (12 + (6 * k3) + 3) (((cmM g3 k3 (g3 3)) (12 + (6 * k3) + 3)) + ((nI 1) + ((cmM g3 k3 (g3 3)) (12 + (6 * k3) + 2)))))) (n := 111) rfl (12 + (6 * k3) + 2) (by decide) dX6_hour_278 (by omega) (fun (H59 : Heap) (locs59 : List Loc) (hP59 : va_P D vwCl (fl [mO q (nI kp) (nI ty) th (nI at_) isF op2_2, aW T 0 (q 6) 3 wh2_2, aW T 0 b 111 (upd (upd (cmM g3 k3 (g3 3)) (12 + (6 * k3) + 3) (((cmM g3 k3 (g3 3)) (12 + (6 * k3) + 3)) + ((nI 1) + ((cmM g3 k3 (g3 3)) (12 + (6 * k3) + 2))))) (12 + (6 * k3) + 2) (nI 1))]) H59) (hD59 : va_D A (fl [mO q (nI kp) (nI ty) th (nI at_) isF op2_2, aW T 0 (q 6) 3 wh2_2, aW T 0 b 111 (upd (upd (cmM g3 k3 (g3 3)) (12 + (6 * k3) + 3) (((cmM g3 k3 (g3 3)) (12 + (6 * k3) + 3)) + ((nI 1) + ((cmM g3 k3 (g3 3)) (12 + (6 * k3) + 2))))) (12 + (6 * k3) + 2) (nI 1))])) hS59 => ?_)
                      clear hP58 hD58 hS58
                      refine lv_iinc (v := nI (k3 + 1)) (lv' := [(3, .int (nI (k3 + 1))), (5, .int (nI 1)), (4, .int (nI (12 + (6 * k3)))), (0, .ref (q 0)), (1, .ref b), (2, .int cl)]) hx hb dX6_hour_279 hl56 (k := 5) rfl (nI_add k3 1) (by decide) rfl (fun ls60 hl60 => ?_)
                      clear hl56
                      refine lv_goto (tgt := 207) hx hb dX6_hour_282 (by decide) ?_
                      have hP61 : va_P D vwCl (fl [mO q (nI kp) (nI ty) th (nI at_) isF op2_2, aW T 0 b 111 (upd (upd (cmM g3 k3 (g3 3)) (12 + (6 * k3) + 3) (((cmM g3 k3 (g3 3)) (12 + (6 * k3) + 3)) + ((nI 1) + ((cmM g3 k3 (g3 3)) (12 + (6 * k3) + 2))))) (12 + (6 * k3) + 2) (nI 1)), aW T 0 (q 6) 3 wh2_2]) _ := flP_sub hP59 [0, 2, 1] rfl
                      have hD61 : va_D A (fl [mO q (nI kp) (nI ty) th (nI at_) isF op2_2, aW T 0 b 111 (upd (upd (cmM g3 k3 (g3 3)) (12 + (6 * k3) + 3) (((cmM g3 k3 (g3 3)) (12 + (6 * k3) + 3)) + ((nI 1) + ((cmM g3 k3 (g3 3)) (12 + (6 * k3) + 2))))) (12 + (6 * k3) + 2) (nI 1)), aW T 0 (q 6) 3 wh2_2]) := flD_sub hD59 [0, 2, 1] (by decide) rfl
                      have hS61 := hS59
                      clear hP59 hS59 hD59
                      exact ih207 (k3 + 1) (upd (upd (cmM g3 k3 (g3 3)) (12 + (6 * k3) + 3) (((cmM g3 k3 (g3 3)) (12 + (6 * k3) + 3)) + ((nI 1) + ((cmM g3 k3 (g3 3)) (12 + (6 * k3) + 2))))) (12 + (6 * k3) + 2) (nI 1)) (by omega) (by rw [hgI, ← hg3]; first | exact (hgS_0 c_235).symm | exact (hgS_1 c_235).symm) (by omega) _ _ hP61 hD61 hS61 _ (lv_sub hl60 [3, 4, 5, 0] rfl)
              exact loop207 ((12 - 0) + 1) 0 g2 (by omega) (rfl) (Nat.lt_succ_self _) _ _ hP10 hD10 hS10 _ (lv_sub hl12 [1, 2, 3, 0] rfl)
            · skip
              have hl10 : lv_has ls10 6 [(0, .ref (q 0)), (1, .ref b), (2, .int cl), (3, .int (nI k1))] := hl10
              refine lv_iload_n hx hb dX6_hour_139 rfl (lv_at hl10 3 rfl) ?_
              refine n_if_lt hx hb (by omega) dX6_hour_140 205 (by decide) ?_
              refine lv_aload_n hx hb dX6_hour_143 rfl (lv_at hl10 0 rfl) ?_
              refine r_get (own := RX6) (C := RX6) (F := TX6) (N := 12) (ci := 6) (v := .int op2_2) hx hb hK hts in_X6 hown hP10 0 rfl rfl 11 (by decide) kw_681 rfl dX6_hour_144 ?_
              refine lv_iload_n hx hb dX6_hour_147 rfl (lv_at hl10 3 rfl) ?_
              refine lv_ishr hx hb dX6_hour_148 ?_
              refine lv_iconst (v := nI 1) hx hb dX6_hour_149 (by decide) ?_
              refine lv_iand hx hb dX6_hour_150 ?_
              refine lv_if_ne (tgt := 199) hx hb dX6_hour_151 (by decide) (fun c_151 => ?_) (fun c_151 => ?_)
              · skip
                refine lv_iinc (v := jm k1) (lv' := [(3, .int (jm k1)), (0, .ref (q 0)), (1, .ref b), (2, .int cl)]) hx hb dX6_hour_199 hl10 (k := 3) rfl (jm_pred k1) (by decide) rfl (fun ls63 hl63 => ?_)
                clear hl10
                refine lv_goto (tgt := 139) hx hb dX6_hour_202 (by decide) ?_
                exact ih139 k1 g2 (by omega) (by rw [show 11 - k1 = (11 - (k1 + 1)) + 1 by omega, hcI, ← hc, show 10 - (11 - (k1 + 1)) = k1 by omega]; first | exact (hcS_1 c_151).symm | exact (hcS_2 c_151 c_162).symm | exact (hcS_3 c_151 c_162).symm) (by omega) _ _ hP10 hD10 hS10 _ (lv_sub hl63 [1, 2, 3, 0] rfl)
              · skip
                refine lv_aload_n hx hb dX6_hour_154 rfl (lv_at hl10 1 rfl) ?_
                refine lv_iload_n hx hb dX6_hour_155 rfl (lv_at hl10 3 rfl) ?_
                refine lv_iconst (v := nI 1) hx hb dX6_hour_156 (by decide) ?_
                refine lv_iadd hx hb dX6_hour_157 ?_
                refine tp_i (y := nI (k1 + 1)) (nI_add _ _) ?_
                have hPc64 : va_P D vwCl (fl [aW T 0 b 111 g2]) _ := hP10.sub [1] rfl
                refine cr_i (va_runS (As := [.ref b, .int (nI (k1 + 1))]) (rest := []) ⟨hx, hb, hml, hown, hts⟩ (c_X6_source l D T b g2 (k1 + 1) (by omega)) (mkS hts okX6_source kw_794 kw_795 ⟨rfl, rfl, Nat.le_of_ble_eq_true rfl, Nat.le_of_ble_eq_true rfl⟩) (ps_ro hK hPc64) rfl rfl hl10.1 rfl (lv_room (Nat.le_of_ble_eq_true rfl)) dX6_hour_158 ⟨Nat.le_of_ble_eq_true rfl, Nat.le_of_ble_eq_true rfl⟩) hP10 hS10 (fun r_158 H65 locs65 hq_158 hP65 hS65 => ?_)
                clear hP10 hS10 hPc64
                have hD65 := hD10
                clear hD10
                have hq_158 : r_158 = srcM g2 (k1 + 1) := hq_158
                subst hq_158
                refine lv_iload_n hx hb dX6_hour_161 rfl (lv_at hl10 3 rfl) ?_
                refine lv_icmp_ne (tgt := 199) hx hb dX6_hour_162 (by decide) (fun c_162 => ?_) (fun c_162 => ?_)
                · skip
                  refine lv_iinc (v := jm k1) (lv' := [(3, .int (jm k1)), (0, .ref (q 0)), (1, .ref b), (2, .int cl)]) hx hb dX6_hour_199 hl10 (k := 3) rfl (jm_pred k1) (by decide) rfl (fun ls67 hl67 => ?_)
                  clear hl10
                  refine lv_goto (tgt := 139) hx hb dX6_hour_202 (by decide) ?_
                  exact ih139 k1 g2 (by omega) (by rw [show 11 - k1 = (11 - (k1 + 1)) + 1 by omega, hcI, ← hc, show 10 - (11 - (k1 + 1)) = k1 by omega]; first | exact (hcS_1 c_151).symm | exact (hcS_2 c_151 c_162).symm | exact (hcS_3 c_151 c_162).symm) (by omega) _ _ hP65 hD65 hS65 _ (lv_sub hl67 [1, 2, 3, 0] rfl)
                · skip
                  refine lv_aload_n hx hb dX6_hour_165 rfl (lv_at hl10 1 rfl) ?_
                  refine lv_iload_n hx hb dX6_hour_166 rfl (lv_at hl10 3 rfl) ?_
                  refine lv_iconst (v := nI 0) hx hb dX6_hour_167 (by decide) ?_
                  have hPc68 : va_P D vwCl (fl [aW T 0 b 111 g2]) _ := hP65.sub [1] rfl
                  refine cr_i (va_runS (As := [.ref b, .int (nI k1), .int (nI 0)]) (rest := []) ⟨hx, hb, hml, hown, hts⟩ (c_X6_of l D T b g2 k1 0 (by omega) (by omega)) (mkS hts okX6_of kw_783 kw_784 ⟨rfl, rfl, Nat.le_of_ble_eq_true rfl, Nat.le_of_ble_eq_true rfl⟩) (ps_ro hK hPc68) rfl rfl hl10.1 rfl (lv_room (Nat.le_of_ble_eq_true rfl)) dX6_hour_168 ⟨Nat.le_of_ble_eq_true rfl, Nat.le_of_ble_eq_true rfl⟩) hP65 hS65 (fun r_168 H69 locs69 hq_168 hP69 hS69 => ?_)
                  clear hP65 hS65 hPc68
                  have hD69 := hD65
                  clear hD65
                  have hq_168 : r_168 = g2 (12 + 6 * k1 + 0) := hq_168
                  subst hq_168
                  refine lv_bipush (v := nI 10) hx hb dX6_hour_171 (by decide) ?_
                  refine lv_idiv hx hb dX6_hour_173 (by decide) ?_
                  refine lv_istore (lv' := [(4, .int ((g2 (12 + 6 * k1 + 0)) / (nI 10))), (0, .ref (q 0)), (1, .ref b), (2, .int cl), (3, .int (nI k1))]) hx hb dX6_hour_174 hl10 (by decide) rfl (fun ls70 hl70 => ?_)
                  clear hl10
                  refine lv_aload_n hx hb dX6_hour_176 rfl (lv_at hl70 2 rfl) ?_
                  refine lv_bipush (v := nI 12) hx hb dX6_hour_177 (by decide) ?_
                  refine lv_bipush (v := nI 6) hx hb dX6_hour_179 (by decide) ?_
                  refine lv_iload_n hx hb dX6_hour_181 rfl (lv_at hl70 4 rfl) ?_
                  refine lv_imul hx hb dX6_hour_182 ?_
                  refine tp_i (y := nI (6 * k1)) (pk_mul _ _) ?_
                  refine lv_iadd hx hb dX6_hour_183 ?_
                  refine tp_i (y := nI (12 + (6 * k1))) (nI_add _ _) ?_
                  refine lv_dup2_11 hx hb dX6_hour_184 rfl rfl ?_
                  refine r_iald hx hb hK hP69 1 (f := g2) (n := 111) rfl (12 + (6 * k1)) (by decide) dX6_hour_185 (by omega) ?_
                  refine lv_iload hx hb dX6_hour_186 (lv_at hl70 0 rfl) ?_
                  refine lv_isub hx hb dX6_hour_188 ?_
                  refine r_iast hx hb hK hP69 hD69 hS69 1 (f := g2) (n := 111) rfl (12 + (6 * k1)) (by decide) dX6_hour_189 (by omega) (fun (H71 : Heap) (locs71 : List Loc) (hP71 : va_P D vwCl (fl [mO q (nI kp) (nI ty) th (nI at_) isF op2_2, aW T 0 b 111 (upd g2 (12 + (6 * k1)) ((g2 (12 + (6 * k1))) - ((g2 (12 + 6 * k1 + 0)) / (nI 10)))), aW T 0 (q 6) 3 wh2_2]) H71) (hD71 : va_D A (fl [mO q (nI kp) (nI ty) th (nI at_) isF op2_2, aW T 0 b 111 (upd g2 (12 + (6 * k1)) ((g2 (12 + (6 * k1))) - ((g2 (12 + 6 * k1 + 0)) / (nI 10)))), aW T 0 (q 6) 3 wh2_2])) hS71 => ?_)
                  clear hP69 hD69 hS69
                  refine lv_aload_n hx hb dX6_hour_190 rfl (lv_at hl70 2 rfl) ?_
                  refine lv_iload_n hx hb dX6_hour_191 rfl (lv_at hl70 4 rfl) ?_
                  refine lv_iconst (v := nI 1) hx hb dX6_hour_192 (by decide) ?_
                  refine lv_iadd hx hb dX6_hour_193 ?_
                  refine tp_i (y := nI (k1 + 1)) (nI_add _ _) ?_
                  refine lv_iload hx hb dX6_hour_194 (lv_at hl70 0 rfl) ?_
                  have hPc72 : va_P D vwCl (fl [aW T 0 b 111 (upd g2 (12 + (6 * k1)) ((g2 (12 + (6 * k1))) - ((g2 (12 + 6 * k1 + 0)) / (nI 10))))]) _ := flP_sub hP71 [1] rfl
                  have hDc72 : va_D A (fl [aW T 0 b 111 (upd g2 (12 + (6 * k1)) ((g2 (12 + (6 * k1))) - ((g2 (12 + 6 * k1 + 0)) / (nI 10))))]) := flD_sub hD71 [1] (by decide) rfl
                  refine cl_v (br := [mO q (nI kp) (nI ty) th (nI at_) isF op2_2, aW T 0 (q 6) 3 wh2_2]) (va_runS (As := [.ref b, .int (nI (k1 + 1)), .int ((g2 (12 + 6 * k1 + 0)) / (nI 10))]) (rest := []) ⟨hx, hb, hml, hown, hts⟩ (c_X6_comes l D T b (upd g2 (12 + (6 * k1)) ((g2 (12 + (6 * k1))) - ((g2 (12 + 6 * k1 + 0)) / (nI 10)))) (k1 + 1) ((g2 (12 + 6 * k1 + 0)) / (nI 10)) (by omega) _) (mkS hts okX6_comes kw_806 kw_807 ⟨rfl, rfl, Nat.le_of_ble_eq_true rfl, Nat.le_of_ble_eq_true rfl⟩) (ps_rw hK hPc72 hDc72) rfl rfl hl70.1 rfl (lv_room (Nat.le_of_ble_eq_true rfl)) dX6_hour_196 ⟨Nat.le_of_ble_eq_true rfl, Nat.le_of_ble_eq_true rfl⟩) hP71 hD71 hS71 hA [0, 2] [1] rfl (by decide) (fun a2_196 H73 locs73 hq_196 hP73 hD73 hS73 => ?_)
                  clear hP71 hD71 hS71 hPc72 hDc72
                  have hP73 : va_P D vwCl (fl [mO q (nI kp) (nI ty) th (nI at_) isF op2_2, aW T 0 (q 6) 3 wh2_2, aW T 0 b 111 a2_196]) _ := hP73
                  have hD73 : va_D A (fl [mO q (nI kp) (nI ty) th (nI at_) isF op2_2, aW T 0 (q 6) 3 wh2_2, aW T 0 b 111 a2_196]) := hD73
                  have hq_196 : cmM (upd g2 (12 + (6 * k1)) ((g2 (12 + (6 * k1))) - ((g2 (12 + 6 * k1 + 0)) / (nI 10)))) (k1 + 1) ((g2 (12 + 6 * k1 + 0)) / (nI 10)) = a2_196 := hq_196
                  have hu_a2_196 : cmM (upd g2 (12 + (6 * k1)) ((g2 (12 + (6 * k1))) - ((g2 (12 + 6 * k1 + 0)) / (nI 10)))) (k1 + 1) ((g2 (12 + 6 * k1 + 0)) / (nI 10)) = a2_196 := hq_196
                  subst hu_a2_196
                  refine lv_iinc (v := jm k1) (lv' := [(3, .int (jm k1)), (4, .int ((g2 (12 + 6 * k1 + 0)) / (nI 10))), (0, .ref (q 0)), (1, .ref b), (2, .int cl)]) hx hb dX6_hour_199 hl70 (k := 4) rfl (jm_pred k1) (by decide) rfl (fun ls74 hl74 => ?_)
                  clear hl70
                  refine lv_goto (tgt := 139) hx hb dX6_hour_202 (by decide) ?_
                  have hP75 : va_P D vwCl (fl [mO q (nI kp) (nI ty) th (nI at_) isF op2_2, aW T 0 b 111 (cmM (upd g2 (12 + (6 * k1)) ((g2 (12 + (6 * k1))) - ((g2 (12 + 6 * k1 + 0)) / (nI 10)))) (k1 + 1) ((g2 (12 + 6 * k1 + 0)) / (nI 10))), aW T 0 (q 6) 3 wh2_2]) _ := flP_sub hP73 [0, 2, 1] rfl
                  have hD75 : va_D A (fl [mO q (nI kp) (nI ty) th (nI at_) isF op2_2, aW T 0 b 111 (cmM (upd g2 (12 + (6 * k1)) ((g2 (12 + (6 * k1))) - ((g2 (12 + 6 * k1 + 0)) / (nI 10)))) (k1 + 1) ((g2 (12 + 6 * k1 + 0)) / (nI 10))), aW T 0 (q 6) 3 wh2_2]) := flD_sub hD73 [0, 2, 1] (by decide) rfl
                  have hS75 := hS73
                  clear hP73 hS73 hD73
                  exact ih139 k1 (cmM (upd g2 (12 + (6 * k1)) ((g2 (12 + (6 * k1))) - ((g2 (12 + 6 * k1 + 0)) / (nI 10)))) (k1 + 1) ((g2 (12 + 6 * k1 + 0)) / (nI 10))) (by omega) (by rw [show 11 - k1 = (11 - (k1 + 1)) + 1 by omega, hcI, ← hc, show 10 - (11 - (k1 + 1)) = k1 by omega]; first | exact (hcS_1 c_151).symm | exact (hcS_2 c_151 c_162).symm | exact (hcS_3 c_151 c_162).symm) (by omega) _ _ hP75 hD75 hS75 _ (lv_sub hl74 [2, 3, 4, 0] rfl)
        exact loop139 (11 + 1) 11 g (by omega) (rfl) (Nat.lt_succ_self _) _ _ hP6 hD6 hS6 _ (lv_sub hl8 [1, 2, 3, 0] rfl)
      · skip
        refine lv_aload_n hx hb dX6_hour_15 rfl (lv_at hl6 0 rfl) ?_
        refine r_get (own := RX6) (C := RX6) (F := TX6) (N := 12) (ci := 6) (v := .int op2_2) hx hb hK hts in_X6 hown hP6 0 rfl rfl 11 (by decide) kw_681 rfl dX6_hour_16 ?_
        refine lv_iload_n hx hb dX6_hour_19 rfl (lv_at hl6 3 rfl) ?_
        refine lv_ishr hx hb dX6_hour_20 ?_
        refine lv_iconst (v := nI 1) hx hb dX6_hour_21 (by decide) ?_
        refine lv_iand hx hb dX6_hour_22 ?_
        refine lv_iconst (v := nI 1) hx hb dX6_hour_23 (by decide) ?_
        refine lv_icmp_ne (tgt := 130) hx hb dX6_hour_24 (by decide) (fun c_24 => ?_) (fun c_24 => ?_)
        · skip
          refine lv_iinc (v := nI (k + 1)) (lv' := [(3, .int (nI (k + 1))), (0, .ref (q 0)), (1, .ref b), (2, .int cl)]) hx hb dX6_hour_130 hl6 (k := 3) rfl (nI_add k 1) (by decide) rfl (fun ls77 hl77 => ?_)
          clear hl6
          refine lv_goto (tgt := 9) hx hb dX6_hour_133 (by decide) ?_
          exact ih9 (k + 1) g cl (by omega) (by rw [hfI, ← hg]; first | exact (hfS_n (w := (g, cl)) c_24).symm | exact (hfS_0 (w := (g, cl)) c_24 hx6 c_118).symm | exact (hfS_1 (w := (g, cl)) c_24 hx6 c_118).symm) (by omega) _ _ hP6 hD6 hS6 _ (lv_sub hl77 [1, 2, 3, 0] rfl)
        · skip
          refine lv_aload_n hx hb dX6_hour_27 rfl (lv_at hl6 1 rfl) ?_
          refine lv_iload_n hx hb dX6_hour_28 rfl (lv_at hl6 3 rfl) ?_
          refine lv_aload_n hx hb dX6_hour_29 rfl (lv_at hl6 0 rfl) ?_
          refine r_get (own := RX6) (C := RX6) (F := TX6) (N := 12) (ci := 6) (v := .int op2_2) hx hb hK hts in_X6 hown hP6 0 rfl rfl 11 (by decide) kw_681 rfl dX6_hour_30 ?_
          have hPc78 : va_P D vwCl (fl [aW T 0 b 111 g]) _ := hP6.sub [1] rfl
          refine cr_i (va_runS (As := [.ref b, .int (nI k), .int op2_2]) (rest := []) ⟨hx, hb, hml, hown, hts⟩ (c_X6_pressureAt l D T b g k op2_2 (by omega)) (mkS hts okX6_pressureAt kw_797 kw_798 ⟨rfl, rfl, Nat.le_of_ble_eq_true rfl, Nat.le_of_ble_eq_true rfl⟩) (ps_ro hK hPc78) rfl rfl hl6.1 rfl (lv_room (Nat.le_of_ble_eq_true rfl)) dX6_hour_33 ⟨Nat.le_of_ble_eq_true rfl, Nat.le_of_ble_eq_true rfl⟩) hP6 hS6 (fun r_33 H79 locs79 hq_33 hP79 hS79 => ?_)
          clear hP6 hS6 hPc78
          have hD79 := hD6
          clear hD6
          have hq_33 : r_33 = prM g op2_2 k := hq_33
          subst hq_33
          refine lv_aload_n hx hb dX6_hour_36 rfl (lv_at hl6 1 rfl) ?_
          refine lv_iconst (v := nI 2) hx hb dX6_hour_37 (by decide) ?_
          refine r_iald hx hb hK hP79 1 (f := g) (n := 111) rfl 2 (by decide) dX6_hour_38 (by decide) ?_
          refine lv_imul hx hb dX6_hour_39 ?_
          refine lv_istore (lv' := [(4, .int ((prM g op2_2 k) * (g 2))), (0, .ref (q 0)), (1, .ref b), (2, .int cl), (3, .int (nI k))]) hx hb dX6_hour_40 hl6 (by decide) rfl (fun ls80 hl80 => ?_)
          clear hl6
          refine lv_iload hx hb dX6_hour_42 (lv_at hl80 0 rfl) ?_
          refine lv_aload_n hx hb dX6_hour_44 rfl (lv_at hl80 2 rfl) ?_
          refine lv_iload_n hx hb dX6_hour_45 rfl (lv_at hl80 4 rfl) ?_
          refine lv_iconst (v := nI 0) hx hb dX6_hour_46 (by decide) ?_
          have hPc81 : va_P D vwCl (fl [aW T 0 b 111 g]) _ := hP79.sub [1] rfl
          refine cr_i (va_runS (As := [.ref b, .int (nI k), .int (nI 0)]) (rest := [.int ((prM g op2_2 k) * (g 2))]) ⟨hx, hb, hml, hown, hts⟩ (c_X6_of l D T b g k 0 (by omega) (by omega)) (mkS hts okX6_of kw_783 kw_784 ⟨rfl, rfl, Nat.le_of_ble_eq_true rfl, Nat.le_of_ble_eq_true rfl⟩) (ps_ro hK hPc81) rfl rfl hl80.1 rfl (lv_room (Nat.le_of_ble_eq_true rfl)) dX6_hour_47 ⟨Nat.le_of_ble_eq_true rfl, Nat.le_of_ble_eq_true rfl⟩) hP79 hS79 (fun r_47 H82 locs82 hq_47 hP82 hS82 => ?_)
          clear hP79 hS79 hPc81
          have hD82 := hD79
          clear hD79
          have hq_47 : r_47 = g (12 + 6 * k + 0) := hq_47
          subst hq_47
          refine lv_icmp_ge (tgt := 58) hx hb dX6_hour_50 (by decide) (fun c_50 => ?_) (fun c_50 => ?_)
          · skip
            refine lv_aload_n hx hb dX6_hour_58 rfl (lv_at hl80 2 rfl) ?_
            refine lv_iload_n hx hb dX6_hour_59 rfl (lv_at hl80 4 rfl) ?_
            refine lv_iconst (v := nI 0) hx hb dX6_hour_60 (by decide) ?_
            have hPc84 : va_P D vwCl (fl [aW T 0 b 111 g]) _ := hP82.sub [1] rfl
            refine cr_i (va_runS (As := [.ref b, .int (nI k), .int (nI 0)]) (rest := []) ⟨hx, hb, hml, hown, hts⟩ (c_X6_of l D T b g k 0 (by omega) (by omega)) (mkS hts okX6_of kw_783 kw_784 ⟨rfl, rfl, Nat.le_of_ble_eq_true rfl, Nat.le_of_ble_eq_true rfl⟩) (ps_ro hK hPc84) rfl rfl hl80.1 rfl (lv_room (Nat.le_of_ble_eq_true rfl)) dX6_hour_61 ⟨Nat.le_of_ble_eq_true rfl, Nat.le_of_ble_eq_true rfl⟩) hP82 hS82 (fun r_61 H85 locs85 hq_61 hP85 hS85 => ?_)
            clear hP82 hS82 hPc84
            have hD85 := hD82
            clear hD82
            have hq_61 : r_61 = g (12 + 6 * k + 0) := hq_61
            subst hq_61
            refine lv_topi (fun x6 e_x6 => ?_)
            have hx6 : x6 = mn (prM g op2_2 k * g 2) (g (12 + 6 * k + 0)) := by rw [e_x6]; simp only [mn, c_12, c_24, c_50, if_true, ↓reduceIte]
            refine lv_istore (lv' := [(5, .int x6), (4, .int ((prM g op2_2 k) * (g 2))), (0, .ref (q 0)), (1, .ref b), (2, .int cl), (3, .int (nI k))]) hx hb dX6_hour_64 hl80 (by decide) rfl (fun ls86 hl86 => ?_)
            clear hl80
            refine lv_aload_n hx hb dX6_hour_66 rfl (lv_at hl86 3 rfl) ?_
            refine lv_bipush (v := nI 12) hx hb dX6_hour_67 (by decide) ?_
            refine lv_bipush (v := nI 6) hx hb dX6_hour_69 (by decide) ?_
            refine lv_iload_n hx hb dX6_hour_71 rfl (lv_at hl86 5 rfl) ?_
            refine lv_imul hx hb dX6_hour_72 ?_
            refine tp_i (y := nI (6 * k)) (pk_mul _ _) ?_
            refine lv_iadd hx hb dX6_hour_73 ?_
            refine tp_i (y := nI (12 + (6 * k))) (nI_add _ _) ?_
            refine lv_dup2_11 hx hb dX6_hour_74 rfl rfl ?_
            refine r_iald hx hb hK hP85 1 (f := g) (n := 111) rfl (12 + (6 * k)) (by decide) dX6_hour_75 (by omega) ?_
            refine lv_iload hx hb dX6_hour_76 (lv_at hl86 0 rfl) ?_
            refine lv_isub hx hb dX6_hour_78 ?_
            refine r_iast hx hb hK hP85 hD85 hS85 1 (f := g) (n := 111) rfl (12 + (6 * k)) (by decide) dX6_hour_79 (by omega) (fun (H87 : Heap) (locs87 : List Loc) (hP87 : va_P D vwCl (fl [mO q (nI kp) (nI ty) th (nI at_) isF op2_2, aW T 0 b 111 (upd g (12 + (6 * k)) ((g (12 + (6 * k))) - x6)), aW T 0 (q 6) 3 wh2_2]) H87) (hD87 : va_D A (fl [mO q (nI kp) (nI ty) th (nI at_) isF op2_2, aW T 0 b 111 (upd g (12 + (6 * k)) ((g (12 + (6 * k))) - x6)), aW T 0 (q 6) 3 wh2_2])) hS87 => ?_)
            clear hP85 hD85 hS85
            refine lv_aload_n hx hb dX6_hour_80 rfl (lv_at hl86 3 rfl) ?_
            refine lv_bipush (v := nI 12) hx hb dX6_hour_81 (by decide) ?_
            refine lv_bipush (v := nI 6) hx hb dX6_hour_83 (by decide) ?_
            refine lv_iload_n hx hb dX6_hour_85 rfl (lv_at hl86 5 rfl) ?_
            refine lv_imul hx hb dX6_hour_86 ?_
            refine tp_i (y := nI (6 * k)) (pk_mul _ _) ?_
            refine lv_iadd hx hb dX6_hour_87 ?_
            refine tp_i (y := nI (12 + (6 * k))) (nI_add _ _) ?_
            refine lv_iconst (v := nI 4) hx hb dX6_hour_88 (by decide) ?_
            refine lv_iadd hx hb dX6_hour_89 ?_
            refine tp_i (y := nI (12 + (6 * k) + 4)) (nI_add _ _) ?_
            refine lv_dup2_11 hx hb dX6_hour_90 rfl rfl ?_
            refine r_iald hx hb hK hP87 1 (f := (upd g (12 + (6 * k)) ((g (12 + (6 * k))) - x6))) (n := 111) rfl (12 + (6 * k) + 4) (by decide) dX6_hour_91 (by omega) ?_
            refine lv_iload hx hb dX6_hour_92 (lv_at hl86 0 rfl) ?_
            refine lv_iadd hx hb dX6_hour_94 ?_
            refine r_iast hx hb hK hP87 hD87 hS87 1 (f := (upd g (12 + (6 * k)) ((g (12 + (6 * k))) - x6))) (n := 111) rfl (12 + (6 * k) + 4) (by decide) dX6_hour_95 (by omega) (fun (H88 : Heap) (locs88 : List Loc) (hP88 : va_P D vwCl (fl [mO q (nI kp) (nI ty) th (nI at_) isF op2_2, aW T 0 b 111 (upd (upd g (12 + (6 * k)) ((g (12 + (6 * k))) - x6)) (12 + (6 * k) + 4) (((upd g (12 + (6 * k)) ((g (12 + (6 * k))) - x6)) (12 + (6 * k) + 4)) + x6)), aW T 0 (q 6) 3 wh2_2]) H88) (hD88 : va_D A (fl [mO q (nI kp) (nI ty) th (nI at_) isF op2_2, aW T 0 b 111 (upd (upd g (12 + (6 * k)) ((g (12 + (6 * k))) - x6)) (12 + (6 * k) + 4) (((upd g (12 + (6 * k)) ((g (12 + (6 * k))) - x6)) (12 + (6 * k) + 4)) + x6)), aW T 0 (q 6) 3 wh2_2])) hS88 => ?_)
            clear hP87 hD87 hS87
            refine lv_aload_n hx hb dX6_hour_96 rfl (lv_at hl86 3 rfl) ?_
            refine lv_bipush (v := nI 12) hx hb dX6_hour_97 (by decide) ?_
            refine lv_bipush (v := nI 6) hx hb dX6_hour_99 (by decide) ?_
            refine lv_iload_n hx hb dX6_hour_101 rfl (lv_at hl86 5 rfl) ?_
            refine lv_imul hx hb dX6_hour_102 ?_
            refine tp_i (y := nI (6 * k)) (pk_mul _ _) ?_
            refine lv_iadd hx hb dX6_hour_103 ?_
            refine tp_i (y := nI (12 + (6 * k))) (nI_add _ _) ?_
            refine lv_iconst (v := nI 5) hx hb dX6_hour_104 (by decide) ?_
            refine lv_iadd hx hb dX6_hour_105 ?_
            refine tp_i (y := nI (12 + (6 * k) + 5)) (nI_add _ _) ?_
            refine lv_dup2_11 hx hb dX6_hour_106 rfl rfl ?_
            refine r_iald hx hb hK hP88 1 (f := (upd (upd g (12 + (6 * k)) ((g (12 + (6 * k))) - x6)) (12 + (6 * k) + 4) (((upd g (12 + (6 * k)) ((g (12 + (6 * k))) - x6)) (12 + (6 * k) + 4)) + x6))) (n := 111) rfl (12 + (6 * k) + 5) (by decide) dX6_hour_107 (by omega) ?_
            refine lv_iconst (v := nI 1) hx hb dX6_hour_108 (by decide) ?_
            refine lv_iadd hx hb dX6_hour_109 ?_
            refine r_iast hx hb hK hP88 hD88 hS88 1 (f := (upd (upd g (12 + (6 * k)) ((g (12 + (6 * k))) - x6)) (12 + (6 * k) + 4) (((upd g (12 + (6 * k)) ((g (12 + (6 * k))) - x6)) (12 + (6 * k) + 4)) + x6))) (n := 111) rfl (12 + (6 * k) + 5) (by decide) dX6_hour_110 (by omega) (fun (H89 : Heap) (locs89 : List Loc) (hP89 : va_P D vwCl (fl [mO q (nI kp) (nI ty) th (nI at_) isF op2_2, aW T 0 b 111 (upd (upd (upd g (12 + (6 * k)) ((g (12 + (6 * k))) - x6)) (12 + (6 * k) + 4) (((upd g (12 + (6 * k)) ((g (12 + (6 * k))) - x6)) (12 + (6 * k) + 4)) + x6)) (12 + (6 * k) + 5) (((upd (upd g (12 + (6 * k)) ((g (12 + (6 * k))) - x6)) (12 + (6 * k) + 4) (((upd g (12 + (6 * k)) ((g (12 + (6 * k))) - x6)) (12 + (6 * k) + 4)) + x6)) (12 + (6 * k) + 5)) + (nI 1))), aW T 0 (q 6) 3 wh2_2]) H89) (hD89 : va_D A (fl [mO q (nI kp) (nI ty) th (nI at_) isF op2_2, aW T 0 b 111 (upd (upd (upd g (12 + (6 * k)) ((g (12 + (6 * k))) - x6)) (12 + (6 * k) + 4) (((upd g (12 + (6 * k)) ((g (12 + (6 * k))) - x6)) (12 + (6 * k) + 4)) + x6)) (12 + (6 * k) + 5) (((upd (upd g (12 + (6 * k)) ((g (12 + (6 * k))) - x6)) (12 + (6 * k) + 4) (((upd g (12 + (6 * k)) ((g (12 + (6 * k))) - x6)) (12 + (6 * k) + 4)) + x6)) (12 + (6 * k) + 5)) + (nI 1))), aW T 0 (q 6) 3 wh2_2])) hS89 => ?_)
            clear hP88 hD88 hS88
            refine lv_iload_n hx hb dX6_hour_111 rfl (lv_at hl86 4 rfl) ?_
            refine lv_aload_n hx hb dX6_hour_112 rfl (lv_at hl86 3 rfl) ?_
            refine lv_iload_n hx hb dX6_hour_113 rfl (lv_at hl86 5 rfl) ?_
            refine lv_iconst (v := nI 0) hx hb dX6_hour_114 (by decide) ?_
            have hPc90 : va_P D vwCl (fl [aW T 0 b 111 (upd (upd (upd g (12 + (6 * k)) ((g (12 + (6 * k))) - x6)) (12 + (6 * k) + 4) (((upd g (12 + (6 * k)) ((g (12 + (6 * k))) - x6)) (12 + (6 * k) + 4)) + x6)) (12 + (6 * k) + 5) (((upd (upd g (12 + (6 * k)) ((g (12 + (6 * k))) - x6)) (12 + (6 * k) + 4) (((upd g (12 + (6 * k)) ((g (12 + (6 * k))) - x6)) (12 + (6 * k) + 4)) + x6)) (12 + (6 * k) + 5)) + (nI 1)))]) _ := hP89.sub [1] rfl
            refine cr_i (va_runS (As := [.ref b, .int (nI k), .int (nI 0)]) (rest := [.int cl]) ⟨hx, hb, hml, hown, hts⟩ (c_X6_of l D T b (upd (upd (upd g (12 + (6 * k)) ((g (12 + (6 * k))) - x6)) (12 + (6 * k) + 4) (((upd g (12 + (6 * k)) ((g (12 + (6 * k))) - x6)) (12 + (6 * k) + 4)) + x6)) (12 + (6 * k) + 5) (((upd (upd g (12 + (6 * k)) ((g (12 + (6 * k))) - x6)) (12 + (6 * k) + 4) (((upd g (12 + (6 * k)) ((g (12 + (6 * k))) - x6)) (12 + (6 * k) + 4)) + x6)) (12 + (6 * k) + 5)) + (nI 1))) k 0 (by omega) (by omega)) (mkS hts okX6_of kw_783 kw_784 ⟨rfl, rfl, Nat.le_of_ble_eq_true rfl, Nat.le_of_ble_eq_true rfl⟩) (ps_ro hK hPc90) rfl rfl hl86.1 rfl (lv_room (Nat.le_of_ble_eq_true rfl)) dX6_hour_115 ⟨Nat.le_of_ble_eq_true rfl, Nat.le_of_ble_eq_true rfl⟩) hP89 hS89 (fun r_115 H91 locs91 hq_115 hP91 hS91 => ?_)
            clear hP89 hS89 hPc90
            have hD91 := hD89
            clear hD89
            have hq_115 : r_115 = (upd (upd (upd g (12 + (6 * k)) ((g (12 + (6 * k))) - x6)) (12 + (6 * k) + 4) (((upd g (12 + (6 * k)) ((g (12 + (6 * k))) - x6)) (12 + (6 * k) + 4)) + x6)) (12 + (6 * k) + 5) (((upd (upd g (12 + (6 * k)) ((g (12 + (6 * k))) - x6)) (12 + (6 * k) + 4) (((upd g (12 + (6 * k)) ((g (12 + (6 * k))) - x6)) (12 + (6 * k) + 4)) + x6)) (12 + (6 * k) + 5)) + (nI 1))) (12 + 6 * k + 0) := hq_115
            subst hq_115
            refine lv_if_ne (tgt := 127) hx hb dX6_hour_118 (by decide) (fun c_118 => ?_) (fun c_118 => ?_)
            · skip
              refine lv_iconst (v := nI 0) hx hb dX6_hour_127 (by decide) ?_
              refine lv_ior hx hb dX6_hour_128 ?_
              refine lv_istore_n (lv' := [(2, .int (cl ||| (nI 0))), (5, .int x6), (4, .int ((prM g op2_2 k) * (g 2))), (0, .ref (q 0)), (1, .ref b), (3, .int (nI k))]) hx hb dX6_hour_129 rfl hl86 (by decide) rfl (fun ls93 hl93 => ?_)
              clear hl86
              refine lv_iinc (v := nI (k + 1)) (lv' := [(3, .int (nI (k + 1))), (2, .int (cl ||| (nI 0))), (5, .int x6), (4, .int ((prM g op2_2 k) * (g 2))), (0, .ref (q 0)), (1, .ref b)]) hx hb dX6_hour_130 hl93 (k := 5) rfl (nI_add k 1) (by decide) rfl (fun ls94 hl94 => ?_)
              clear hl93
              refine lv_goto (tgt := 9) hx hb dX6_hour_133 (by decide) ?_
              exact ih9 (k + 1) (upd (upd (upd g (12 + (6 * k)) ((g (12 + (6 * k))) - x6)) (12 + (6 * k) + 4) (((upd g (12 + (6 * k)) ((g (12 + (6 * k))) - x6)) (12 + (6 * k) + 4)) + x6)) (12 + (6 * k) + 5) (((upd (upd g (12 + (6 * k)) ((g (12 + (6 * k))) - x6)) (12 + (6 * k) + 4) (((upd g (12 + (6 * k)) ((g (12 + (6 * k))) - x6)) (12 + (6 * k) + 4)) + x6)) (12 + (6 * k) + 5)) + (nI 1))) (cl ||| (nI 0)) (by omega) (by rw [hfI, ← hg]; first | exact (hfS_n (w := (g, cl)) c_24).symm | exact (hfS_0 (w := (g, cl)) c_24 hx6 c_118).symm | exact (hfS_1 (w := (g, cl)) c_24 hx6 c_118).symm) (by omega) _ _ hP91 hD91 hS91 _ (lv_sub hl94 [4, 5, 1, 0] rfl)
            · skip
              refine lv_iconst (v := nI 1) hx hb dX6_hour_121 (by decide) ?_
              refine lv_iload_n hx hb dX6_hour_122 rfl (lv_at hl86 5 rfl) ?_
              refine lv_ishl hx hb dX6_hour_123 ?_
              refine lv_goto (tgt := 128) hx hb dX6_hour_124 (by decide) ?_
              refine lv_ior hx hb dX6_hour_128 ?_
              refine lv_istore_n (lv' := [(2, .int (cl ||| ((nI 1) <<< ((nI k) &&& 31)))), (5, .int x6), (4, .int ((prM g op2_2 k) * (g 2))), (0, .ref (q 0)), (1, .ref b), (3, .int (nI k))]) hx hb dX6_hour_129 rfl hl86 (by decide) rfl (fun ls95 hl95 => ?_)
              clear hl86
              refine lv_iinc (v := nI (k + 1)) (lv' := [(3, .int (nI (k + 1))), (2, .int (cl ||| ((nI 1) <<< ((nI k) &&& 31)))), (5, .int x6), (4, .int ((prM g op2_2 k) * (g 2))), (0, .ref (q 0)), (1, .ref b)]) hx hb dX6_hour_130 hl95 (k := 5) rfl (nI_add k 1) (by decide) rfl (fun ls96 hl96 => ?_)
              clear hl95
              refine lv_goto (tgt := 9) hx hb dX6_hour_133 (by decide) ?_
              exact ih9 (k + 1) (upd (upd (upd g (12 + (6 * k)) ((g (12 + (6 * k))) - x6)) (12 + (6 * k) + 4) (((upd g (12 + (6 * k)) ((g (12 + (6 * k))) - x6)) (12 + (6 * k) + 4)) + x6)) (12 + (6 * k) + 5) (((upd (upd g (12 + (6 * k)) ((g (12 + (6 * k))) - x6)) (12 + (6 * k) + 4) (((upd g (12 + (6 * k)) ((g (12 + (6 * k))) - x6)) (12 + (6 * k) + 4)) + x6)) (12 + (6 * k) + 5)) + (nI 1))) (cl ||| ((nI 1) <<< ((nI k) &&& 31))) (by omega) (by rw [hfI, ← hg]; first | exact (hfS_n (w := (g, cl)) c_24).symm | exact (hfS_0 (w := (g, cl)) c_24 hx6 c_118).symm | exact (hfS_1 (w := (g, cl)) c_24 hx6 c_118).symm) (by omega) _ _ hP91 hD91 hS91 _ (lv_sub hl96 [4, 5, 1, 0] rfl)
          · skip
            refine lv_iload hx hb dX6_hour_53 (lv_at hl80 0 rfl) ?_
            refine lv_goto (tgt := 64) hx hb dX6_hour_55 (by decide) ?_
            refine lv_topi (fun x6 e_x6 => ?_)
            have hx6 : x6 = mn (prM g op2_2 k * g 2) (g (12 + 6 * k + 0)) := by rw [e_x6]; simp only [mn, c_12, c_24, c_50, if_true, ↓reduceIte]
            refine lv_istore (lv' := [(5, .int x6), (4, .int ((prM g op2_2 k) * (g 2))), (0, .ref (q 0)), (1, .ref b), (2, .int cl), (3, .int (nI k))]) hx hb dX6_hour_64 hl80 (by decide) rfl (fun ls97 hl97 => ?_)
            clear hl80
            refine lv_aload_n hx hb dX6_hour_66 rfl (lv_at hl97 3 rfl) ?_
            refine lv_bipush (v := nI 12) hx hb dX6_hour_67 (by decide) ?_
            refine lv_bipush (v := nI 6) hx hb dX6_hour_69 (by decide) ?_
            refine lv_iload_n hx hb dX6_hour_71 rfl (lv_at hl97 5 rfl) ?_
            refine lv_imul hx hb dX6_hour_72 ?_
            refine tp_i (y := nI (6 * k)) (pk_mul _ _) ?_
            refine lv_iadd hx hb dX6_hour_73 ?_
            refine tp_i (y := nI (12 + (6 * k))) (nI_add _ _) ?_
            refine lv_dup2_11 hx hb dX6_hour_74 rfl rfl ?_
            refine r_iald hx hb hK hP82 1 (f := g) (n := 111) rfl (12 + (6 * k)) (by decide) dX6_hour_75 (by omega) ?_
            refine lv_iload hx hb dX6_hour_76 (lv_at hl97 0 rfl) ?_
            refine lv_isub hx hb dX6_hour_78 ?_
            refine r_iast hx hb hK hP82 hD82 hS82 1 (f := g) (n := 111) rfl (12 + (6 * k)) (by decide) dX6_hour_79 (by omega) (fun (H98 : Heap) (locs98 : List Loc) (hP98 : va_P D vwCl (fl [mO q (nI kp) (nI ty) th (nI at_) isF op2_2, aW T 0 b 111 (upd g (12 + (6 * k)) ((g (12 + (6 * k))) - x6)), aW T 0 (q 6) 3 wh2_2]) H98) (hD98 : va_D A (fl [mO q (nI kp) (nI ty) th (nI at_) isF op2_2, aW T 0 b 111 (upd g (12 + (6 * k)) ((g (12 + (6 * k))) - x6)), aW T 0 (q 6) 3 wh2_2])) hS98 => ?_)
            clear hP82 hD82 hS82
            refine lv_aload_n hx hb dX6_hour_80 rfl (lv_at hl97 3 rfl) ?_
            refine lv_bipush (v := nI 12) hx hb dX6_hour_81 (by decide) ?_
            refine lv_bipush (v := nI 6) hx hb dX6_hour_83 (by decide) ?_
            refine lv_iload_n hx hb dX6_hour_85 rfl (lv_at hl97 5 rfl) ?_
            refine lv_imul hx hb dX6_hour_86 ?_
            refine tp_i (y := nI (6 * k)) (pk_mul _ _) ?_
            refine lv_iadd hx hb dX6_hour_87 ?_
            refine tp_i (y := nI (12 + (6 * k))) (nI_add _ _) ?_
            refine lv_iconst (v := nI 4) hx hb dX6_hour_88 (by decide) ?_
            refine lv_iadd hx hb dX6_hour_89 ?_
            refine tp_i (y := nI (12 + (6 * k) + 4)) (nI_add _ _) ?_
            refine lv_dup2_11 hx hb dX6_hour_90 rfl rfl ?_
            refine r_iald hx hb hK hP98 1 (f := (upd g (12 + (6 * k)) ((g (12 + (6 * k))) - x6))) (n := 111) rfl (12 + (6 * k) + 4) (by decide) dX6_hour_91 (by omega) ?_
            refine lv_iload hx hb dX6_hour_92 (lv_at hl97 0 rfl) ?_
            refine lv_iadd hx hb dX6_hour_94 ?_
            refine r_iast hx hb hK hP98 hD98 hS98 1 (f := (upd g (12 + (6 * k)) ((g (12 + (6 * k))) - x6))) (n := 111) rfl (12 + (6 * k) + 4) (by decide) dX6_hour_95 (by omega) (fun (H99 : Heap) (locs99 : List Loc) (hP99 : va_P D vwCl (fl [mO q (nI kp) (nI ty) th (nI at_) isF op2_2, aW T 0 b 111 (upd (upd g (12 + (6 * k)) ((g (12 + (6 * k))) - x6)) (12 + (6 * k) + 4) (((upd g (12 + (6 * k)) ((g (12 + (6 * k))) - x6)) (12 + (6 * k) + 4)) + x6)), aW T 0 (q 6) 3 wh2_2]) H99) (hD99 : va_D A (fl [mO q (nI kp) (nI ty) th (nI at_) isF op2_2, aW T 0 b 111 (upd (upd g (12 + (6 * k)) ((g (12 + (6 * k))) - x6)) (12 + (6 * k) + 4) (((upd g (12 + (6 * k)) ((g (12 + (6 * k))) - x6)) (12 + (6 * k) + 4)) + x6)), aW T 0 (q 6) 3 wh2_2])) hS99 => ?_)
            clear hP98 hD98 hS98
            refine lv_aload_n hx hb dX6_hour_96 rfl (lv_at hl97 3 rfl) ?_
            refine lv_bipush (v := nI 12) hx hb dX6_hour_97 (by decide) ?_
            refine lv_bipush (v := nI 6) hx hb dX6_hour_99 (by decide) ?_
            refine lv_iload_n hx hb dX6_hour_101 rfl (lv_at hl97 5 rfl) ?_
            refine lv_imul hx hb dX6_hour_102 ?_
            refine tp_i (y := nI (6 * k)) (pk_mul _ _) ?_
            refine lv_iadd hx hb dX6_hour_103 ?_
            refine tp_i (y := nI (12 + (6 * k))) (nI_add _ _) ?_
            refine lv_iconst (v := nI 5) hx hb dX6_hour_104 (by decide) ?_
            refine lv_iadd hx hb dX6_hour_105 ?_
            refine tp_i (y := nI (12 + (6 * k) + 5)) (nI_add _ _) ?_
            refine lv_dup2_11 hx hb dX6_hour_106 rfl rfl ?_
            refine r_iald hx hb hK hP99 1 (f := (upd (upd g (12 + (6 * k)) ((g (12 + (6 * k))) - x6)) (12 + (6 * k) + 4) (((upd g (12 + (6 * k)) ((g (12 + (6 * k))) - x6)) (12 + (6 * k) + 4)) + x6))) (n := 111) rfl (12 + (6 * k) + 5) (by decide) dX6_hour_107 (by omega) ?_
            refine lv_iconst (v := nI 1) hx hb dX6_hour_108 (by decide) ?_
            refine lv_iadd hx hb dX6_hour_109 ?_
            refine r_iast hx hb hK hP99 hD99 hS99 1 (f := (upd (upd g (12 + (6 * k)) ((g (12 + (6 * k))) - x6)) (12 + (6 * k) + 4) (((upd g (12 + (6 * k)) ((g (12 + (6 * k))) - x6)) (12 + (6 * k) + 4)) + x6))) (n := 111) rfl (12 + (6 * k) + 5) (by decide) dX6_hour_110 (by omega) (fun (H100 : Heap) (locs100 : List Loc) (hP100 : va_P D vwCl (fl [mO q (nI kp) (nI ty) th (nI at_) isF op2_2, aW T 0 b 111 (upd (upd (upd g (12 + (6 * k)) ((g (12 + (6 * k))) - x6)) (12 + (6 * k) + 4) (((upd g (12 + (6 * k)) ((g (12 + (6 * k))) - x6)) (12 + (6 * k) + 4)) + x6)) (12 + (6 * k) + 5) (((upd (upd g (12 + (6 * k)) ((g (12 + (6 * k))) - x6)) (12 + (6 * k) + 4) (((upd g (12 + (6 * k)) ((g (12 + (6 * k))) - x6)) (12 + (6 * k) + 4)) + x6)) (12 + (6 * k) + 5)) + (nI 1))), aW T 0 (q 6) 3 wh2_2]) H100) (hD100 : va_D A (fl [mO q (nI kp) (nI ty) th (nI at_) isF op2_2, aW T 0 b 111 (upd (upd (upd g (12 + (6 * k)) ((g (12 + (6 * k))) - x6)) (12 + (6 * k) + 4) (((upd g (12 + (6 * k)) ((g (12 + (6 * k))) - x6)) (12 + (6 * k) + 4)) + x6)) (12 + (6 * k) + 5) (((upd (upd g (12 + (6 * k)) ((g (12 + (6 * k))) - x6)) (12 + (6 * k) + 4) (((upd g (12 + (6 * k)) ((g (12 + (6 * k))) - x6)) (12 + (6 * k) + 4)) + x6)) (12 + (6 * k) + 5)) + (nI 1))), aW T 0 (q 6) 3 wh2_2])) hS100 => ?_)
            clear hP99 hD99 hS99
            refine lv_iload_n hx hb dX6_hour_111 rfl (lv_at hl97 4 rfl) ?_
            refine lv_aload_n hx hb dX6_hour_112 rfl (lv_at hl97 3 rfl) ?_
            refine lv_iload_n hx hb dX6_hour_113 rfl (lv_at hl97 5 rfl) ?_
            refine lv_iconst (v := nI 0) hx hb dX6_hour_114 (by decide) ?_
            have hPc101 : va_P D vwCl (fl [aW T 0 b 111 (upd (upd (upd g (12 + (6 * k)) ((g (12 + (6 * k))) - x6)) (12 + (6 * k) + 4) (((upd g (12 + (6 * k)) ((g (12 + (6 * k))) - x6)) (12 + (6 * k) + 4)) + x6)) (12 + (6 * k) + 5) (((upd (upd g (12 + (6 * k)) ((g (12 + (6 * k))) - x6)) (12 + (6 * k) + 4) (((upd g (12 + (6 * k)) ((g (12 + (6 * k))) - x6)) (12 + (6 * k) + 4)) + x6)) (12 + (6 * k) + 5)) + (nI 1)))]) _ := hP100.sub [1] rfl
            refine cr_i (va_runS (As := [.ref b, .int (nI k), .int (nI 0)]) (rest := [.int cl]) ⟨hx, hb, hml, hown, hts⟩ (c_X6_of l D T b (upd (upd (upd g (12 + (6 * k)) ((g (12 + (6 * k))) - x6)) (12 + (6 * k) + 4) (((upd g (12 + (6 * k)) ((g (12 + (6 * k))) - x6)) (12 + (6 * k) + 4)) + x6)) (12 + (6 * k) + 5) (((upd (upd g (12 + (6 * k)) ((g (12 + (6 * k))) - x6)) (12 + (6 * k) + 4) (((upd g (12 + (6 * k)) ((g (12 + (6 * k))) - x6)) (12 + (6 * k) + 4)) + x6)) (12 + (6 * k) + 5)) + (nI 1))) k 0 (by omega) (by omega)) (mkS hts okX6_of kw_783 kw_784 ⟨rfl, rfl, Nat.le_of_ble_eq_true rfl, Nat.le_of_ble_eq_true rfl⟩) (ps_ro hK hPc101) rfl rfl hl97.1 rfl (lv_room (Nat.le_of_ble_eq_true rfl)) dX6_hour_115 ⟨Nat.le_of_ble_eq_true rfl, Nat.le_of_ble_eq_true rfl⟩) hP100 hS100 (fun r_115 H102 locs102 hq_115 hP102 hS102 => ?_)
            clear hP100 hS100 hPc101
            have hD102 := hD100
            clear hD100
            have hq_115 : r_115 = (upd (upd (upd g (12 + (6 * k)) ((g (12 + (6 * k))) - x6)) (12 + (6 * k) + 4) (((upd g (12 + (6 * k)) ((g (12 + (6 * k))) - x6)) (12 + (6 * k) + 4)) + x6)) (12 + (6 * k) + 5) (((upd (upd g (12 + (6 * k)) ((g (12 + (6 * k))) - x6)) (12 + (6 * k) + 4) (((upd g (12 + (6 * k)) ((g (12 + (6 * k))) - x6)) (12 + (6 * k) + 4)) + x6)) (12 + (6 * k) + 5)) + (nI 1))) (12 + 6 * k + 0) := hq_115
            subst hq_115
            refine lv_if_ne (tgt := 127) hx hb dX6_hour_118 (by decide) (fun c_118 => ?_) (fun c_118 => ?_)
            · skip
              refine lv_iconst (v := nI 0) hx hb dX6_hour_127 (by decide) ?_
              refine lv_ior hx hb dX6_hour_128 ?_
              refine lv_istore_n (lv' := [(2, .int (cl ||| (nI 0))), (5, .int x6), (4, .int ((prM g op2_2 k) * (g 2))), (0, .ref (q 0)), (1, .ref b), (3, .int (nI k))]) hx hb dX6_hour_129 rfl hl97 (by decide) rfl (fun ls104 hl104 => ?_)
              clear hl97
              refine lv_iinc (v := nI (k + 1)) (lv' := [(3, .int (nI (k + 1))), (2, .int (cl ||| (nI 0))), (5, .int x6), (4, .int ((prM g op2_2 k) * (g 2))), (0, .ref (q 0)), (1, .ref b)]) hx hb dX6_hour_130 hl104 (k := 5) rfl (nI_add k 1) (by decide) rfl (fun ls105 hl105 => ?_)
              clear hl104
              refine lv_goto (tgt := 9) hx hb dX6_hour_133 (by decide) ?_
              exact ih9 (k + 1) (upd (upd (upd g (12 + (6 * k)) ((g (12 + (6 * k))) - x6)) (12 + (6 * k) + 4) (((upd g (12 + (6 * k)) ((g (12 + (6 * k))) - x6)) (12 + (6 * k) + 4)) + x6)) (12 + (6 * k) + 5) (((upd (upd g (12 + (6 * k)) ((g (12 + (6 * k))) - x6)) (12 + (6 * k) + 4) (((upd g (12 + (6 * k)) ((g (12 + (6 * k))) - x6)) (12 + (6 * k) + 4)) + x6)) (12 + (6 * k) + 5)) + (nI 1))) (cl ||| (nI 0)) (by omega) (by rw [hfI, ← hg]; first | exact (hfS_n (w := (g, cl)) c_24).symm | exact (hfS_0 (w := (g, cl)) c_24 hx6 c_118).symm | exact (hfS_1 (w := (g, cl)) c_24 hx6 c_118).symm) (by omega) _ _ hP102 hD102 hS102 _ (lv_sub hl105 [4, 5, 1, 0] rfl)
            · skip
              refine lv_iconst (v := nI 1) hx hb dX6_hour_121 (by decide) ?_
              refine lv_iload_n hx hb dX6_hour_122 rfl (lv_at hl97 5 rfl) ?_
              refine lv_ishl hx hb dX6_hour_123 ?_
              refine lv_goto (tgt := 128) hx hb dX6_hour_124 (by decide) ?_
              refine lv_ior hx hb dX6_hour_128 ?_
              refine lv_istore_n (lv' := [(2, .int (cl ||| ((nI 1) <<< ((nI k) &&& 31)))), (5, .int x6), (4, .int ((prM g op2_2 k) * (g 2))), (0, .ref (q 0)), (1, .ref b), (3, .int (nI k))]) hx hb dX6_hour_129 rfl hl97 (by decide) rfl (fun ls106 hl106 => ?_)
              clear hl97
              refine lv_iinc (v := nI (k + 1)) (lv' := [(3, .int (nI (k + 1))), (2, .int (cl ||| ((nI 1) <<< ((nI k) &&& 31)))), (5, .int x6), (4, .int ((prM g op2_2 k) * (g 2))), (0, .ref (q 0)), (1, .ref b)]) hx hb dX6_hour_130 hl106 (k := 5) rfl (nI_add k 1) (by decide) rfl (fun ls107 hl107 => ?_)
              clear hl106
              refine lv_goto (tgt := 9) hx hb dX6_hour_133 (by decide) ?_
              exact ih9 (k + 1) (upd (upd (upd g (12 + (6 * k)) ((g (12 + (6 * k))) - x6)) (12 + (6 * k) + 4) (((upd g (12 + (6 * k)) ((g (12 + (6 * k))) - x6)) (12 + (6 * k) + 4)) + x6)) (12 + (6 * k) + 5) (((upd (upd g (12 + (6 * k)) ((g (12 + (6 * k))) - x6)) (12 + (6 * k) + 4) (((upd g (12 + (6 * k)) ((g (12 + (6 * k))) - x6)) (12 + (6 * k) + 4)) + x6)) (12 + (6 * k) + 5)) + (nI 1))) (cl ||| ((nI 1) <<< ((nI k) &&& 31))) (by omega) (by rw [hfI, ← hg]; first | exact (hfS_n (w := (g, cl)) c_24).symm | exact (hfS_0 (w := (g, cl)) c_24 hx6 c_118).symm | exact (hfS_1 (w := (g, cl)) c_24 hx6 c_118).symm) (by omega) _ _ hP102 hD102 hS102 _ (lv_sub hl107 [4, 5, 1, 0] rfl)
  exact loop9 ((12 - 0) + 1) 0 a (nI 0) (by omega) (rfl) (Nat.lt_succ_self _) _ _ hP2 hD2 hS2 _ (lv_sub hl4 [2, 3, 1, 0] rfl)
