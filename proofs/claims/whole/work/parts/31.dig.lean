/-! digests -/
def mixL (x y : Int64) : Int64 := 31 * x + y
def mixN (g : Nat → Int32) : Nat → Int64 → Int64
  | 0, h => h
  | n + 1, h => mixL (mixN g n h) (g n).toInt64
theorem mixN_congr {g k : Nat → Int32} : ∀ n, (∀ j, j < n → g j = k j) → ∀ h, mixN g n h = mixN k n h
  | 0, _, _ => rfl
  | n + 1, e, h => by rw [mixN, mixN, mixN_congr n (fun j hj => e j (by omega)) h, e n (by omega)]
theorem mixN_add (g : Nat → Int32) (a : Nat) (h : Int64) : ∀ b, mixN g (a + b) h = mixN (fun j => g (a + j)) b (mixN g a h)
  | 0 => rfl
  | b + 1 => by
    show mixL (mixN g (a + b) h) (g (a + b)).toInt64 = _
    rw [mixN_add g a h b]
    rfl
set_option maxHeartbeats 4000000 in
set_option maxRecDepth 100000 in
theorem c_X5_mixed (l : Launch) (D : va_G) (T : TI) (x : Int64) (y : Int64)  : OL l yX5_mixed cX5_mixed 4 (rmD 0 0 0) D T [.long x, .long y] [] (fun r => r = mixL x y) := by
  refine met_ro rfl (Nat.le_of_ble_eq_true rfl) ?_
  intro pX eX sX mX bX mtX cX hC hP0 hS0 ls0 hl0 TG hTG
  obtain ⟨hx, hb, hr, hml, hown, hts, hlocks, hin, hK⟩ := hC
  have hown : sX.vm.findClass RX5 = some mX.cls := hown
  have hl0 : lv_has ls0 4 [(0, .long x), (2, .long y)] := hl0
  refine lv_ldc2 (v := 31) hx hb hown (hts _ kw_422) dX5_mixed_0 ?_
  refine lv_lload_n hx hb dX5_mixed_3 rfl (lv_at hl0 0 rfl) ?_
  refine lv_lmul hx hb dX5_mixed_4 ?_
  refine lv_lload_n hx hb dX5_mixed_5 rfl (lv_at hl0 1 rfl) ?_
  refine lv_ladd hx hb dX5_mixed_6 ?_
  refine ro_l hTG (Nat.le_refl _) (Nat.le_refl _) hx hb hr hlocks hS0 dX5_mixed_7 ?_
  first | rfl | trivial
set_option maxHeartbeats 4000000 in
set_option maxRecDepth 100000 in
theorem c_X5_hashOfZones (l : Launch) (D : va_G) (T : TI) (xa : Nat) (qn : Nat → Nat) (c : Nat → Nat → Int32) (qt : Nat → Nat) (qh : Nat → Nat) (ya : Nat) (ga : Nat) (h : Int64) (hz1 : ∀ k, k < 2 → c 1 k = 0 ∨ c 1 k = 1) : OL l yX5_hashOfZones cX5_hashOfZones 6 (rmD 1 0 0) D T [.ref xa, .long h] [xW xa (qn 0) (qt 0) (qh 0) ya ga, sW T qn c] (fun r => r = mixN (c 1) 2 (mixN (c 0) 3 h)) := by
  refine met_ro rfl (Nat.le_of_ble_eq_true rfl) ?_
  intro pX eX sX mX bX mtX cX hC hP0 hS0 ls0 hl0 TG hTG
  obtain ⟨hx, hb, hr, hml, hown, hts, hlocks, hin, hK⟩ := hC
  have hown : sX.vm.findClass RX5 = some mX.cls := hown
  have hl0 : lv_has ls0 6 [(0, .ref xa), (1, .long h)] := hl0
  refine lv_lload_n hx hb dX5_hashOfZones_0 rfl (lv_at hl0 1 rfl) ?_
  refine lv_lstore_n (lv' := [(3, .long h), (0, .ref xa), (1, .long h)]) hx hb dX5_hashOfZones_1 rfl hl0 (by decide) rfl (fun ls1 hl1 => ?_)
  clear hl0
  refine lv_iconst (v := nI 0) hx hb dX5_hashOfZones_2 (by decide) ?_
  refine lv_istore (lv' := [(5, .int (nI 0)), (3, .long h), (0, .ref xa), (1, .long h)]) hx hb dX5_hashOfZones_3 hl1 (by decide) rfl (fun ls2 hl2 => ?_)
  clear hl1
  have loop5 : ∀ (n_ : Nat) (i : Nat), (i ≤ 3) → (3 - i) < n_ → ∀ (H : Heap) (locs : List Loc), va_P D vwCl (fl [xW xa (qn 0) (qt 0) (qh 0) ya ga, sW T qn c]) H → va_S NO sX.heap H locs → ∀ ls : Array Slot, lv_has ls 6 [(0, .ref xa), (1, .long h), (3, .long (mixN (c 0) i h)), (5, .int (nI i))] → W pX l eX (rmD 1 0 0) sX mX ([.ref xa, .long h] : List Value).toArray bX mtX cX H locs 0 0 TG (F0 mX 5 ls []) := by
    intro n_
    induction n_ with
    | zero => intro i hi hmu_ ; exact absurd hmu_ (Nat.not_lt_zero _)
    | succ n_ ih5 =>
      intro i hi hmu_5 H4 locs4 hP4  hS4 ls4 hl4
      refine lv_iload hx hb dX5_hashOfZones_5 (lv_at hl4 3 rfl) ?_
      refine lv_iconst (v := nI 3) hx hb dX5_hashOfZones_7 (by decide) ?_
      refine n_icmp_ge (tgt := 33) hx hb (by omega) (by omega) dX5_hashOfZones_8 (by decide) (fun c_8 => ?_) (fun c_8 => ?_)
      · skip
        have hi2 : i = 3 := by omega
        subst hi2
        refine lv_iconst (v := nI 0) hx hb dX5_hashOfZones_33 (by decide) ?_
        refine lv_istore (lv' := [(5, .int (nI 0)), (0, .ref xa), (1, .long h), (3, .long (mixN (c 0) 3 h))]) hx hb dX5_hashOfZones_34 hl4 (by decide) rfl (fun ls6 hl6 => ?_)
        clear hl4
        have loop36 : ∀ (n_ : Nat) (j : Nat), (j ≤ 2) → (2 - j) < n_ → ∀ (H : Heap) (locs : List Loc), va_P D vwCl (fl [xW xa (qn 0) (qt 0) (qh 0) ya ga, sW T qn c]) H → va_S NO sX.heap H locs → ∀ ls : Array Slot, lv_has ls 6 [(0, .ref xa), (1, .long h), (3, .long (mixN (c 1) j (mixN (c 0) 3 h))), (5, .int (nI j))] → W pX l eX (rmD 1 0 0) sX mX ([.ref xa, .long h] : List Value).toArray bX mtX cX H locs 0 0 TG (F0 mX 36 ls []) := by
          intro n_
          induction n_ with
          | zero => intro j hj hmu_ ; exact absurd hmu_ (Nat.not_lt_zero _)
          | succ n_ ih36 =>
            intro j hj hmu_36 H8 locs8 hP8  hS8 ls8 hl8
            refine lv_iload hx hb dX5_hashOfZones_36 (lv_at hl8 3 rfl) ?_
            refine lv_iconst (v := nI 2) hx hb dX5_hashOfZones_38 (by decide) ?_
            refine n_icmp_ge (tgt := 71) hx hb (by omega) (by omega) dX5_hashOfZones_39 (by decide) (fun c_39 => ?_) (fun c_39 => ?_)
            · skip
              have hj2 : j = 2 := by omega
              subst hj2
              refine lv_lload_n hx hb dX5_hashOfZones_71 rfl (lv_at hl8 2 rfl) ?_
              refine ro_l hTG (Nat.le_refl _) (Nat.le_refl _) hx hb hr hlocks hS8 dX5_hashOfZones_72 ?_
              first | rfl | trivial
            · skip
              refine lv_lload_n hx hb dX5_hashOfZones_42 rfl (lv_at hl8 2 rfl) ?_
              refine lv_aload_n hx hb dX5_hashOfZones_43 rfl (lv_at hl8 0 rfl) ?_
              refine r_get (own := RX5) (C := RX5) (F := TX5) (N := 5) (ci := 5) (v := .ref (qn 0)) hx hb hK hts in_X5 hown hP8 0 rfl rfl 0 (by decide) kw_179 rfl dX5_hashOfZones_44 ?_
              refine r_getN (own := RX5) (C := RX3) (F := TX3) (N := 13) (ci := 3) (v := .ref (qn 2)) hx hb hK hts in_X3 hown hP8 1 rfl rfl 1 (by decide) kn_4 rfl dX5_hashOfZones_47 ?_
              refine lv_iload hx hb dX5_hashOfZones_50 (lv_at hl8 3 rfl) ?_
              refine r_zald hx hb hK hP8 3 (f := (c 1)) (n := 2) rfl j (by decide) dX5_hashOfZones_52 (by omega) ?_
              refine lv_if_eq (tgt := 60) hx hb dX5_hashOfZones_53 (by decide) (fun c_53 => ?_) (fun c_53 => ?_)
              · skip
                refine lv_lconst (v := 0) hx hb dX5_hashOfZones_60 (by decide) ?_
                refine tp_l (y := (c 1 j).toInt64) (by rw [c_53]; rfl) ?_
                have hPc11 : va_P D vwCl (fl []) _ := hP8.sub [] rfl
                refine cr_l (va_runS (As := [.long (mixN (c 1) j (mixN (c 0) 3 h)), .long ((c 1 j).toInt64)]) (rest := []) ⟨hx, hb, hml, hown, hts⟩ (c_X5_mixed l D T (mixN (c 1) j (mixN (c 0) 3 h)) ((c 1 j).toInt64) ) (mkS hts okX5_mixed kw_419 kw_420 ⟨rfl, rfl, Nat.le_of_ble_eq_true rfl, Nat.le_of_ble_eq_true rfl⟩) (ps_ro hK hPc11) rfl rfl hl8.1 rfl (lv_room (Nat.le_of_ble_eq_true rfl)) dX5_hashOfZones_61 ⟨Nat.le_of_ble_eq_true rfl, Nat.le_of_ble_eq_true rfl⟩) hP8 hS8 (fun r_61 H12 locs12 hq_61 hP12 hS12 => ?_)
                clear hP8 hS8 hPc11
                have hq_61 : r_61 = mixL (mixN (c 1) j (mixN (c 0) 3 h)) ((c 1 j).toInt64) := hq_61
                subst hq_61
                refine lv_lstore_n (lv' := [(3, .long (mixL (mixN (c 1) j (mixN (c 0) 3 h)) ((c 1 j).toInt64))), (0, .ref xa), (1, .long h), (5, .int (nI j))]) hx hb dX5_hashOfZones_64 rfl hl8 (by decide) rfl (fun ls13 hl13 => ?_)
                clear hl8
                refine lv_iinc (v := nI (j + 1)) (lv' := [(5, .int (nI (j + 1))), (3, .long (mixL (mixN (c 1) j (mixN (c 0) 3 h)) ((c 1 j).toInt64))), (0, .ref xa), (1, .long h)]) hx hb dX5_hashOfZones_65 hl13 (k := 3) rfl (nI_add j 1) (by decide) rfl (fun ls14 hl14 => ?_)
                clear hl13
                refine lv_goto (tgt := 36) hx hb dX5_hashOfZones_68 (by decide) ?_
                exact ih36 (j + 1) (by omega) (by omega) _ _ hP12  hS12 _ (lv_sub hl14 [2, 3, 1, 0] rfl)
              · skip
                refine lv_lconst (v := 1) hx hb dX5_hashOfZones_56 (by decide) ?_
                refine tp_l (y := (c 1 j).toInt64) (by rcases hz1 j (by omega) with e | e; exact absurd e c_53; rw [e]; rfl) ?_
                refine lv_goto (tgt := 61) hx hb dX5_hashOfZones_57 (by decide) ?_
                have hPc15 : va_P D vwCl (fl []) _ := hP8.sub [] rfl
                refine cr_l (va_runS (As := [.long (mixN (c 1) j (mixN (c 0) 3 h)), .long ((c 1 j).toInt64)]) (rest := []) ⟨hx, hb, hml, hown, hts⟩ (c_X5_mixed l D T (mixN (c 1) j (mixN (c 0) 3 h)) ((c 1 j).toInt64) ) (mkS hts okX5_mixed kw_419 kw_420 ⟨rfl, rfl, Nat.le_of_ble_eq_true rfl, Nat.le_of_ble_eq_true rfl⟩) (ps_ro hK hPc15) rfl rfl hl8.1 rfl (lv_room (Nat.le_of_ble_eq_true rfl)) dX5_hashOfZones_61 ⟨Nat.le_of_ble_eq_true rfl, Nat.le_of_ble_eq_true rfl⟩) hP8 hS8 (fun r_61 H16 locs16 hq_61 hP16 hS16 => ?_)
                clear hP8 hS8 hPc15
                have hq_61 : r_61 = mixL (mixN (c 1) j (mixN (c 0) 3 h)) ((c 1 j).toInt64) := hq_61
                subst hq_61
                refine lv_lstore_n (lv' := [(3, .long (mixL (mixN (c 1) j (mixN (c 0) 3 h)) ((c 1 j).toInt64))), (0, .ref xa), (1, .long h), (5, .int (nI j))]) hx hb dX5_hashOfZones_64 rfl hl8 (by decide) rfl (fun ls17 hl17 => ?_)
                clear hl8
                refine lv_iinc (v := nI (j + 1)) (lv' := [(5, .int (nI (j + 1))), (3, .long (mixL (mixN (c 1) j (mixN (c 0) 3 h)) ((c 1 j).toInt64))), (0, .ref xa), (1, .long h)]) hx hb dX5_hashOfZones_65 hl17 (k := 3) rfl (nI_add j 1) (by decide) rfl (fun ls18 hl18 => ?_)
                clear hl17
                refine lv_goto (tgt := 36) hx hb dX5_hashOfZones_68 (by decide) ?_
                exact ih36 (j + 1) (by omega) (by omega) _ _ hP16  hS16 _ (lv_sub hl18 [2, 3, 1, 0] rfl)
        exact loop36 ((2 - 0) + 1) 0 (by omega) (Nat.lt_succ_self _) _ _ hP4  hS4 _ (lv_sub hl6 [1, 2, 3, 0] rfl)
      · skip
        refine lv_lload_n hx hb dX5_hashOfZones_11 rfl (lv_at hl4 2 rfl) ?_
        refine lv_aload_n hx hb dX5_hashOfZones_12 rfl (lv_at hl4 0 rfl) ?_
        refine r_get (own := RX5) (C := RX5) (F := TX5) (N := 5) (ci := 5) (v := .ref (qn 0)) hx hb hK hts in_X5 hown hP4 0 rfl rfl 0 (by decide) kw_179 rfl dX5_hashOfZones_13 ?_
        refine r_getN (own := RX5) (C := RX3) (F := TX3) (N := 13) (ci := 3) (v := .ref (qn 1)) hx hb hK hts in_X3 hown hP4 1 rfl rfl 0 (by decide) kn_3 rfl dX5_hashOfZones_16 ?_
        refine lv_iload hx hb dX5_hashOfZones_19 (lv_at hl4 3 rfl) ?_
        refine r_iald hx hb hK hP4 2 (f := (c 0)) (n := 3) rfl i (by decide) dX5_hashOfZones_21 (by omega) ?_
        refine lv_i2l hx hb dX5_hashOfZones_22 rfl ?_
        have hPc19 : va_P D vwCl (fl []) _ := hP4.sub [] rfl
        refine cr_l (va_runS (As := [.long (mixN (c 0) i h), .long ((c 0 i).toInt64)]) (rest := []) ⟨hx, hb, hml, hown, hts⟩ (c_X5_mixed l D T (mixN (c 0) i h) ((c 0 i).toInt64) ) (mkS hts okX5_mixed kw_419 kw_420 ⟨rfl, rfl, Nat.le_of_ble_eq_true rfl, Nat.le_of_ble_eq_true rfl⟩) (ps_ro hK hPc19) rfl rfl hl4.1 rfl (lv_room (Nat.le_of_ble_eq_true rfl)) dX5_hashOfZones_23 ⟨Nat.le_of_ble_eq_true rfl, Nat.le_of_ble_eq_true rfl⟩) hP4 hS4 (fun r_23 H20 locs20 hq_23 hP20 hS20 => ?_)
        clear hP4 hS4 hPc19
        have hq_23 : r_23 = mixL (mixN (c 0) i h) ((c 0 i).toInt64) := hq_23
        subst hq_23
        refine lv_lstore_n (lv' := [(3, .long (mixL (mixN (c 0) i h) ((c 0 i).toInt64))), (0, .ref xa), (1, .long h), (5, .int (nI i))]) hx hb dX5_hashOfZones_26 rfl hl4 (by decide) rfl (fun ls21 hl21 => ?_)
        clear hl4
        refine lv_iinc (v := nI (i + 1)) (lv' := [(5, .int (nI (i + 1))), (3, .long (mixL (mixN (c 0) i h) ((c 0 i).toInt64))), (0, .ref xa), (1, .long h)]) hx hb dX5_hashOfZones_27 hl21 (k := 3) rfl (nI_add i 1) (by decide) rfl (fun ls22 hl22 => ?_)
        clear hl21
        refine lv_goto (tgt := 5) hx hb dX5_hashOfZones_30 (by decide) ?_
        exact ih5 (i + 1) (by omega) (by omega) _ _ hP20  hS20 _ (lv_sub hl22 [2, 3, 1, 0] rfl)
  exact loop5 ((3 - 0) + 1) 0 (by omega) (Nat.lt_succ_self _) _ _ hP0  hS0 _ (lv_sub hl2 [2, 3, 1, 0] rfl)
set_option maxHeartbeats 4000000 in
set_option maxRecDepth 100000 in
theorem c_X5_hashOfText (l : Launch) (D : va_G) (T : TI) (xa : Nat) (qn : Nat → Nat) (qt : Nat → Nat) (qh : Nat → Nat) (ya : Nat) (ga : Nat) (gb : Nat) (f : Nat → Int32) (n : Nat) (pl : Nat) (ps : Nat) (h : Int64) (hn : n ≤ 60) : OL l yX5_hashOfText cX5_hashOfText 6 (rmD 1 0 0) D T [.ref xa, .long h] [xW xa (qn 0) (qt 0) (qh 0) ya ga, gW T ga gb f (nI n) (nI pl) (nI ps)] (fun r => r = mixN f n (mixL h (nI n).toInt64)) := by
  refine met_ro rfl (Nat.le_of_ble_eq_true rfl) ?_
  intro pX eX sX mX bX mtX cX hC hP0 hS0 ls0 hl0 TG hTG
  obtain ⟨hx, hb, hr, hml, hown, hts, hlocks, hin, hK⟩ := hC
  have hown : sX.vm.findClass RX5 = some mX.cls := hown
  have hl0 : lv_has ls0 6 [(0, .ref xa), (1, .long h)] := hl0
  refine lv_lload_n hx hb dX5_hashOfText_0 rfl (lv_at hl0 1 rfl) ?_
  refine lv_aload_n hx hb dX5_hashOfText_1 rfl (lv_at hl0 0 rfl) ?_
  refine r_get (own := RX5) (C := RX5) (F := TX5) (N := 5) (ci := 5) (v := .ref ga) hx hb hK hts in_X5 hown hP0 0 rfl rfl 4 (by decide) kw_183 rfl dX5_hashOfText_2 ?_
  refine r_getN (own := RX5) (C := RX2) (F := TX2) (N := 4) (ci := 2) (v := .int (nI n)) hx hb hK hts in_X2 hown hP0 1 rfl rfl 1 (by decide) kn_31 rfl dX5_hashOfText_5 ?_
  refine lv_i2l hx hb dX5_hashOfText_8 rfl ?_
  have hPc1 : va_P D vwCl (fl []) _ := hP0.sub [] rfl
  refine cr_l (va_runS (As := [.long h, .long ((nI n).toInt64)]) (rest := []) ⟨hx, hb, hml, hown, hts⟩ (c_X5_mixed l D T h ((nI n).toInt64) ) (mkS hts okX5_mixed kw_419 kw_420 ⟨rfl, rfl, Nat.le_of_ble_eq_true rfl, Nat.le_of_ble_eq_true rfl⟩) (ps_ro hK hPc1) rfl rfl hl0.1 rfl (lv_room (Nat.le_of_ble_eq_true rfl)) dX5_hashOfText_9 ⟨Nat.le_of_ble_eq_true rfl, Nat.le_of_ble_eq_true rfl⟩) hP0 hS0 (fun r_9 H2 locs2 hq_9 hP2 hS2 => ?_)
  clear hP0 hS0 hPc1
  have hq_9 : r_9 = mixL h ((nI n).toInt64) := hq_9
  subst hq_9
  refine lv_lstore_n (lv' := [(3, .long (mixL h ((nI n).toInt64))), (0, .ref xa), (1, .long h)]) hx hb dX5_hashOfText_12 rfl hl0 (by decide) rfl (fun ls3 hl3 => ?_)
  clear hl0
  refine lv_iconst (v := nI 0) hx hb dX5_hashOfText_13 (by decide) ?_
  refine lv_istore (lv' := [(5, .int (nI 0)), (3, .long (mixL h ((nI n).toInt64))), (0, .ref xa), (1, .long h)]) hx hb dX5_hashOfText_14 hl3 (by decide) rfl (fun ls4 hl4 => ?_)
  clear hl3
  have loop16 : ∀ (n_ : Nat) (i : Nat), (i ≤ n) → (n - i) < n_ → ∀ (H : Heap) (locs : List Loc), va_P D vwCl (fl [xW xa (qn 0) (qt 0) (qh 0) ya ga, gW T ga gb f (nI n) (nI pl) (nI ps)]) H → va_S NO sX.heap H locs → ∀ ls : Array Slot, lv_has ls 6 [(0, .ref xa), (1, .long h), (3, .long (mixN f i (mixL h (nI n).toInt64))), (5, .int (nI i))] → W pX l eX (rmD 1 0 0) sX mX ([.ref xa, .long h] : List Value).toArray bX mtX cX H locs 0 0 TG (F0 mX 16 ls []) := by
    intro n_
    induction n_ with
    | zero => intro i hi hmu_ ; exact absurd hmu_ (Nat.not_lt_zero _)
    | succ n_ ih16 =>
      intro i hi hmu_16 H6 locs6 hP6  hS6 ls6 hl6
      refine lv_iload hx hb dX5_hashOfText_16 (lv_at hl6 3 rfl) ?_
      refine lv_aload_n hx hb dX5_hashOfText_18 rfl (lv_at hl6 0 rfl) ?_
      refine r_get (own := RX5) (C := RX5) (F := TX5) (N := 5) (ci := 5) (v := .ref ga) hx hb hK hts in_X5 hown hP6 0 rfl rfl 4 (by decide) kw_183 rfl dX5_hashOfText_19 ?_
      refine r_getN (own := RX5) (C := RX2) (F := TX2) (N := 4) (ci := 2) (v := .int (nI n)) hx hb hK hts in_X2 hown hP6 1 rfl rfl 1 (by decide) kn_31 rfl dX5_hashOfText_22 ?_
      refine n_icmp_ge (tgt := 57) hx hb (by omega) (by omega) dX5_hashOfText_25 (by decide) (fun c_25 => ?_) (fun c_25 => ?_)
      · skip
        have hi2 : n = i := by omega
        subst hi2
        refine lv_lload_n hx hb dX5_hashOfText_57 rfl (lv_at hl6 2 rfl) ?_
        refine ro_l hTG (Nat.le_refl _) (Nat.le_refl _) hx hb hr hlocks hS6 dX5_hashOfText_58 ?_
        first | rfl | trivial
      · skip
        refine lv_iload hx hb dX5_hashOfText_28 (lv_at hl6 3 rfl) ?_
        refine lv_bipush (v := nI 60) hx hb dX5_hashOfText_30 (by decide) ?_
        refine n_icmp_ge (tgt := 57) hx hb (by omega) (by omega) dX5_hashOfText_32 (by decide) (fun c8 => absurd c8 (by omega)) (fun c8 => ?_)
        refine lv_lload_n hx hb dX5_hashOfText_35 rfl (lv_at hl6 2 rfl) ?_
        refine lv_aload_n hx hb dX5_hashOfText_36 rfl (lv_at hl6 0 rfl) ?_
        refine r_get (own := RX5) (C := RX5) (F := TX5) (N := 5) (ci := 5) (v := .ref ga) hx hb hK hts in_X5 hown hP6 0 rfl rfl 4 (by decide) kw_183 rfl dX5_hashOfText_37 ?_
        refine r_getN (own := RX5) (C := RX2) (F := TX2) (N := 4) (ci := 2) (v := .ref gb) hx hb hK hts in_X2 hown hP6 1 rfl rfl 0 (by decide) kn_30 rfl dX5_hashOfText_40 ?_
        refine lv_iload hx hb dX5_hashOfText_43 (lv_at hl6 3 rfl) ?_
        refine r_iald hx hb hK hP6 2 (f := f) (n := 60) rfl i (by decide) dX5_hashOfText_45 (by omega) ?_
        refine lv_i2l hx hb dX5_hashOfText_46 rfl ?_
        have hPc9 : va_P D vwCl (fl []) _ := hP6.sub [] rfl
        refine cr_l (va_runS (As := [.long (mixN f i (mixL h (nI n).toInt64)), .long ((f i).toInt64)]) (rest := []) ⟨hx, hb, hml, hown, hts⟩ (c_X5_mixed l D T (mixN f i (mixL h (nI n).toInt64)) ((f i).toInt64) ) (mkS hts okX5_mixed kw_419 kw_420 ⟨rfl, rfl, Nat.le_of_ble_eq_true rfl, Nat.le_of_ble_eq_true rfl⟩) (ps_ro hK hPc9) rfl rfl hl6.1 rfl (lv_room (Nat.le_of_ble_eq_true rfl)) dX5_hashOfText_47 ⟨Nat.le_of_ble_eq_true rfl, Nat.le_of_ble_eq_true rfl⟩) hP6 hS6 (fun r_47 H10 locs10 hq_47 hP10 hS10 => ?_)
        clear hP6 hS6 hPc9
        have hq_47 : r_47 = mixL (mixN f i (mixL h (nI n).toInt64)) ((f i).toInt64) := hq_47
        subst hq_47
        refine lv_lstore_n (lv' := [(3, .long (mixL (mixN f i (mixL h (nI n).toInt64)) ((f i).toInt64))), (0, .ref xa), (1, .long h), (5, .int (nI i))]) hx hb dX5_hashOfText_50 rfl hl6 (by decide) rfl (fun ls11 hl11 => ?_)
        clear hl6
        refine lv_iinc (v := nI (i + 1)) (lv' := [(5, .int (nI (i + 1))), (3, .long (mixL (mixN f i (mixL h (nI n).toInt64)) ((f i).toInt64))), (0, .ref xa), (1, .long h)]) hx hb dX5_hashOfText_51 hl11 (k := 3) rfl (nI_add i 1) (by decide) rfl (fun ls12 hl12 => ?_)
        clear hl11
        refine lv_goto (tgt := 16) hx hb dX5_hashOfText_54 (by decide) ?_
        exact ih16 (i + 1) (by omega) (by omega) _ _ hP10  hS10 _ (lv_sub hl12 [2, 3, 1, 0] rfl)
  exact loop16 ((n - 0) + 1) 0 (by omega) (Nat.lt_succ_self _) _ _ hP2  hS2 _ (lv_sub hl4 [2, 3, 1, 0] rfl)
