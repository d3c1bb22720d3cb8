set_option maxHeartbeats 4000000 in
set_option maxRecDepth 100000 in
theorem c_X1_play (l : Launch) (D : va_G) (T : TI) (qh : Nat → Nat) (wk : Nat → Int32) (dr : Nat → Int32) (re : Nat → Int32) (q : Nat → Nat) (c : Nat → Nat → Int32) (L : Nat → Nat) (mm : Nat → Int32) (hS : Sim c L mm) : CV l yX1_play cX1_play 3 (rmD 3 0 0) D T [.ref (qh 0), .ref (q 0)] [hO qh, aW T 0 (qh 1) 12 wk, aW T 0 (qh 2) 3 dr, aW T 0 (qh 3) 3 re, sW T q c, tW T (q 11) (q 12) (nI (L 0)) (c 9), tW T (q 13) (q 14) (nI (L 1)) (c 10), tW T (q 15) (q 16) (nI (L 2)) (c 11)] 0 0 (β := (Nat → Nat → Int32) × (Nat → Nat) × (Nat → Int32) × (Nat → Int32) × (Nat → Int32)) (fun ⟨c2, L2, wk2, dr2, re2⟩ => [hO qh, aW T 0 (qh 1) 12 wk2, aW T 0 (qh 2) 3 dr2, aW T 0 (qh 3) 3 re2, sW T q c2, tW T (q 11) (q 12) (nI (L2 0)) (c2 9), tW T (q 13) (q 14) (nI (L2 1)) (c2 10), tW T (q 15) (q 16) (nI (L2 2)) (c2 11)]) (fun ⟨c2, L2, wk2, dr2, re2⟩ => Sim c2 L2 (hourF mm)) := by
  intro sz
  refine met_rw (Qc := fun A => va_Qv _ (PST D _ A) A) rfl (Nat.le_of_ble_eq_true rfl) ?_
  intro pX eX sX mX bX mtX cX A hAe hC hA hP0 hD0 hS0 ls0 hl0 TG hTG
  clear hAe
  obtain ⟨hx, hb, hr, hml, hown, hts, hlocks, hin, hK⟩ := hC
  have hown : sX.vm.findClass RX1 = some mX.cls := hown
  have hl0 : lv_has ls0 3 [(0, .ref (qh 0)), (1, .ref (q 0))] := hl0
  have hT : okT c L := hS.2.2.2.2.1
  refine lv_aload_n hx hb dX1_play_0 rfl (lv_at hl0 0 rfl) ?_
  refine lv_aload_n hx hb dX1_play_1 rfl (lv_at hl0 1 rfl) ?_
  have hPc1 : va_P D vwCl (fl [hO qh, aW T 0 (qh 1) 12 wk, aW T 0 (qh 2) 3 dr, aW T 0 (qh 3) 3 re, sW T q c, tW T (q 11) (q 12) (nI (L 0)) (c 9), tW T (q 13) (q 14) (nI (L 1)) (c 10), tW T (q 15) (q 16) (nI (L 2)) (c 11)]) _ := flP_sub hP0 [0, 1, 2, 3, 4, 5, 6, 7] rfl
  have hDc1 : va_D A (fl [hO qh, aW T 0 (qh 1) 12 wk, aW T 0 (qh 2) 3 dr, aW T 0 (qh 3) 3 re, sW T q c, tW T (q 11) (q 12) (nI (L 0)) (c 9), tW T (q 13) (q 14) (nI (L 1)) (c 10), tW T (q 15) (q 16) (nI (L 2)) (c 11)]) := flD_sub hD0 [0, 1, 2, 3, 4, 5, 6, 7] (by decide) rfl
  refine cl_v (br := []) (va_runV (As := [.ref (q 0)]) (rest := []) ⟨hx, hb, hml, hown, hts⟩ (c_X1_openHydrants l D T qh wk dr re q c L (hT) _) (mkV hts okX1_openHydrants kw_291 kw_292 kw_293 ⟨rfl, rfl, Nat.le_of_ble_eq_true rfl, Nat.le_of_ble_eq_true rfl⟩) (pv_rw hK hPc1 hDc1 (q0 := 0) rfl rfl rfl) rfl rfl hl0.1 rfl (lv_room (Nat.le_of_ble_eq_true rfl)) dX1_play_2 ⟨Nat.le_of_ble_eq_true rfl, Nat.le_of_ble_eq_true rfl⟩) hP0 hD0 hS0 hA [] [0, 1, 2, 3, 4, 5, 6, 7] rfl (by decide) (fun u_2 H2 locs2 hq_2 hP2 hD2 hS2 => ?_)
  clear hP0 hD0 hS0 hPc1 hDc1
  obtain ⟨wk2_2, dr2_2, re2_2⟩ := u_2
  have hP2 : va_P D vwCl (fl [hO qh, aW T 0 (qh 1) 12 wk2_2, aW T 0 (qh 2) 3 dr2_2, aW T 0 (qh 3) 3 re2_2, sW T q c, tW T (q 11) (q 12) (nI (L 0)) (c 9), tW T (q 13) (q 14) (nI (L 1)) (c 10), tW T (q 15) (q 16) (nI (L 2)) (c 11)]) _ := hP2
  have hD2 : va_D A (fl [hO qh, aW T 0 (qh 1) 12 wk2_2, aW T 0 (qh 2) 3 dr2_2, aW T 0 (qh 3) 3 re2_2, sW T q c, tW T (q 11) (q 12) (nI (L 0)) (c 9), tW T (q 13) (q 14) (nI (L 1)) (c 10), tW T (q 15) (q 16) (nI (L 2)) (c 11)]) := hD2
  have hq_2 : (wk2_2, dr2_2, re2_2) = opI c L (fillF wk 12 (-1), fillF dr 3 (nI 0), re) 3 := hq_2
  refine lv_iconst (v := nI 0) hx hb dX1_play_5 (by decide) ?_
  refine lv_istore_n (lv' := [(2, .int (nI 0)), (0, .ref (qh 0)), (1, .ref (q 0))]) hx hb dX1_play_6 rfl hl0 (by decide) rfl (fun ls3 hl3 => ?_)
  clear hl0
  have loop7 : ∀ (n_ : Nat) (i : Nat) (c1 : Nat → Nat → Int32), (i ≤ 3) → (c1 = waI re2_2 c i) → (3 - i) < n_ → ∀ (H : Heap) (locs : List Loc), va_P D vwCl (fl [hO qh, aW T 0 (qh 1) 12 wk2_2, aW T 0 (qh 2) 3 dr2_2, aW T 0 (qh 3) 3 re2_2, sW T q c1, tW T (q 11) (q 12) (nI (L 0)) (c1 9), tW T (q 13) (q 14) (nI (L 1)) (c1 10), tW T (q 15) (q 16) (nI (L 2)) (c1 11)]) H → va_D A (fl [hO qh, aW T 0 (qh 1) 12 wk2_2, aW T 0 (qh 2) 3 dr2_2, aW T 0 (qh 3) 3 re2_2, sW T q c1, tW T (q 11) (q 12) (nI (L 0)) (c1 9), tW T (q 13) (q 14) (nI (L 1)) (c1 10), tW T (q 15) (q 16) (nI (L 2)) (c1 11)]) → va_S A sX.heap H locs → ∀ ls : Array Slot, lv_has ls 3 [(0, .ref (qh 0)), (1, .ref (q 0)), (2, .int (nI i))] → W pX l eX (rmD 3 0 0) sX mX ([.ref (qh 0), .ref (q 0)] : List Value).toArray bX mtX cX H locs 0 0 TG (F0 mX 7 ls []) := by
    intro n_
    induction n_ with
    | zero => intro i c1 hi hc hmu_ ; exact absurd hmu_ (Nat.not_lt_zero _)
    | succ n_ ih7 =>
      intro i c1 hi hc hmu_7 H5 locs5 hP5 hD5 hS5 ls5 hl5
      refine lv_iload_n hx hb dX1_play_7 rfl (lv_at hl5 2 rfl) ?_
      refine lv_iconst (v := nI 3) hx hb dX1_play_8 (by decide) ?_
      refine n_icmp_ge (tgt := 37) hx hb (by omega) (by omega) dX1_play_9 (by decide) (fun c_9 => ?_) (fun c_9 => ?_)
      · skip
        have hi2 : i = 3 := by omega
        subst hi2
        have hWk := opI_wk hT (fillF wk 12 (-1), fillF dr 3 (nI 0), re) (fun i hi => Or.inl (fillF_in hi)) 3 (by omega)
        rw [← hq_2] at hWk
        refine lv_aload_n hx hb dX1_play_37 rfl (lv_at hl5 0 rfl) ?_
        refine lv_aload_n hx hb dX1_play_38 rfl (lv_at hl5 1 rfl) ?_
        have hPc7 : va_P D vwCl (fl [hO qh, aW T 0 (qh 1) 12 wk2_2, aW T 0 (qh 2) 3 dr2_2, aW T 0 (qh 3) 3 re2_2, sW T q c1, tW T (q 11) (q 12) (nI (L 0)) (c1 9), tW T (q 13) (q 14) (nI (L 1)) (c1 10), tW T (q 15) (q 16) (nI (L 2)) (c1 11)]) _ := flP_sub hP5 [0, 1, 2, 3, 4, 5, 6, 7] rfl
        have hDc7 : va_D A (fl [hO qh, aW T 0 (qh 1) 12 wk2_2, aW T 0 (qh 2) 3 dr2_2, aW T 0 (qh 3) 3 re2_2, sW T q c1, tW T (q 11) (q 12) (nI (L 0)) (c1 9), tW T (q 13) (q 14) (nI (L 1)) (c1 10), tW T (q 15) (q 16) (nI (L 2)) (c1 11)]) := flD_sub hD5 [0, 1, 2, 3, 4, 5, 6, 7] (by decide) rfl
        refine cl_v (br := []) (va_runV (As := [.ref (q 0)]) (rest := []) ⟨hx, hb, hml, hown, hts⟩ (c_X1_flushOut l D T qh wk2_2 dr2_2 re2_2 q c1 L (hWk) (fun k hk => (hT k hk).1) _) (mkV hts okX1_flushOut kw_320 kw_322 ks_3 ⟨rfl, rfl, Nat.le_of_ble_eq_true rfl, Nat.le_of_ble_eq_true rfl⟩) (pv_rw hK hPc7 hDc7 (q0 := 0) rfl rfl rfl) rfl rfl hl5.1 rfl (lv_room (Nat.le_of_ble_eq_true rfl)) dX1_play_39 ⟨Nat.le_of_ble_eq_true rfl, Nat.le_of_ble_eq_true rfl⟩) hP5 hD5 hS5 hA [] [0, 1, 2, 3, 4, 5, 6, 7] rfl (by decide) (fun u_39 H8 locs8 hq_39 hP8 hD8 hS8 => ?_)
        clear hP5 hD5 hS5 hPc7 hDc7
        obtain ⟨c2_39, L2_39⟩ := u_39
        have hP8 : va_P D vwCl (fl [hO qh, aW T 0 (qh 1) 12 wk2_2, aW T 0 (qh 2) 3 dr2_2, aW T 0 (qh 3) 3 re2_2, sW T q c2_39, tW T (q 11) (q 12) (nI (L2_39 0)) (c2_39 9), tW T (q 13) (q 14) (nI (L2_39 1)) (c2_39 10), tW T (q 15) (q 16) (nI (L2_39 2)) (c2_39 11)]) _ := hP8
        have hD8 : va_D A (fl [hO qh, aW T 0 (qh 1) 12 wk2_2, aW T 0 (qh 2) 3 dr2_2, aW T 0 (qh 3) 3 re2_2, sW T q c2_39, tW T (q 11) (q 12) (nI (L2_39 0)) (c2_39 9), tW T (q 13) (q 14) (nI (L2_39 1)) (c2_39 10), tW T (q 15) (q 16) (nI (L2_39 2)) (c2_39 11)]) := hD8
        have hq_39 : (c2_39, L2_39) = flI wk2_2 dr2_2 (c1, L) 12 := hq_39
        refine lv_aload_n hx hb dX1_play_42 rfl (lv_at hl5 0 rfl) ?_
        refine lv_aload_n hx hb dX1_play_43 rfl (lv_at hl5 1 rfl) ?_
        have hPc9 : va_P D vwCl (fl [hO qh, aW T 0 (qh 1) 12 wk2_2, aW T 0 (qh 2) 3 dr2_2, aW T 0 (qh 3) 3 re2_2, sW T q c2_39]) _ := flP_sub hP8 [0, 1, 2, 3, 4] rfl
        have hDc9 : va_D A (fl [hO qh, aW T 0 (qh 1) 12 wk2_2, aW T 0 (qh 2) 3 dr2_2, aW T 0 (qh 3) 3 re2_2, sW T q c2_39]) := flD_sub hD8 [0, 1, 2, 3, 4] (by decide) rfl
        refine cl_v (br := [tW T (q 11) (q 12) (nI (L2_39 0)) (c2_39 9), tW T (q 13) (q 14) (nI (L2_39 1)) (c2_39 10), tW T (q 15) (q 16) (nI (L2_39 2)) (c2_39 11)]) (va_runV (As := [.ref (q 0)]) (rest := []) ⟨hx, hb, hml, hown, hts⟩ (c_X1_carryOn l D T qh wk2_2 dr2_2 re2_2 q c2_39  _) (mkV hts okX1_carryOn kw_331 kw_333 ks_4 ⟨rfl, rfl, Nat.le_of_ble_eq_true rfl, Nat.le_of_ble_eq_true rfl⟩) (pv_rw hK hPc9 hDc9 (q0 := 0) rfl rfl rfl) rfl rfl hl5.1 rfl (lv_room (Nat.le_of_ble_eq_true rfl)) dX1_play_44 ⟨Nat.le_of_ble_eq_true rfl, Nat.le_of_ble_eq_true rfl⟩) hP8 hD8 hS8 hA [5, 6, 7] [0, 1, 2, 3, 4] rfl (by decide) (fun c2_44 H10 locs10 hq_44 hP10 hD10 hS10 => ?_)
        clear hP8 hD8 hS8 hPc9 hDc9
        have hP10 : va_P D vwCl (fl [tW T (q 11) (q 12) (nI (L2_39 0)) (c2_39 9), tW T (q 13) (q 14) (nI (L2_39 1)) (c2_39 10), tW T (q 15) (q 16) (nI (L2_39 2)) (c2_39 11), hO qh, aW T 0 (qh 1) 12 wk2_2, aW T 0 (qh 2) 3 dr2_2, aW T 0 (qh 3) 3 re2_2, sW T q c2_44]) _ := hP10
        have hD10 : va_D A (fl [tW T (q 11) (q 12) (nI (L2_39 0)) (c2_39 9), tW T (q 13) (q 14) (nI (L2_39 1)) (c2_39 10), tW T (q 15) (q 16) (nI (L2_39 2)) (c2_39 11), hO qh, aW T 0 (qh 1) 12 wk2_2, aW T 0 (qh 2) 3 dr2_2, aW T 0 (qh 3) 3 re2_2, sW T q c2_44]) := hD10
        have hq_44 : c2_44 = caI wk2_2 c2_39 12 := hq_44
        refine lv_iconst (v := nI 0) hx hb dX1_play_47 (by decide) ?_
        refine lv_istore_n (lv' := [(2, .int (nI 0)), (0, .ref (qh 0)), (1, .ref (q 0))]) hx hb dX1_play_48 rfl hl5 (by decide) rfl (fun ls11 hl11 => ?_)
        clear hl5
        have hP12 : va_P D vwCl (fl [hO qh, aW T 0 (qh 1) 12 wk2_2, aW T 0 (qh 2) 3 dr2_2, aW T 0 (qh 3) 3 re2_2, sW T q c2_44, tW T (q 11) (q 12) (nI (L2_39 0)) (c2_39 9), tW T (q 13) (q 14) (nI (L2_39 1)) (c2_39 10), tW T (q 15) (q 16) (nI (L2_39 2)) (c2_39 11)]) _ := flP_sub hP10 [3, 4, 5, 6, 7, 0, 1, 2] rfl
        have hD12 : va_D A (fl [hO qh, aW T 0 (qh 1) 12 wk2_2, aW T 0 (qh 2) 3 dr2_2, aW T 0 (qh 3) 3 re2_2, sW T q c2_44, tW T (q 11) (q 12) (nI (L2_39 0)) (c2_39 9), tW T (q 13) (q 14) (nI (L2_39 1)) (c2_39 10), tW T (q 15) (q 16) (nI (L2_39 2)) (c2_39 11)]) := flD_sub hD10 [3, 4, 5, 6, 7, 0, 1, 2] (by decide) rfl
        have hS12 := hS10
        clear hP10 hS10 hD10
        have loop49 : ∀ (n_ : Nat) (i3 : Nat) (c3 : Nat → Nat → Int32), (i3 ≤ 12) → (c3 = adI c2_44 i3) → (12 - i3) < n_ → ∀ (H : Heap) (locs : List Loc), va_P D vwCl (fl [hO qh, aW T 0 (qh 1) 12 wk2_2, aW T 0 (qh 2) 3 dr2_2, aW T 0 (qh 3) 3 re2_2, sW T q c3, tW T (q 11) (q 12) (nI (L2_39 0)) (c2_39 9), tW T (q 13) (q 14) (nI (L2_39 1)) (c2_39 10), tW T (q 15) (q 16) (nI (L2_39 2)) (c2_39 11)]) H → va_D A (fl [hO qh, aW T 0 (qh 1) 12 wk2_2, aW T 0 (qh 2) 3 dr2_2, aW T 0 (qh 3) 3 re2_2, sW T q c3, tW T (q 11) (q 12) (nI (L2_39 0)) (c2_39 9), tW T (q 13) (q 14) (nI (L2_39 1)) (c2_39 10), tW T (q 15) (q 16) (nI (L2_39 2)) (c2_39 11)]) → va_S A sX.heap H locs → ∀ ls : Array Slot, lv_has ls 3 [(0, .ref (qh 0)), (1, .ref (q 0)), (2, .int (nI i3))] → W pX l eX (rmD 3 0 0) sX mX ([.ref (qh 0), .ref (q 0)] : List Value).toArray bX mtX cX H locs 0 0 TG (F0 mX 49 ls []) := by
          intro n_
          induction n_ with
          | zero => intro i3 c3 hi3 hc3 hmu_ ; exact absurd hmu_ (Nat.not_lt_zero _)
          | succ n_ ih49 =>
            intro i3 c3 hi3 hc3 hmu_49 H14 locs14 hP14 hD14 hS14 ls14 hl14
            refine lv_iload_n hx hb dX1_play_49 rfl (lv_at hl14 2 rfl) ?_
            refine lv_bipush (v := nI 12) hx hb dX1_play_50 (by decide) ?_
            refine n_icmp_ge (tgt := 72) hx hb (by omega) (by omega) dX1_play_52 (by decide) (fun c_52 => ?_) (fun c_52 => ?_)
            · skip
              have hi32 : i3 = 12 := by omega
              subst hi32
              refine lv_aload_n hx hb dX1_play_72 rfl (lv_at hl14 0 rfl) ?_
              refine lv_aload_n hx hb dX1_play_73 rfl (lv_at hl14 1 rfl) ?_
              have hPc16 : va_P D vwCl (fl [hO qh, sW T q c3]) _ := flP_sub hP14 [0, 4] rfl
              have hDc16 : va_D A (fl [hO qh, sW T q c3]) := flD_sub hD14 [0, 4] (by decide) rfl
              refine cl_v (br := [aW T 0 (qh 1) 12 wk2_2, aW T 0 (qh 2) 3 dr2_2, aW T 0 (qh 3) 3 re2_2, tW T (q 11) (q 12) (nI (L2_39 0)) (c2_39 9), tW T (q 13) (q 14) (nI (L2_39 1)) (c2_39 10), tW T (q 15) (q 16) (nI (L2_39 2)) (c2_39 11)]) (va_runV (As := [.ref (q 0)]) (rest := []) ⟨hx, hb, hml, hown, hts⟩ (c_X1_complain l D T qh q c3  _) (mkV hts okX1_complain kw_345 kw_347 ks_5 ⟨rfl, rfl, Nat.le_of_ble_eq_true rfl, Nat.le_of_ble_eq_true rfl⟩) (pv_rw hK hPc16 hDc16 (q0 := 0) rfl rfl rfl) rfl rfl hl14.1 rfl (lv_room (Nat.le_of_ble_eq_true rfl)) dX1_play_74 ⟨Nat.le_of_ble_eq_true rfl, Nat.le_of_ble_eq_true rfl⟩) hP14 hD14 hS14 hA [1, 2, 3, 5, 6, 7] [0, 4] rfl (by decide) (fun c2_74 H17 locs17 hq_74 hP17 hD17 hS17 => ?_)
              clear hP14 hD14 hS14 hPc16 hDc16
              have hP17 : va_P D vwCl (fl [aW T 0 (qh 1) 12 wk2_2, aW T 0 (qh 2) 3 dr2_2, aW T 0 (qh 3) 3 re2_2, tW T (q 11) (q 12) (nI (L2_39 0)) (c2_39 9), tW T (q 13) (q 14) (nI (L2_39 1)) (c2_39 10), tW T (q 15) (q 16) (nI (L2_39 2)) (c2_39 11), hO qh, sW T q c2_74]) _ := hP17
              have hD17 : va_D A (fl [aW T 0 (qh 1) 12 wk2_2, aW T 0 (qh 2) 3 dr2_2, aW T 0 (qh 3) 3 re2_2, tW T (q 11) (q 12) (nI (L2_39 0)) (c2_39 9), tW T (q 13) (q 14) (nI (L2_39 1)) (c2_39 10), tW T (q 15) (q 16) (nI (L2_39 2)) (c2_39 11), hO qh, sW T q c2_74]) := hD17
              have hq_74 : c2_74 = coI c3 12 := hq_74
              refine lv_aload_n hx hb dX1_play_77 rfl (lv_at hl14 1 rfl) ?_
              refine lv_dup hx hb dX1_play_78 rfl ?_
              refine r_getN (own := RX1) (C := RX3) (F := TX3) (N := 13) (ci := 3) (v := .int (c2_74 12 3)) hx hb hK hts in_X3 hown hP17 10 rfl rfl 10 (by decide) kn_20 rfl dX1_play_79 ?_
              refine lv_iconst (v := nI 1) hx hb dX1_play_82 (by decide) ?_
              refine lv_iadd hx hb dX1_play_83 ?_
              refine r_putN (own := RX1) (C := RX3) (F := TX3) (N := 13) (ci := 3) (v := (c2_74 12 3) + (nI 1)) hx hb hK hts in_X3 tyX3 tyX3_ok nmX3 hown hP17 hD17 hS17 10 rfl rfl 10 (by decide) kn_20 rfl rfl (Nat.le_of_ble_eq_true rfl) dX1_play_84 (fun (H18 : Heap) (locs18 : List Loc) (hP18 : va_P D vwCl (fl [aW T 0 (qh 1) 12 wk2_2, aW T 0 (qh 2) 3 dr2_2, aW T 0 (qh 3) 3 re2_2, tW T (q 11) (q 12) (nI (L2_39 0)) (c2_39 9), tW T (q 13) (q 14) (nI (L2_39 1)) (c2_39 10), tW T (q 15) (q 16) (nI (L2_39 2)) (c2_39 11), hO qh, sW T q (vset c2_74 12 (upd (c2_74 12) 3 ((c2_74 12 3) + (nI 1))))]) H18) (hD18 : va_D A (fl [aW T 0 (qh 1) 12 wk2_2, aW T 0 (qh 2) 3 dr2_2, aW T 0 (qh 3) 3 re2_2, tW T (q 11) (q 12) (nI (L2_39 0)) (c2_39 9), tW T (q 13) (q 14) (nI (L2_39 1)) (c2_39 10), tW T (q 15) (q 16) (nI (L2_39 2)) (c2_39 11), hO qh, sW T q (vset c2_74 12 (upd (c2_74 12) 3 ((c2_74 12 3) + (nI 1))))])) hS18 => ?_)
              clear hP17 hD17 hS17
              refine ret_v hTG (Nat.le_refl _) (Nat.le_refl _) hx hb hr hlocks ((vset (vset (vset (vset c2_74 12 (upd (c2_74 12) 3 ((c2_74 12 3) + (nI 1)))) 9 (c2_39 9)) 10 (c2_39 10)) 11 (c2_39 11), L2_39, wk2_2, dr2_2, re2_2)) hP18 hD18 hS18 [6, 0, 1, 2, 7, 3, 4, 5] rfl (by decide) dX1_play_87 ?_
              obtain ⟨e1, e2⟩ := play_end hc hq_39 hq_44 hc3 hq_74
              show Sim _ L2_39 (hourF mm)
              have e3 := play_sim hS hq_2
              rw [← e1, ← e2] at e3
              exact e3
            · skip
              refine lv_aload_n hx hb dX1_play_55 rfl (lv_at hl14 1 rfl) ?_
              refine lv_iload_n hx hb dX1_play_56 rfl (lv_at hl14 2 rfl) ?_
              refine lv_aload_n hx hb dX1_play_57 rfl (lv_at hl14 1 rfl) ?_
              refine r_getN (own := RX1) (C := RX3) (F := TX3) (N := 13) (ci := 3) (v := .ref (q 3)) hx hb hK hts in_X3 hown hP14 4 rfl rfl 2 (by decide) kn_5 rfl dX1_play_58 ?_
              refine lv_iconst (v := nI 3) hx hb dX1_play_61 (by decide) ?_
              refine r_iald hx hb hK hP14 7 (f := (c3 2)) (n := 4) rfl 3 (by decide) dX1_play_62 (by decide) ?_
              have hPc19 : va_P D vwCl (fl [sW T q c3]) _ := flP_sub hP14 [4] rfl
              have hDc19 : va_D A (fl [sW T q c3]) := flD_sub hD14 [4] (by decide) rfl
              refine cl_v (br := [hO qh, aW T 0 (qh 1) 12 wk2_2, aW T 0 (qh 2) 3 dr2_2, aW T 0 (qh 3) 3 re2_2, tW T (q 11) (q 12) (nI (L2_39 0)) (c2_39 9), tW T (q 13) (q 14) (nI (L2_39 1)) (c2_39 10), tW T (q 15) (q 16) (nI (L2_39 2)) (c2_39 11)]) (va_runV (As := [.int (nI i3), .int (c3 2 3)]) (rest := []) ⟨hx, hb, hml, hown, hts⟩ (c_X3_addDirt l D T q c3 i3 (c3 2 3) (by omega) _) (mkV hts okX3_addDirt kw_340 kw_341 kw_342 ⟨rfl, rfl, Nat.le_of_ble_eq_true rfl, Nat.le_of_ble_eq_true rfl⟩) (pv_rw hK hPc19 hDc19 (q0 := 0) rfl rfl rfl) rfl rfl hl14.1 rfl (lv_room (Nat.le_of_ble_eq_true rfl)) dX1_play_63 ⟨Nat.le_of_ble_eq_true rfl, Nat.le_of_ble_eq_true rfl⟩) hP14 hD14 hS14 hA [0, 1, 2, 3, 5, 6, 7] [4] rfl (by decide) (fun _u20 H20 locs20 hq_63 hP20 hD20 hS20 => ?_)
              clear hP14 hD14 hS14 hPc19 hDc19
              have hP20 : va_P D vwCl (fl [hO qh, aW T 0 (qh 1) 12 wk2_2, aW T 0 (qh 2) 3 dr2_2, aW T 0 (qh 3) 3 re2_2, tW T (q 11) (q 12) (nI (L2_39 0)) (c2_39 9), tW T (q 13) (q 14) (nI (L2_39 1)) (c2_39 10), tW T (q 15) (q 16) (nI (L2_39 2)) (c2_39 11), sW T q (addDC c3 i3 (c3 2 3))]) _ := hP20
              have hD20 : va_D A (fl [hO qh, aW T 0 (qh 1) 12 wk2_2, aW T 0 (qh 2) 3 dr2_2, aW T 0 (qh 3) 3 re2_2, tW T (q 11) (q 12) (nI (L2_39 0)) (c2_39 9), tW T (q 13) (q 14) (nI (L2_39 1)) (c2_39 10), tW T (q 15) (q 16) (nI (L2_39 2)) (c2_39 11), sW T q (addDC c3 i3 (c3 2 3))]) := hD20
              refine lv_iinc (v := nI (i3 + 1)) (lv' := [(2, .int (nI (i3 + 1))), (0, .ref (qh 0)), (1, .ref (q 0))]) hx hb dX1_play_66 hl14 (k := 2) rfl (nI_add i3 1) (by decide) rfl (fun ls21 hl21 => ?_)
              clear hl14
              refine lv_goto (tgt := 49) hx hb dX1_play_69 (by decide) ?_
              have hP22 : va_P D vwCl (fl [hO qh, aW T 0 (qh 1) 12 wk2_2, aW T 0 (qh 2) 3 dr2_2, aW T 0 (qh 3) 3 re2_2, sW T q (addDC c3 i3 (c3 2 3)), tW T (q 11) (q 12) (nI (L2_39 0)) (c2_39 9), tW T (q 13) (q 14) (nI (L2_39 1)) (c2_39 10), tW T (q 15) (q 16) (nI (L2_39 2)) (c2_39 11)]) _ := flP_sub hP20 [0, 1, 2, 3, 7, 4, 5, 6] rfl
              have hD22 : va_D A (fl [hO qh, aW T 0 (qh 1) 12 wk2_2, aW T 0 (qh 2) 3 dr2_2, aW T 0 (qh 3) 3 re2_2, sW T q (addDC c3 i3 (c3 2 3)), tW T (q 11) (q 12) (nI (L2_39 0)) (c2_39 9), tW T (q 13) (q 14) (nI (L2_39 1)) (c2_39 10), tW T (q 15) (q 16) (nI (L2_39 2)) (c2_39 11)]) := flD_sub hD20 [0, 1, 2, 3, 7, 4, 5, 6] (by decide) rfl
              have hS22 := hS20
              clear hP20 hS20 hD20
              exact ih49 (i3 + 1) (addDC c3 i3 (c3 2 3)) (by omega) (by rw [adI, ← hc3]) (by omega) _ _ hP22 hD22 hS22 _ (lv_sub hl21 [1, 2, 0] rfl)
        exact loop49 ((12 - 0) + 1) 0 c2_44 (by omega) (rfl) (Nat.lt_succ_self _) _ _ hP12 hD12 hS12 _ (lv_sub hl11 [1, 2, 0] rfl)
      · skip
        refine lv_aload_n hx hb dX1_play_12 rfl (lv_at hl5 0 rfl) ?_
        refine r_get (own := RX1) (C := RX1) (F := TX1) (N := 3) (ci := 1) (v := .ref (qh 3)) hx hb hK hts in_X1 hown hP5 0 rfl rfl 2 (by decide) kw_127 rfl dX1_play_13 ?_
        refine lv_iload_n hx hb dX1_play_16 rfl (lv_at hl5 2 rfl) ?_
        refine r_iald hx hb hK hP5 3 (f := re2_2) (n := 3) rfl i (by decide) dX1_play_17 (by omega) ?_
        refine lv_if_le (tgt := 31) hx hb dX1_play_18 (by decide) (fun c_18 => ?_) (fun c_18 => ?_)
        · skip
          refine lv_iinc (v := nI (i + 1)) (lv' := [(2, .int (nI (i + 1))), (0, .ref (qh 0)), (1, .ref (q 0))]) hx hb dX1_play_31 hl5 (k := 2) rfl (nI_add i 1) (by decide) rfl (fun ls24 hl24 => ?_)
          clear hl5
          refine lv_goto (tgt := 7) hx hb dX1_play_34 (by decide) ?_
          exact ih7 (i + 1) c1 (by omega) (by rw [waI, ← hc]; first | rw [if_pos c_18] | rw [if_neg c_18]) (by omega) _ _ hP5 hD5 hS5 _ (lv_sub hl24 [1, 2, 0] rfl)
        · skip
          refine lv_aload_n hx hb dX1_play_21 rfl (lv_at hl5 1 rfl) ?_
          refine lv_dup hx hb dX1_play_22 rfl ?_
          refine r_getN (own := RX1) (C := RX3) (F := TX3) (N := 13) (ci := 3) (v := .int (c1 12 4)) hx hb hK hts in_X3 hown hP5 4 rfl rfl 11 (by decide) kn_22 rfl dX1_play_23 ?_
          refine lv_iconst (v := nI 1) hx hb dX1_play_26 (by decide) ?_
          refine lv_iadd hx hb dX1_play_27 ?_
          refine r_putN (own := RX1) (C := RX3) (F := TX3) (N := 13) (ci := 3) (v := (c1 12 4) + (nI 1)) hx hb hK hts in_X3 tyX3 tyX3_ok nmX3 hown hP5 hD5 hS5 4 rfl rfl 11 (by decide) kn_22 rfl rfl (Nat.le_of_ble_eq_true rfl) dX1_play_28 (fun (H25 : Heap) (locs25 : List Loc) (hP25 : va_P D vwCl (fl [hO qh, aW T 0 (qh 1) 12 wk2_2, aW T 0 (qh 2) 3 dr2_2, aW T 0 (qh 3) 3 re2_2, sW T q (vset c1 12 (upd (c1 12) 4 ((c1 12 4) + (nI 1)))), tW T (q 11) (q 12) (nI (L 0)) (c1 9), tW T (q 13) (q 14) (nI (L 1)) (c1 10), tW T (q 15) (q 16) (nI (L 2)) (c1 11)]) H25) (hD25 : va_D A (fl [hO qh, aW T 0 (qh 1) 12 wk2_2, aW T 0 (qh 2) 3 dr2_2, aW T 0 (qh 3) 3 re2_2, sW T q (vset c1 12 (upd (c1 12) 4 ((c1 12 4) + (nI 1)))), tW T (q 11) (q 12) (nI (L 0)) (c1 9), tW T (q 13) (q 14) (nI (L 1)) (c1 10), tW T (q 15) (q 16) (nI (L 2)) (c1 11)])) hS25 => ?_)
          clear hP5 hD5 hS5
          refine lv_iinc (v := nI (i + 1)) (lv' := [(2, .int (nI (i + 1))), (0, .ref (qh 0)), (1, .ref (q 0))]) hx hb dX1_play_31 hl5 (k := 2) rfl (nI_add i 1) (by decide) rfl (fun ls26 hl26 => ?_)
          clear hl5
          refine lv_goto (tgt := 7) hx hb dX1_play_34 (by decide) ?_
          exact ih7 (i + 1) (vset c1 12 (upd (c1 12) 4 ((c1 12 4) + (nI 1)))) (by omega) (by rw [waI, ← hc]; first | rw [if_pos c_18] | rw [if_neg c_18]) (by omega) _ _ hP25 hD25 hS25 _ (lv_sub hl26 [1, 2, 0] rfl)
  exact loop7 ((3 - 0) + 1) 0 c (by omega) (rfl) (Nat.lt_succ_self _) _ _ hP2 hD2 hS2 _ (lv_sub hl3 [1, 2, 0] rfl)
set_option maxHeartbeats 4000000 in
set_option maxRecDepth 100000 in
theorem c_X1_playMany (l : Launch) (D : va_G) (T : TI) (qh : Nat → Nat) (wk : Nat → Int32) (dr : Nat → Int32) (re : Nat → Int32) (q : Nat → Nat) (c : Nat → Nat → Int32) (L : Nat → Nat) (mm : Nat → Int32) (n : Nat) (hS : Sim c L mm) (hn : n ≤ 48) : CI l yX1_playMany cX1_playMany 5 .int (rmD 4 0 0) D T [.ref (qh 0), .ref (q 0), .int (nI n)] [hO qh, aW T 0 (qh 1) 12 wk, aW T 0 (qh 2) 3 dr, aW T 0 (qh 3) 3 re, sW T q c, tW T (q 11) (q 12) (nI (L 0)) (c 9), tW T (q 13) (q 14) (nI (L 1)) (c 10), tW T (q 15) (q 16) (nI (L 2)) (c 11)] 0 0 (β := (Nat → Nat → Int32) × (Nat → Nat) × (Nat → Int32) × (Nat → Int32) × (Nat → Int32)) (fun ⟨c2, L2, wk2, dr2, re2⟩ => [hO qh, aW T 0 (qh 1) 12 wk2, aW T 0 (qh 2) 3 dr2, aW T 0 (qh 3) 3 re2, sW T q c2, tW T (q 11) (q 12) (nI (L2 0)) (c2 9), tW T (q 13) (q 14) (nI (L2 1)) (c2 10), tW T (q 15) (q 16) (nI (L2 2)) (c2 11)]) (fun (r : Int32) ⟨c2, L2, wk2, dr2, re2⟩ => r = sumM (hourN mm n) 3 12 - sumM mm 3 12 ∧ (Sim c2 L2 (hourN mm n))) := by
  intro sz
  refine met_rw (Qc := fun A => va_Qi _ (PST D _ A) A) rfl (Nat.le_of_ble_eq_true rfl) ?_
  intro pX eX sX mX bX mtX cX A hAe hC hA hP0 hD0 hS0 ls0 hl0 TG hTG
  clear hAe
  obtain ⟨hx, hb, hr, hml, hown, hts, hlocks, hin, hK⟩ := hC
  have hown : sX.vm.findClass RX1 = some mX.cls := hown
  have hl0 : lv_has ls0 5 [(0, .ref (qh 0)), (1, .ref (q 0)), (2, .int (nI n))] := hl0
  refine lv_aload_n hx hb dX1_playMany_0 rfl (lv_at hl0 1 rfl) ?_
  refine r_getN (own := RX1) (C := RX3) (F := TX3) (N := 13) (ci := 3) (v := .ref (q 7)) hx hb hK hts in_X3 hown hP0 4 rfl rfl 6 (by decide) kn_12 rfl dX1_playMany_1 ?_
  have hPc1 : va_P D vwCl (fl [aW T 0 (q 7) 12 (c 6)]) _ := hP0.sub [11] rfl
  refine cr_i (va_runSN (As := [.ref (q 7)]) (rest := []) ⟨hx, hb, hml, hown, hts⟩ (c_X5_sum l D T (q 7) (c 6) ) (mkSN hts okX5_sum (hK.2.1 _ kn_28) kw_285 ⟨rfl, rfl, Nat.le_of_ble_eq_true rfl, Nat.le_of_ble_eq_true rfl⟩) (ps_ro hK hPc1) rfl rfl hl0.1 rfl (lv_room (Nat.le_of_ble_eq_true rfl)) dX1_playMany_4 ⟨Nat.le_of_ble_eq_true rfl, Nat.le_of_ble_eq_true rfl⟩) hP0 hS0 (fun r_4 H2 locs2 hq_4 hP2 hS2 => ?_)
  clear hP0 hS0 hPc1
  have hD2 := hD0
  clear hD0
  have hq_4 : r_4 = sumF (c 6) 12 := hq_4
  subst hq_4
  refine lv_istore_n (lv' := [(3, .int (sumF (c 6) 12)), (0, .ref (qh 0)), (1, .ref (q 0)), (2, .int (nI n))]) hx hb dX1_playMany_7 rfl hl0 (by decide) rfl (fun ls3 hl3 => ?_)
  clear hl0
  refine lv_iconst (v := nI 0) hx hb dX1_playMany_8 (by decide) ?_
  refine lv_istore (lv' := [(4, .int (nI 0)), (3, .int (sumF (c 6) 12)), (0, .ref (qh 0)), (1, .ref (q 0)), (2, .int (nI n))]) hx hb dX1_playMany_9 hl3 (by decide) rfl (fun ls4 hl4 => ?_)
  clear hl3
  have loop11 : ∀ (n_ : Nat) (i : Nat) (c1 : Nat → Nat → Int32) (L1 : Nat → Nat) (wk1 : Nat → Int32) (dr1 : Nat → Int32) (re1 : Nat → Int32), (i ≤ n) → (Sim c1 L1 (hourN mm i)) → (n - i) < n_ → ∀ (H : Heap) (locs : List Loc), va_P D vwCl (fl [hO qh, aW T 0 (qh 1) 12 wk1, aW T 0 (qh 2) 3 dr1, aW T 0 (qh 3) 3 re1, sW T q c1, tW T (q 11) (q 12) (nI (L1 0)) (c1 9), tW T (q 13) (q 14) (nI (L1 1)) (c1 10), tW T (q 15) (q 16) (nI (L1 2)) (c1 11)]) H → va_D A (fl [hO qh, aW T 0 (qh 1) 12 wk1, aW T 0 (qh 2) 3 dr1, aW T 0 (qh 3) 3 re1, sW T q c1, tW T (q 11) (q 12) (nI (L1 0)) (c1 9), tW T (q 13) (q 14) (nI (L1 1)) (c1 10), tW T (q 15) (q 16) (nI (L1 2)) (c1 11)]) → va_S A sX.heap H locs → ∀ ls : Array Slot, lv_has ls 5 [(0, .ref (qh 0)), (1, .ref (q 0)), (2, .int (nI n)), (3, .int (sumF (c 6) 12)), (4, .int (nI i))] → W pX l eX (rmD 4 0 0) sX mX ([.ref (qh 0), .ref (q 0), .int (nI n)] : List Value).toArray bX mtX cX H locs 0 0 TG (F0 mX 11 ls []) := by
    intro n_
    induction n_ with
    | zero => intro i c1 L1 wk1 dr1 re1 hi hS1 hmu_ ; exact absurd hmu_ (Nat.not_lt_zero _)
    | succ n_ ih11 =>
      intro i c1 L1 wk1 dr1 re1 hi hS1 hmu_11 H6 locs6 hP6 hD6 hS6 ls6 hl6
      refine lv_iload hx hb dX1_playMany_11 (lv_at hl6 4 rfl) ?_
      refine lv_iload_n hx hb dX1_playMany_13 rfl (lv_at hl6 2 rfl) ?_
      refine n_icmp_ge (tgt := 28) hx hb (by omega) (by omega) dX1_playMany_14 (by decide) (fun c_14 => ?_) (fun c_14 => ?_)
      · skip
        have hi2 : n = i := by omega
        subst hi2
        refine lv_aload_n hx hb dX1_playMany_28 rfl (lv_at hl6 1 rfl) ?_
        refine r_getN (own := RX1) (C := RX3) (F := TX3) (N := 13) (ci := 3) (v := .ref (q 7)) hx hb hK hts in_X3 hown hP6 4 rfl rfl 6 (by decide) kn_12 rfl dX1_playMany_29 ?_
        have hPc8 : va_P D vwCl (fl [aW T 0 (q 7) 12 (c1 6)]) _ := hP6.sub [11] rfl
        refine cr_i (va_runSN (As := [.ref (q 7)]) (rest := []) ⟨hx, hb, hml, hown, hts⟩ (c_X5_sum l D T (q 7) (c1 6) ) (mkSN hts okX5_sum (hK.2.1 _ kn_28) kw_285 ⟨rfl, rfl, Nat.le_of_ble_eq_true rfl, Nat.le_of_ble_eq_true rfl⟩) (ps_ro hK hPc8) rfl rfl hl6.1 rfl (lv_room (Nat.le_of_ble_eq_true rfl)) dX1_playMany_32 ⟨Nat.le_of_ble_eq_true rfl, Nat.le_of_ble_eq_true rfl⟩) hP6 hS6 (fun r_32 H9 locs9 hq_32 hP9 hS9 => ?_)
        clear hP6 hS6 hPc8
        have hD9 := hD6
        clear hD6
        have hq_32 : r_32 = sumF (c1 6) 12 := hq_32
        subst hq_32
        refine lv_iload_n hx hb dX1_playMany_35 rfl (lv_at hl6 3 rfl) ?_
        refine lv_isub hx hb dX1_playMany_36 ?_
        refine ret_i hTG (Nat.le_refl _) (Nat.le_refl _) hx hb hr hlocks ((c1, L1, wk1, dr1, re1)) hP9 hD9 hS9 [0, 1, 2, 3, 4, 5, 6, 7] rfl (by decide) dX1_playMany_37 ?_
        exact ⟨by rw [hS1.sum.2.1, hS.sum.2.1], hS1⟩
      · skip
        refine lv_aload_n hx hb dX1_playMany_17 rfl (lv_at hl6 0 rfl) ?_
        refine lv_aload_n hx hb dX1_playMany_18 rfl (lv_at hl6 1 rfl) ?_
        have hPc10 : va_P D vwCl (fl [hO qh, aW T 0 (qh 1) 12 wk1, aW T 0 (qh 2) 3 dr1, aW T 0 (qh 3) 3 re1, sW T q c1, tW T (q 11) (q 12) (nI (L1 0)) (c1 9), tW T (q 13) (q 14) (nI (L1 1)) (c1 10), tW T (q 15) (q 16) (nI (L1 2)) (c1 11)]) _ := flP_sub hP6 [0, 1, 2, 3, 4, 5, 6, 7] rfl
        have hDc10 : va_D A (fl [hO qh, aW T 0 (qh 1) 12 wk1, aW T 0 (qh 2) 3 dr1, aW T 0 (qh 3) 3 re1, sW T q c1, tW T (q 11) (q 12) (nI (L1 0)) (c1 9), tW T (q 13) (q 14) (nI (L1 1)) (c1 10), tW T (q 15) (q 16) (nI (L1 2)) (c1 11)]) := flD_sub hD6 [0, 1, 2, 3, 4, 5, 6, 7] (by decide) rfl
        refine cl_v (br := []) (va_runV (As := [.ref (q 0)]) (rest := []) ⟨hx, hb, hml, hown, hts⟩ (c_X1_play l D T qh wk1 dr1 re1 q c1 L1 (hourN mm i) (hS1) _) (mkV hts okX1_play kw_287 kw_288 kw_289 ⟨rfl, rfl, Nat.le_of_ble_eq_true rfl, Nat.le_of_ble_eq_true rfl⟩) (pv_rw hK hPc10 hDc10 (q0 := 0) rfl rfl rfl) rfl rfl hl6.1 rfl (lv_room (Nat.le_of_ble_eq_true rfl)) dX1_playMany_19 ⟨Nat.le_of_ble_eq_true rfl, Nat.le_of_ble_eq_true rfl⟩) hP6 hD6 hS6 hA [] [0, 1, 2, 3, 4, 5, 6, 7] rfl (by decide) (fun u_19 H11 locs11 hq_19 hP11 hD11 hS11 => ?_)
        clear hP6 hD6 hS6 hPc10 hDc10
        obtain ⟨c2_19, L2_19, wk2_19, dr2_19, re2_19⟩ := u_19
        have hP11 : va_P D vwCl (fl [hO qh, aW T 0 (qh 1) 12 wk2_19, aW T 0 (qh 2) 3 dr2_19, aW T 0 (qh 3) 3 re2_19, sW T q c2_19, tW T (q 11) (q 12) (nI (L2_19 0)) (c2_19 9), tW T (q 13) (q 14) (nI (L2_19 1)) (c2_19 10), tW T (q 15) (q 16) (nI (L2_19 2)) (c2_19 11)]) _ := hP11
        have hD11 : va_D A (fl [hO qh, aW T 0 (qh 1) 12 wk2_19, aW T 0 (qh 2) 3 dr2_19, aW T 0 (qh 3) 3 re2_19, sW T q c2_19, tW T (q 11) (q 12) (nI (L2_19 0)) (c2_19 9), tW T (q 13) (q 14) (nI (L2_19 1)) (c2_19 10), tW T (q 15) (q 16) (nI (L2_19 2)) (c2_19 11)]) := hD11
        have hq_19 : Sim c2_19 L2_19 (hourF (hourN mm i)) := hq_19
        refine lv_iinc (v := nI (i + 1)) (lv' := [(4, .int (nI (i + 1))), (0, .ref (qh 0)), (1, .ref (q 0)), (2, .int (nI n)), (3, .int (sumF (c 6) 12))]) hx hb dX1_playMany_22 hl6 (k := 4) rfl (nI_add i 1) (by decide) rfl (fun ls12 hl12 => ?_)
        clear hl6
        refine lv_goto (tgt := 11) hx hb dX1_playMany_25 (by decide) ?_
        exact ih11 (i + 1) c2_19 L2_19 wk2_19 dr2_19 re2_19 (by omega) (hq_19) (by omega) _ _ hP11 hD11 hS11 _ (lv_sub hl12 [1, 2, 3, 4, 0] rfl)
  exact loop11 ((n - 0) + 1) 0 c L wk dr re (by omega) (hS) (Nat.lt_succ_self _) _ _ hP2 hD2 hS2 _ (lv_sub hl4 [2, 3, 4, 1, 0] rfl)
