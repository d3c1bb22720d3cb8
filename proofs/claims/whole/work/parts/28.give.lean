set_option maxHeartbeats 4000000 in
set_option maxRecDepth 100000 in
theorem c_X2_giveTo (l : Launch) (D : va_G) (T : TI) (ga : Nat) (gb : Nat) (f : Nat → Int32) (n : Nat) (pl : Nat) (ps : Nat) (q : Nat → Nat) (c : Nat → Nat → Int32) (L : Nat → Nat) (hn : n ≤ 60) (he : erT f ps n = n) (hpl2 : 2 ≤ (stT f ps n).1) (hT : okT c L) : CV l yX2_giveTo cX2_giveTo 6 (rmD 2 0 0) D T [.ref ga, .ref (q 0)] [gW T ga gb f (nI n) (nI pl) (nI ps), sW T q c, tW T (q 11) (q 12) (nI (L 0)) (c 9), tW T (q 13) (q 14) (nI (L 1)) (c 10), tW T (q 15) (q 16) (nI (L 2)) (c 11)] 0 0 (β := (Nat → Nat → Int32) × (Nat → Nat)) (fun ⟨c2, L2⟩ => [gW T ga gb f (nI n) (nI pl) (nI ps), sW T q c2, tW T (q 11) (q 12) (nI (L2 0)) (c2 9), tW T (q 13) (q 14) (nI (L2 1)) (c2 10), tW T (q 15) (q 16) (nI (L2 2)) (c2 11)]) (fun ⟨c2, L2⟩ => (c2, L2) = gvP (gvI f c L n)) := by
  intro sz
  refine met_rw (Qc := fun A => va_Qv _ (PST D _ A) A) rfl (Nat.le_of_ble_eq_true rfl) ?_
  intro pX eX sX mX bX mtX cX A hAe hC hA hP0 hD0 hS0 ls0 hl0 TG hTG
  clear hAe
  obtain ⟨hx, hb, hr, hml, hown, hts, hlocks, hin, hK⟩ := hC
  have hown : sX.vm.findClass RX2 = some mX.cls := hown
  have hl0 : lv_has ls0 6 [(0, .ref ga), (1, .ref (q 0))] := hl0
  refine lv_iconst (v := nI 0) hx hb dX2_giveTo_0 (by decide) ?_
  refine lv_istore_n (lv' := [(2, .int (nI 0)), (0, .ref ga), (1, .ref (q 0))]) hx hb dX2_giveTo_1 rfl hl0 (by decide) rfl (fun ls1 hl1 => ?_)
  clear hl0
  refine lv_iconst (v := nI 0) hx hb dX2_giveTo_2 (by decide) ?_
  refine lv_istore_n (lv' := [(3, .int (nI 0)), (2, .int (nI 0)), (0, .ref ga), (1, .ref (q 0))]) hx hb dX2_giveTo_3 rfl hl1 (by decide) rfl (fun ls2 hl2 => ?_)
  clear hl1
  refine lv_iconst (v := nI 0) hx hb dX2_giveTo_4 (by decide) ?_
  refine lv_istore (lv' := [(4, .int (nI 0)), (3, .int (nI 0)), (2, .int (nI 0)), (0, .ref ga), (1, .ref (q 0))]) hx hb dX2_giveTo_5 hl2 (by decide) rfl (fun ls3 hl3 => ?_)
  clear hl2
  have loop7 : ∀ (n_ : Nat) (i : Nat) (cr : Nat) (s1 : Int32) (c1 : Nat → Nat → Int32) (L1 : Nat → Nat), (i ≤ n) → ((cr, s1, c1, L1) = gvI f c L i) → (n - i) < n_ → ∀ (H : Heap) (locs : List Loc), va_P D vwCl (fl [gW T ga gb f (nI n) (nI pl) (nI ps), sW T q c1, tW T (q 11) (q 12) (nI (L1 0)) (c1 9), tW T (q 13) (q 14) (nI (L1 1)) (c1 10), tW T (q 15) (q 16) (nI (L1 2)) (c1 11)]) H → va_D A (fl [gW T ga gb f (nI n) (nI pl) (nI ps), sW T q c1, tW T (q 11) (q 12) (nI (L1 0)) (c1 9), tW T (q 13) (q 14) (nI (L1 1)) (c1 10), tW T (q 15) (q 16) (nI (L1 2)) (c1 11)]) → va_S A sX.heap H locs → ∀ ls : Array Slot, lv_has ls 6 [(0, .ref ga), (1, .ref (q 0)), (2, .int (nI cr)), (3, .int s1), (4, .int (nI i))] → W pX l eX (rmD 2 0 0) sX mX ([.ref ga, .ref (q 0)] : List Value).toArray bX mtX cX H locs 0 0 TG (F0 mX 7 ls []) := by
    intro n_
    induction n_ with
    | zero => intro i cr s1 c1 L1 hi hgv hmu_ ; exact absurd hmu_ (Nat.not_lt_zero _)
    | succ n_ ih7 =>
      intro i cr s1 c1 L1 hi hgv hmu_7 H5 locs5 hP5 hD5 hS5 ls5 hl5
      have hg0 := gv_inv hT he i hi
      rw [← hgv] at hg0
      have hcr3 : cr < 3 := hg0.1
      refine lv_iload hx hb dX2_giveTo_7 (lv_at hl5 4 rfl) ?_
      refine lv_aload_n hx hb dX2_giveTo_9 rfl (lv_at hl5 0 rfl) ?_
      refine r_get (own := RX2) (C := RX2) (F := TX2) (N := 4) (ci := 2) (v := .int (nI n)) hx hb hK hts in_X2 hown hP5 0 rfl rfl 1 (by decide) kw_166 rfl dX2_giveTo_10 ?_
      refine n_icmp_ge (tgt := 98) hx hb (by omega) (by omega) dX2_giveTo_13 (by decide) (fun c_13 => ?_) (fun c_13 => ?_)
      · skip
        have hi2 : n = i := by omega
        subst hi2
        obtain ⟨v, hv, hs, -, hl, h8⟩ := hg0.2.2.2.2 hpl2
        dsimp only at hl
        rcases (show cr = 0 ∨ cr = 1 ∨ cr = 2 by omega) with rfl | rfl | rfl
        · skip
          refine lv_aload_n hx hb dX2_giveTo_98 rfl (lv_at hl5 1 rfl) ?_
          refine r_getN (own := RX2) (C := RX3) (F := TX3) (N := 13) (ci := 3) (v := .ref (q 10)) hx hb hK hts in_X3 hown hP5 2 rfl rfl 9 (by decide) kn_21 rfl dX2_giveTo_99 ?_
          refine lv_iload_n hx hb dX2_giveTo_102 rfl (lv_at hl5 2 rfl) ?_
          refine r_aald (C := RX4) (v := (q 11)) hx hb hK hP5 12 2 rfl rfl 0 (by decide) dX2_giveTo_103 (by decide) (rfl) ?_
          refine lv_iload_n hx hb dX2_giveTo_104 rfl (lv_at hl5 3 rfl) ?_
          have hPc7 : va_P D vwCl (fl [tW T (q 11) (q 12) (nI (L1 0)) (c1 9)]) _ := flP_sub hP5 [2] rfl
          have hDc7 : va_D A (fl [tW T (q 11) (q 12) (nI (L1 0)) (c1 9)]) := flD_sub hD5 [2] (by decide) rfl
          refine cl_v (br := [gW T ga gb f (nI n) (nI pl) (nI ps), sW T q c1, tW T (q 13) (q 14) (nI (L1 1)) (c1 10), tW T (q 15) (q 16) (nI (L1 2)) (c1 11)]) (va_runV (As := [.int s1]) (rest := []) ⟨hx, hb, hml, hown, hts⟩ (c_X4_putLast l D T (q 11) (q 12) (L1 0) (c1 9) s1 (by omega) _) (mkV hts okX4_putLast kw_616 kw_247 kw_248 ⟨rfl, rfl, Nat.le_of_ble_eq_true rfl, Nat.le_of_ble_eq_true rfl⟩) (pv_rw hK hPc7 hDc7 (q0 := 0) rfl rfl rfl) rfl rfl hl5.1 rfl (lv_room (Nat.le_of_ble_eq_true rfl)) dX2_giveTo_105 ⟨Nat.le_of_ble_eq_true rfl, Nat.le_of_ble_eq_true rfl⟩) hP5 hD5 hS5 hA [0, 1, 3, 4] [2] rfl (by decide) (fun _u8 H8 locs8 hq_105 hP8 hD8 hS8 => ?_)
          clear hP5 hD5 hS5 hPc7 hDc7
          have hP8 : va_P D vwCl (fl [gW T ga gb f (nI n) (nI pl) (nI ps), sW T q c1, tW T (q 13) (q 14) (nI (L1 1)) (c1 10), tW T (q 15) (q 16) (nI (L1 2)) (c1 11), tW T (q 11) (q 12) (nI ((L1 0) + 1)) (upd (c1 9) (L1 0) s1)]) _ := hP8
          have hD8 : va_D A (fl [gW T ga gb f (nI n) (nI pl) (nI ps), sW T q c1, tW T (q 13) (q 14) (nI (L1 1)) (c1 10), tW T (q 15) (q 16) (nI (L1 2)) (c1 11), tW T (q 11) (q 12) (nI ((L1 0) + 1)) (upd (c1 9) (L1 0) s1)]) := hD8
          refine ret_v hTG (Nat.le_refl _) (Nat.le_refl _) hx hb hr hlocks ((vset c1 9 (upd (c1 9) (L1 0) s1), upN L1 0 (L1 0 + 1))) hP8 hD8 hS8 [0, 1, 4, 2, 3] rfl (by decide) dX2_giveTo_108 ?_
          rw [← hgv]; rfl
        · skip
          refine lv_aload_n hx hb dX2_giveTo_98 rfl (lv_at hl5 1 rfl) ?_
          refine r_getN (own := RX2) (C := RX3) (F := TX3) (N := 13) (ci := 3) (v := .ref (q 10)) hx hb hK hts in_X3 hown hP5 2 rfl rfl 9 (by decide) kn_21 rfl dX2_giveTo_99 ?_
          refine lv_iload_n hx hb dX2_giveTo_102 rfl (lv_at hl5 2 rfl) ?_
          refine r_aald (C := RX4) (v := (q 13)) hx hb hK hP5 12 2 rfl rfl 1 (by decide) dX2_giveTo_103 (by decide) (rfl) ?_
          refine lv_iload_n hx hb dX2_giveTo_104 rfl (lv_at hl5 3 rfl) ?_
          have hPc9 : va_P D vwCl (fl [tW T (q 13) (q 14) (nI (L1 1)) (c1 10)]) _ := flP_sub hP5 [3] rfl
          have hDc9 : va_D A (fl [tW T (q 13) (q 14) (nI (L1 1)) (c1 10)]) := flD_sub hD5 [3] (by decide) rfl
          refine cl_v (br := [gW T ga gb f (nI n) (nI pl) (nI ps), sW T q c1, tW T (q 11) (q 12) (nI (L1 0)) (c1 9), tW T (q 15) (q 16) (nI (L1 2)) (c1 11)]) (va_runV (As := [.int s1]) (rest := []) ⟨hx, hb, hml, hown, hts⟩ (c_X4_putLast l D T (q 13) (q 14) (L1 1) (c1 10) s1 (by omega) _) (mkV hts okX4_putLast kw_616 kw_247 kw_248 ⟨rfl, rfl, Nat.le_of_ble_eq_true rfl, Nat.le_of_ble_eq_true rfl⟩) (pv_rw hK hPc9 hDc9 (q0 := 0) rfl rfl rfl) rfl rfl hl5.1 rfl (lv_room (Nat.le_of_ble_eq_true rfl)) dX2_giveTo_105 ⟨Nat.le_of_ble_eq_true rfl, Nat.le_of_ble_eq_true rfl⟩) hP5 hD5 hS5 hA [0, 1, 2, 4] [3] rfl (by decide) (fun _u10 H10 locs10 hq_105 hP10 hD10 hS10 => ?_)
          clear hP5 hD5 hS5 hPc9 hDc9
          have hP10 : va_P D vwCl (fl [gW T ga gb f (nI n) (nI pl) (nI ps), sW T q c1, tW T (q 11) (q 12) (nI (L1 0)) (c1 9), tW T (q 15) (q 16) (nI (L1 2)) (c1 11), tW T (q 13) (q 14) (nI ((L1 1) + 1)) (upd (c1 10) (L1 1) s1)]) _ := hP10
          have hD10 : va_D A (fl [gW T ga gb f (nI n) (nI pl) (nI ps), sW T q c1, tW T (q 11) (q 12) (nI (L1 0)) (c1 9), tW T (q 15) (q 16) (nI (L1 2)) (c1 11), tW T (q 13) (q 14) (nI ((L1 1) + 1)) (upd (c1 10) (L1 1) s1)]) := hD10
          refine ret_v hTG (Nat.le_refl _) (Nat.le_refl _) hx hb hr hlocks ((vset c1 10 (upd (c1 10) (L1 1) s1), upN L1 1 (L1 1 + 1))) hP10 hD10 hS10 [0, 1, 2, 4, 3] rfl (by decide) dX2_giveTo_108 ?_
          rw [← hgv]; rfl
        · skip
          refine lv_aload_n hx hb dX2_giveTo_98 rfl (lv_at hl5 1 rfl) ?_
          refine r_getN (own := RX2) (C := RX3) (F := TX3) (N := 13) (ci := 3) (v := .ref (q 10)) hx hb hK hts in_X3 hown hP5 2 rfl rfl 9 (by decide) kn_21 rfl dX2_giveTo_99 ?_
          refine lv_iload_n hx hb dX2_giveTo_102 rfl (lv_at hl5 2 rfl) ?_
          refine r_aald (C := RX4) (v := (q 15)) hx hb hK hP5 12 2 rfl rfl 2 (by decide) dX2_giveTo_103 (by decide) (rfl) ?_
          refine lv_iload_n hx hb dX2_giveTo_104 rfl (lv_at hl5 3 rfl) ?_
          have hPc11 : va_P D vwCl (fl [tW T (q 15) (q 16) (nI (L1 2)) (c1 11)]) _ := flP_sub hP5 [4] rfl
          have hDc11 : va_D A (fl [tW T (q 15) (q 16) (nI (L1 2)) (c1 11)]) := flD_sub hD5 [4] (by decide) rfl
          refine cl_v (br := [gW T ga gb f (nI n) (nI pl) (nI ps), sW T q c1, tW T (q 11) (q 12) (nI (L1 0)) (c1 9), tW T (q 13) (q 14) (nI (L1 1)) (c1 10)]) (va_runV (As := [.int s1]) (rest := []) ⟨hx, hb, hml, hown, hts⟩ (c_X4_putLast l D T (q 15) (q 16) (L1 2) (c1 11) s1 (by omega) _) (mkV hts okX4_putLast kw_616 kw_247 kw_248 ⟨rfl, rfl, Nat.le_of_ble_eq_true rfl, Nat.le_of_ble_eq_true rfl⟩) (pv_rw hK hPc11 hDc11 (q0 := 0) rfl rfl rfl) rfl rfl hl5.1 rfl (lv_room (Nat.le_of_ble_eq_true rfl)) dX2_giveTo_105 ⟨Nat.le_of_ble_eq_true rfl, Nat.le_of_ble_eq_true rfl⟩) hP5 hD5 hS5 hA [0, 1, 2, 3] [4] rfl (by decide) (fun _u12 H12 locs12 hq_105 hP12 hD12 hS12 => ?_)
          clear hP5 hD5 hS5 hPc11 hDc11
          have hP12 : va_P D vwCl (fl [gW T ga gb f (nI n) (nI pl) (nI ps), sW T q c1, tW T (q 11) (q 12) (nI (L1 0)) (c1 9), tW T (q 13) (q 14) (nI (L1 1)) (c1 10), tW T (q 15) (q 16) (nI ((L1 2) + 1)) (upd (c1 11) (L1 2) s1)]) _ := hP12
          have hD12 : va_D A (fl [gW T ga gb f (nI n) (nI pl) (nI ps), sW T q c1, tW T (q 11) (q 12) (nI (L1 0)) (c1 9), tW T (q 13) (q 14) (nI (L1 1)) (c1 10), tW T (q 15) (q 16) (nI ((L1 2) + 1)) (upd (c1 11) (L1 2) s1)]) := hD12
          refine ret_v hTG (Nat.le_refl _) (Nat.le_refl _) hx hb hr hlocks ((vset c1 11 (upd (c1 11) (L1 2) s1), upN L1 2 (L1 2 + 1))) hP12 hD12 hS12 [0, 1, 2, 3, 4] rfl (by decide) dX2_giveTo_108 ?_
          rw [← hgv]; rfl
      · skip
        refine lv_iload hx hb dX2_giveTo_16 (lv_at hl5 4 rfl) ?_
        refine lv_bipush (v := nI 60) hx hb dX2_giveTo_18 (by decide) ?_
        refine n_icmp_ge (tgt := 98) hx hb (by omega) (by omega) dX2_giveTo_20 (by decide) (fun c13 => absurd c13 (by omega)) (fun c13 => ?_)
        refine lv_aload_n hx hb dX2_giveTo_23 rfl (lv_at hl5 0 rfl) ?_
        refine r_get (own := RX2) (C := RX2) (F := TX2) (N := 4) (ci := 2) (v := .ref gb) hx hb hK hts in_X2 hown hP5 0 rfl rfl 0 (by decide) kw_164 rfl dX2_giveTo_24 ?_
        refine lv_iload hx hb dX2_giveTo_27 (lv_at hl5 4 rfl) ?_
        refine r_iald hx hb hK hP5 1 (f := f) (n := 60) rfl i (by decide) dX2_giveTo_29 (by omega) ?_
        refine lv_istore (lv' := [(5, .int (f i)), (0, .ref ga), (1, .ref (q 0)), (2, .int (nI cr)), (3, .int s1), (4, .int (nI i))]) hx hb dX2_giveTo_30 hl5 (by decide) rfl (fun ls14 hl14 => ?_)
        clear hl5
        refine lv_iload hx hb dX2_giveTo_32 (lv_at hl14 0 rfl) ?_
        have hPc15 : va_P D vwCl (fl []) _ := hP5.sub [] rfl
        refine cr_i (va_runS (As := [.int (f i)]) (rest := []) ⟨hx, hb, hml, hown, hts⟩ (c_X2_isCrew l D T (f i) ) (mkS hts okX2_isCrew kw_215 kw_216 ⟨rfl, rfl, Nat.le_of_ble_eq_true rfl, Nat.le_of_ble_eq_true rfl⟩) (ps_ro hK hPc15) rfl rfl hl14.1 rfl (lv_room (Nat.le_of_ble_eq_true rfl)) dX2_giveTo_34 ⟨Nat.le_of_ble_eq_true rfl, Nat.le_of_ble_eq_true rfl⟩) hP5 hS5 (fun r_34 H16 locs16 hq_34 hP16 hS16 => ?_)
        clear hP5 hS5 hPc15
        have hD16 := hD5
        clear hD5
        have hq_34 : r_34 = bI (isCr (f i)) := hq_34
        subst hq_34
        refine z_if_eq (tgt := 58) hx hb dX2_giveTo_37 (by decide) (fun c_37 => ?_) (fun c_37 => ?_)
        · skip
          refine lv_iload hx hb dX2_giveTo_58 (lv_at hl14 0 rfl) ?_
          have hPc18 : va_P D vwCl (fl []) _ := hP16.sub [] rfl
          refine cr_i (va_runS (As := [.int (f i)]) (rest := []) ⟨hx, hb, hml, hown, hts⟩ (c_X2_isDigit l D T (f i) ) (mkS hts okX2_isDigit kw_218 kw_219 ⟨rfl, rfl, Nat.le_of_ble_eq_true rfl, Nat.le_of_ble_eq_true rfl⟩) (ps_ro hK hPc18) rfl rfl hl14.1 rfl (lv_room (Nat.le_of_ble_eq_true rfl)) dX2_giveTo_60 ⟨Nat.le_of_ble_eq_true rfl, Nat.le_of_ble_eq_true rfl⟩) hP16 hS16 (fun r_60 H19 locs19 hq_60 hP19 hS19 => ?_)
          clear hP16 hS16 hPc18
          have hD19 := hD16
          clear hD16
          have hq_60 : r_60 = bI (isDg (f i)) := hq_60
          subst hq_60
          refine z_if_eq (tgt := 80) hx hb dX2_giveTo_63 (by decide) (fun c_63 => ?_) (fun c_63 => ?_)
          · skip
            have hrm := gv_room hT he (show i < n by omega) c_37 c_63
            rw [← hgv] at hrm
            dsimp only at hrm
            rcases (show cr = 0 ∨ cr = 1 ∨ cr = 2 by omega) with rfl | rfl | rfl
            · skip
              refine lv_aload_n hx hb dX2_giveTo_80 rfl (lv_at hl14 2 rfl) ?_
              refine r_getN (own := RX2) (C := RX3) (F := TX3) (N := 13) (ci := 3) (v := .ref (q 10)) hx hb hK hts in_X3 hown hP19 2 rfl rfl 9 (by decide) kn_21 rfl dX2_giveTo_81 ?_
              refine lv_iload_n hx hb dX2_giveTo_84 rfl (lv_at hl14 3 rfl) ?_
              refine r_aald (C := RX4) (v := (q 11)) hx hb hK hP19 12 2 rfl rfl 0 (by decide) dX2_giveTo_85 (by decide) (rfl) ?_
              refine lv_iload_n hx hb dX2_giveTo_86 rfl (lv_at hl14 4 rfl) ?_
              have hPc21 : va_P D vwCl (fl [tW T (q 11) (q 12) (nI (L1 0)) (c1 9)]) _ := flP_sub hP19 [2] rfl
              have hDc21 : va_D A (fl [tW T (q 11) (q 12) (nI (L1 0)) (c1 9)]) := flD_sub hD19 [2] (by decide) rfl
              refine cl_v (br := [gW T ga gb f (nI n) (nI pl) (nI ps), sW T q c1, tW T (q 13) (q 14) (nI (L1 1)) (c1 10), tW T (q 15) (q 16) (nI (L1 2)) (c1 11)]) (va_runV (As := [.int s1]) (rest := []) ⟨hx, hb, hml, hown, hts⟩ (c_X4_putLast l D T (q 11) (q 12) (L1 0) (c1 9) s1 (hrm) _) (mkV hts okX4_putLast kw_616 kw_247 kw_248 ⟨rfl, rfl, Nat.le_of_ble_eq_true rfl, Nat.le_of_ble_eq_true rfl⟩) (pv_rw hK hPc21 hDc21 (q0 := 0) rfl rfl rfl) rfl rfl hl14.1 rfl (lv_room (Nat.le_of_ble_eq_true rfl)) dX2_giveTo_87 ⟨Nat.le_of_ble_eq_true rfl, Nat.le_of_ble_eq_true rfl⟩) hP19 hD19 hS19 hA [0, 1, 3, 4] [2] rfl (by decide) (fun _u22 H22 locs22 hq_87 hP22 hD22 hS22 => ?_)
              clear hP19 hD19 hS19 hPc21 hDc21
              have hP22 : va_P D vwCl (fl [gW T ga gb f (nI n) (nI pl) (nI ps), sW T q c1, tW T (q 13) (q 14) (nI (L1 1)) (c1 10), tW T (q 15) (q 16) (nI (L1 2)) (c1 11), tW T (q 11) (q 12) (nI ((L1 0) + 1)) (upd (c1 9) (L1 0) s1)]) _ := hP22
              have hD22 : va_D A (fl [gW T ga gb f (nI n) (nI pl) (nI ps), sW T q c1, tW T (q 13) (q 14) (nI (L1 1)) (c1 10), tW T (q 15) (q 16) (nI (L1 2)) (c1 11), tW T (q 11) (q 12) (nI ((L1 0) + 1)) (upd (c1 9) (L1 0) s1)]) := hD22
              refine lv_iconst (v := nI 0) hx hb dX2_giveTo_90 (by decide) ?_
              refine lv_istore_n (lv' := [(3, .int (nI 0)), (5, .int (f i)), (0, .ref ga), (1, .ref (q 0)), (2, .int (nI 0)), (4, .int (nI i))]) hx hb dX2_giveTo_91 rfl hl14 (by decide) rfl (fun ls23 hl23 => ?_)
              clear hl14
              refine lv_iinc (v := nI (i + 1)) (lv' := [(4, .int (nI (i + 1))), (3, .int (nI 0)), (5, .int (f i)), (0, .ref ga), (1, .ref (q 0)), (2, .int (nI 0))]) hx hb dX2_giveTo_92 hl23 (k := 5) rfl (nI_add i 1) (by decide) rfl (fun ls24 hl24 => ?_)
              clear hl23
              refine lv_goto (tgt := 7) hx hb dX2_giveTo_95 (by decide) ?_
              have hgv' : (0, nI 0, vset c1 9 (upd (c1 9) (L1 0) s1), upN L1 0 (L1 0 + 1)) = gvI f c L (i + 1) := by rw [gvI, ← hgv]; unfold gvS; rw [if_neg (by rw [c_37]; decide), if_neg (by rw [c_63]; decide)]; rfl
              have hP25 : va_P D vwCl (fl [gW T ga gb f (nI n) (nI pl) (nI ps), sW T q c1, tW T (q 11) (q 12) (nI ((L1 0) + 1)) (upd (c1 9) (L1 0) s1), tW T (q 13) (q 14) (nI (L1 1)) (c1 10), tW T (q 15) (q 16) (nI (L1 2)) (c1 11)]) _ := flP_sub hP22 [0, 1, 4, 2, 3] rfl
              have hD25 : va_D A (fl [gW T ga gb f (nI n) (nI pl) (nI ps), sW T q c1, tW T (q 11) (q 12) (nI ((L1 0) + 1)) (upd (c1 9) (L1 0) s1), tW T (q 13) (q 14) (nI (L1 1)) (c1 10), tW T (q 15) (q 16) (nI (L1 2)) (c1 11)]) := flD_sub hD22 [0, 1, 4, 2, 3] (by decide) rfl
              have hS25 := hS22
              clear hP22 hS22 hD22
              exact ih7 (i + 1) 0 (nI 0) (vset c1 9 (upd (c1 9) (L1 0) s1)) (upN L1 0 (L1 0 + 1)) (by omega) (hgv') (by omega) _ _ hP25 hD25 hS25 _ (lv_sub hl24 [3, 4, 5, 1, 0] rfl)
            · skip
              refine lv_aload_n hx hb dX2_giveTo_80 rfl (lv_at hl14 2 rfl) ?_
              refine r_getN (own := RX2) (C := RX3) (F := TX3) (N := 13) (ci := 3) (v := .ref (q 10)) hx hb hK hts in_X3 hown hP19 2 rfl rfl 9 (by decide) kn_21 rfl dX2_giveTo_81 ?_
              refine lv_iload_n hx hb dX2_giveTo_84 rfl (lv_at hl14 3 rfl) ?_
              refine r_aald (C := RX4) (v := (q 13)) hx hb hK hP19 12 2 rfl rfl 1 (by decide) dX2_giveTo_85 (by decide) (rfl) ?_
              refine lv_iload_n hx hb dX2_giveTo_86 rfl (lv_at hl14 4 rfl) ?_
              have hPc26 : va_P D vwCl (fl [tW T (q 13) (q 14) (nI (L1 1)) (c1 10)]) _ := flP_sub hP19 [3] rfl
              have hDc26 : va_D A (fl [tW T (q 13) (q 14) (nI (L1 1)) (c1 10)]) := flD_sub hD19 [3] (by decide) rfl
              refine cl_v (br := [gW T ga gb f (nI n) (nI pl) (nI ps), sW T q c1, tW T (q 11) (q 12) (nI (L1 0)) (c1 9), tW T (q 15) (q 16) (nI (L1 2)) (c1 11)]) (va_runV (As := [.int s1]) (rest := []) ⟨hx, hb, hml, hown, hts⟩ (c_X4_putLast l D T (q 13) (q 14) (L1 1) (c1 10) s1 (hrm) _) (mkV hts okX4_putLast kw_616 kw_247 kw_248 ⟨rfl, rfl, Nat.le_of_ble_eq_true rfl, Nat.le_of_ble_eq_true rfl⟩) (pv_rw hK hPc26 hDc26 (q0 := 0) rfl rfl rfl) rfl rfl hl14.1 rfl (lv_room (Nat.le_of_ble_eq_true rfl)) dX2_giveTo_87 ⟨Nat.le_of_ble_eq_true rfl, Nat.le_of_ble_eq_true rfl⟩) hP19 hD19 hS19 hA [0, 1, 2, 4] [3] rfl (by decide) (fun _u27 H27 locs27 hq_87 hP27 hD27 hS27 => ?_)
              clear hP19 hD19 hS19 hPc26 hDc26
              have hP27 : va_P D vwCl (fl [gW T ga gb f (nI n) (nI pl) (nI ps), sW T q c1, tW T (q 11) (q 12) (nI (L1 0)) (c1 9), tW T (q 15) (q 16) (nI (L1 2)) (c1 11), tW T (q 13) (q 14) (nI ((L1 1) + 1)) (upd (c1 10) (L1 1) s1)]) _ := hP27
              have hD27 : va_D A (fl [gW T ga gb f (nI n) (nI pl) (nI ps), sW T q c1, tW T (q 11) (q 12) (nI (L1 0)) (c1 9), tW T (q 15) (q 16) (nI (L1 2)) (c1 11), tW T (q 13) (q 14) (nI ((L1 1) + 1)) (upd (c1 10) (L1 1) s1)]) := hD27
              refine lv_iconst (v := nI 0) hx hb dX2_giveTo_90 (by decide) ?_
              refine lv_istore_n (lv' := [(3, .int (nI 0)), (5, .int (f i)), (0, .ref ga), (1, .ref (q 0)), (2, .int (nI 1)), (4, .int (nI i))]) hx hb dX2_giveTo_91 rfl hl14 (by decide) rfl (fun ls28 hl28 => ?_)
              clear hl14
              refine lv_iinc (v := nI (i + 1)) (lv' := [(4, .int (nI (i + 1))), (3, .int (nI 0)), (5, .int (f i)), (0, .ref ga), (1, .ref (q 0)), (2, .int (nI 1))]) hx hb dX2_giveTo_92 hl28 (k := 5) rfl (nI_add i 1) (by decide) rfl (fun ls29 hl29 => ?_)
              clear hl28
              refine lv_goto (tgt := 7) hx hb dX2_giveTo_95 (by decide) ?_
              have hgv' : (1, nI 0, vset c1 10 (upd (c1 10) (L1 1) s1), upN L1 1 (L1 1 + 1)) = gvI f c L (i + 1) := by rw [gvI, ← hgv]; unfold gvS; rw [if_neg (by rw [c_37]; decide), if_neg (by rw [c_63]; decide)]; rfl
              have hP30 : va_P D vwCl (fl [gW T ga gb f (nI n) (nI pl) (nI ps), sW T q c1, tW T (q 11) (q 12) (nI (L1 0)) (c1 9), tW T (q 13) (q 14) (nI ((L1 1) + 1)) (upd (c1 10) (L1 1) s1), tW T (q 15) (q 16) (nI (L1 2)) (c1 11)]) _ := flP_sub hP27 [0, 1, 2, 4, 3] rfl
              have hD30 : va_D A (fl [gW T ga gb f (nI n) (nI pl) (nI ps), sW T q c1, tW T (q 11) (q 12) (nI (L1 0)) (c1 9), tW T (q 13) (q 14) (nI ((L1 1) + 1)) (upd (c1 10) (L1 1) s1), tW T (q 15) (q 16) (nI (L1 2)) (c1 11)]) := flD_sub hD27 [0, 1, 2, 4, 3] (by decide) rfl
              have hS30 := hS27
              clear hP27 hS27 hD27
              exact ih7 (i + 1) 1 (nI 0) (vset c1 10 (upd (c1 10) (L1 1) s1)) (upN L1 1 (L1 1 + 1)) (by omega) (hgv') (by omega) _ _ hP30 hD30 hS30 _ (lv_sub hl29 [3, 4, 5, 1, 0] rfl)
            · skip
              refine lv_aload_n hx hb dX2_giveTo_80 rfl (lv_at hl14 2 rfl) ?_
              refine r_getN (own := RX2) (C := RX3) (F := TX3) (N := 13) (ci := 3) (v := .ref (q 10)) hx hb hK hts in_X3 hown hP19 2 rfl rfl 9 (by decide) kn_21 rfl dX2_giveTo_81 ?_
              refine lv_iload_n hx hb dX2_giveTo_84 rfl (lv_at hl14 3 rfl) ?_
              refine r_aald (C := RX4) (v := (q 15)) hx hb hK hP19 12 2 rfl rfl 2 (by decide) dX2_giveTo_85 (by decide) (rfl) ?_
              refine lv_iload_n hx hb dX2_giveTo_86 rfl (lv_at hl14 4 rfl) ?_
              have hPc31 : va_P D vwCl (fl [tW T (q 15) (q 16) (nI (L1 2)) (c1 11)]) _ := flP_sub hP19 [4] rfl
              have hDc31 : va_D A (fl [tW T (q 15) (q 16) (nI (L1 2)) (c1 11)]) := flD_sub hD19 [4] (by decide) rfl
              refine cl_v (br := [gW T ga gb f (nI n) (nI pl) (nI ps), sW T q c1, tW T (q 11) (q 12) (nI (L1 0)) (c1 9), tW T (q 13) (q 14) (nI (L1 1)) (c1 10)]) (va_runV (As := [.int s1]) (rest := []) ⟨hx, hb, hml, hown, hts⟩ (c_X4_putLast l D T (q 15) (q 16) (L1 2) (c1 11) s1 (hrm) _) (mkV hts okX4_putLast kw_616 kw_247 kw_248 ⟨rfl, rfl, Nat.le_of_ble_eq_true rfl, Nat.le_of_ble_eq_true rfl⟩) (pv_rw hK hPc31 hDc31 (q0 := 0) rfl rfl rfl) rfl rfl hl14.1 rfl (lv_room (Nat.le_of_ble_eq_true rfl)) dX2_giveTo_87 ⟨Nat.le_of_ble_eq_true rfl, Nat.le_of_ble_eq_true rfl⟩) hP19 hD19 hS19 hA [0, 1, 2, 3] [4] rfl (by decide) (fun _u32 H32 locs32 hq_87 hP32 hD32 hS32 => ?_)
              clear hP19 hD19 hS19 hPc31 hDc31
              have hP32 : va_P D vwCl (fl [gW T ga gb f (nI n) (nI pl) (nI ps), sW T q c1, tW T (q 11) (q 12) (nI (L1 0)) (c1 9), tW T (q 13) (q 14) (nI (L1 1)) (c1 10), tW T (q 15) (q 16) (nI ((L1 2) + 1)) (upd (c1 11) (L1 2) s1)]) _ := hP32
              have hD32 : va_D A (fl [gW T ga gb f (nI n) (nI pl) (nI ps), sW T q c1, tW T (q 11) (q 12) (nI (L1 0)) (c1 9), tW T (q 13) (q 14) (nI (L1 1)) (c1 10), tW T (q 15) (q 16) (nI ((L1 2) + 1)) (upd (c1 11) (L1 2) s1)]) := hD32
              refine lv_iconst (v := nI 0) hx hb dX2_giveTo_90 (by decide) ?_
              refine lv_istore_n (lv' := [(3, .int (nI 0)), (5, .int (f i)), (0, .ref ga), (1, .ref (q 0)), (2, .int (nI 2)), (4, .int (nI i))]) hx hb dX2_giveTo_91 rfl hl14 (by decide) rfl (fun ls33 hl33 => ?_)
              clear hl14
              refine lv_iinc (v := nI (i + 1)) (lv' := [(4, .int (nI (i + 1))), (3, .int (nI 0)), (5, .int (f i)), (0, .ref ga), (1, .ref (q 0)), (2, .int (nI 2))]) hx hb dX2_giveTo_92 hl33 (k := 5) rfl (nI_add i 1) (by decide) rfl (fun ls34 hl34 => ?_)
              clear hl33
              refine lv_goto (tgt := 7) hx hb dX2_giveTo_95 (by decide) ?_
              have hgv' : (2, nI 0, vset c1 11 (upd (c1 11) (L1 2) s1), upN L1 2 (L1 2 + 1)) = gvI f c L (i + 1) := by rw [gvI, ← hgv]; unfold gvS; rw [if_neg (by rw [c_37]; decide), if_neg (by rw [c_63]; decide)]; rfl
              exact ih7 (i + 1) 2 (nI 0) (vset c1 11 (upd (c1 11) (L1 2) s1)) (upN L1 2 (L1 2 + 1)) (by omega) (hgv') (by omega) _ _ hP32 hD32 hS32 _ (lv_sub hl34 [3, 4, 5, 1, 0] rfl)
          · skip
            refine lv_iload_n hx hb dX2_giveTo_66 rfl (lv_at hl14 4 rfl) ?_
            refine lv_bipush (v := nI 10) hx hb dX2_giveTo_67 (by decide) ?_
            refine lv_imul hx hb dX2_giveTo_69 ?_
            refine lv_iload hx hb dX2_giveTo_70 (lv_at hl14 0 rfl) ?_
            refine lv_bipush (v := nI 48) hx hb dX2_giveTo_72 (by decide) ?_
            refine lv_isub hx hb dX2_giveTo_74 ?_
            refine lv_iadd hx hb dX2_giveTo_75 ?_
            refine lv_istore_n (lv' := [(3, .int ((s1 * (nI 10)) + ((f i) - (nI 48)))), (5, .int (f i)), (0, .ref ga), (1, .ref (q 0)), (2, .int (nI cr)), (4, .int (nI i))]) hx hb dX2_giveTo_76 rfl hl14 (by decide) rfl (fun ls35 hl35 => ?_)
            clear hl14
            refine lv_goto (tgt := 92) hx hb dX2_giveTo_77 (by decide) ?_
            refine lv_iinc (v := nI (i + 1)) (lv' := [(4, .int (nI (i + 1))), (3, .int ((s1 * (nI 10)) + ((f i) - (nI 48)))), (5, .int (f i)), (0, .ref ga), (1, .ref (q 0)), (2, .int (nI cr))]) hx hb dX2_giveTo_92 hl35 (k := 5) rfl (nI_add i 1) (by decide) rfl (fun ls36 hl36 => ?_)
            clear hl35
            refine lv_goto (tgt := 7) hx hb dX2_giveTo_95 (by decide) ?_
            have hgv' : (cr, s1 * nI 10 + (f i - nI 48), c1, L1) = gvI f c L (i + 1) := by rw [gvI, ← hgv]; unfold gvS; rw [if_neg (by rw [c_37]; decide), if_pos c_63]
            exact ih7 (i + 1) cr ((s1 * (nI 10)) + ((f i) - (nI 48))) c1 L1 (by omega) (hgv') (by omega) _ _ hP19 hD19 hS19 _ (lv_sub hl36 [3, 4, 5, 1, 0] rfl)
        · skip
          obtain ⟨k, hk, hfk⟩ := isCr_x c_37
          refine lv_iload hx hb dX2_giveTo_40 (lv_at hl14 0 rfl) ?_
          refine lv_bipush (v := nI 97) hx hb dX2_giveTo_42 (by decide) ?_
          refine lv_isub hx hb dX2_giveTo_44 ?_
          refine tp_i (y := nI k) (by rw [hfk]; exact nI_sb (by omega)) ?_
          rcases (show k = 0 ∨ k = 1 ∨ k = 2 by omega) with rfl | rfl | rfl
          · skip
            refine lv_istore_n (lv' := [(2, .int (nI 0)), (5, .int (f i)), (0, .ref ga), (1, .ref (q 0)), (3, .int s1), (4, .int (nI i))]) hx hb dX2_giveTo_45 rfl hl14 (by decide) rfl (fun ls37 hl37 => ?_)
            clear hl14
            refine lv_aload_n hx hb dX2_giveTo_46 rfl (lv_at hl37 3 rfl) ?_
            refine r_getN (own := RX2) (C := RX3) (F := TX3) (N := 13) (ci := 3) (v := .ref (q 10)) hx hb hK hts in_X3 hown hP16 2 rfl rfl 9 (by decide) kn_21 rfl dX2_giveTo_47 ?_
            refine lv_iload_n hx hb dX2_giveTo_50 rfl (lv_at hl37 0 rfl) ?_
            refine r_aald (C := RX4) (v := (q 11)) hx hb hK hP16 12 2 rfl rfl 0 (by decide) dX2_giveTo_51 (by decide) (rfl) ?_
            have hPc38 : va_P D vwCl (fl [tW T (q 11) (q 12) (nI (L1 0)) (c1 9)]) _ := flP_sub hP16 [2] rfl
            have hDc38 : va_D A (fl [tW T (q 11) (q 12) (nI (L1 0)) (c1 9)]) := flD_sub hD16 [2] (by decide) rfl
            refine cl_v (br := [gW T ga gb f (nI n) (nI pl) (nI ps), sW T q c1, tW T (q 13) (q 14) (nI (L1 1)) (c1 10), tW T (q 15) (q 16) (nI (L1 2)) (c1 11)]) (va_runV (As := []) (rest := []) ⟨hx, hb, hml, hown, hts⟩ (c_X4_empty l D T (q 11) (q 12) (L1 0) (c1 9)  _) (mkV hts okX4_empty kw_615 kw_243 kw_244 ⟨rfl, rfl, Nat.le_of_ble_eq_true rfl, Nat.le_of_ble_eq_true rfl⟩) (pv_rw hK hPc38 hDc38 (q0 := 0) rfl rfl rfl) rfl rfl hl37.1 rfl (lv_room (Nat.le_of_ble_eq_true rfl)) dX2_giveTo_52 ⟨Nat.le_of_ble_eq_true rfl, Nat.le_of_ble_eq_true rfl⟩) hP16 hD16 hS16 hA [0, 1, 3, 4] [2] rfl (by decide) (fun _u39 H39 locs39 hq_52 hP39 hD39 hS39 => ?_)
            clear hP16 hD16 hS16 hPc38 hDc38
            have hP39 : va_P D vwCl (fl [gW T ga gb f (nI n) (nI pl) (nI ps), sW T q c1, tW T (q 13) (q 14) (nI (L1 1)) (c1 10), tW T (q 15) (q 16) (nI (L1 2)) (c1 11), tW T (q 11) (q 12) (nI 0) (c1 9)]) _ := hP39
            have hD39 : va_D A (fl [gW T ga gb f (nI n) (nI pl) (nI ps), sW T q c1, tW T (q 13) (q 14) (nI (L1 1)) (c1 10), tW T (q 15) (q 16) (nI (L1 2)) (c1 11), tW T (q 11) (q 12) (nI 0) (c1 9)]) := hD39
            refine lv_goto (tgt := 92) hx hb dX2_giveTo_55 (by decide) ?_
            refine lv_iinc (v := nI (i + 1)) (lv' := [(4, .int (nI (i + 1))), (2, .int (nI 0)), (5, .int (f i)), (0, .ref ga), (1, .ref (q 0)), (3, .int s1)]) hx hb dX2_giveTo_92 hl37 (k := 5) rfl (nI_add i 1) (by decide) rfl (fun ls40 hl40 => ?_)
            clear hl37
            refine lv_goto (tgt := 7) hx hb dX2_giveTo_95 (by decide) ?_
            have hgv' : (0, s1, c1, upN L1 0 0) = gvI f c L (i + 1) := by rw [gvI, ← hgv, hfk]; exact (gvS_cr (show 0 < 3 by omega) (cr, s1, c1, L1)).symm
            have hP41 : va_P D vwCl (fl [gW T ga gb f (nI n) (nI pl) (nI ps), sW T q c1, tW T (q 11) (q 12) (nI 0) (c1 9), tW T (q 13) (q 14) (nI (L1 1)) (c1 10), tW T (q 15) (q 16) (nI (L1 2)) (c1 11)]) _ := flP_sub hP39 [0, 1, 4, 2, 3] rfl
            have hD41 : va_D A (fl [gW T ga gb f (nI n) (nI pl) (nI ps), sW T q c1, tW T (q 11) (q 12) (nI 0) (c1 9), tW T (q 13) (q 14) (nI (L1 1)) (c1 10), tW T (q 15) (q 16) (nI (L1 2)) (c1 11)]) := flD_sub hD39 [0, 1, 4, 2, 3] (by decide) rfl
            have hS41 := hS39
            clear hP39 hS39 hD39
            exact ih7 (i + 1) 0 s1 c1 (upN L1 0 0) (by omega) (hgv') (by omega) _ _ hP41 hD41 hS41 _ (lv_sub hl40 [3, 4, 1, 5, 0] rfl)
          · skip
            refine lv_istore_n (lv' := [(2, .int (nI 1)), (5, .int (f i)), (0, .ref ga), (1, .ref (q 0)), (3, .int s1), (4, .int (nI i))]) hx hb dX2_giveTo_45 rfl hl14 (by decide) rfl (fun ls42 hl42 => ?_)
            clear hl14
            refine lv_aload_n hx hb dX2_giveTo_46 rfl (lv_at hl42 3 rfl) ?_
            refine r_getN (own := RX2) (C := RX3) (F := TX3) (N := 13) (ci := 3) (v := .ref (q 10)) hx hb hK hts in_X3 hown hP16 2 rfl rfl 9 (by decide) kn_21 rfl dX2_giveTo_47 ?_
            refine lv_iload_n hx hb dX2_giveTo_50 rfl (lv_at hl42 0 rfl) ?_
            refine r_aald (C := RX4) (v := (q 13)) hx hb hK hP16 12 2 rfl rfl 1 (by decide) dX2_giveTo_51 (by decide) (rfl) ?_
            have hPc43 : va_P D vwCl (fl [tW T (q 13) (q 14) (nI (L1 1)) (c1 10)]) _ := flP_sub hP16 [3] rfl
            have hDc43 : va_D A (fl [tW T (q 13) (q 14) (nI (L1 1)) (c1 10)]) := flD_sub hD16 [3] (by decide) rfl
            refine cl_v (br := [gW T ga gb f (nI n) (nI pl) (nI ps), sW T q c1, tW T (q 11) (q 12) (nI (L1 0)) (c1 9), tW T (q 15) (q 16) (nI (L1 2)) (c1 11)]) (va_runV (As := []) (rest := []) ⟨hx, hb, hml, hown, hts⟩ (c_X4_empty l D T (q 13) (q 14) (L1 1) (c1 10)  _) (mkV hts okX4_empty kw_615 kw_243 kw_244 ⟨rfl, rfl, Nat.le_of_ble_eq_true rfl, Nat.le_of_ble_eq_true rfl⟩) (pv_rw hK hPc43 hDc43 (q0 := 0) rfl rfl rfl) rfl rfl hl42.1 rfl (lv_room (Nat.le_of_ble_eq_true rfl)) dX2_giveTo_52 ⟨Nat.le_of_ble_eq_true rfl, Nat.le_of_ble_eq_true rfl⟩) hP16 hD16 hS16 hA [0, 1, 2, 4] [3] rfl (by decide) (fun _u44 H44 locs44 hq_52 hP44 hD44 hS44 => ?_)
            clear hP16 hD16 hS16 hPc43 hDc43
            have hP44 : va_P D vwCl (fl [gW T ga gb f (nI n) (nI pl) (nI ps), sW T q c1, tW T (q 11) (q 12) (nI (L1 0)) (c1 9), tW T (q 15) (q 16) (nI (L1 2)) (c1 11), tW T (q 13) (q 14) (nI 0) (c1 10)]) _ := hP44
            have hD44 : va_D A (fl [gW T ga gb f (nI n) (nI pl) (nI ps), sW T q c1, tW T (q 11) (q 12) (nI (L1 0)) (c1 9), tW T (q 15) (q 16) (nI (L1 2)) (c1 11), tW T (q 13) (q 14) (nI 0) (c1 10)]) := hD44
            refine lv_goto (tgt := 92) hx hb dX2_giveTo_55 (by decide) ?_
            refine lv_iinc (v := nI (i + 1)) (lv' := [(4, .int (nI (i + 1))), (2, .int (nI 1)), (5, .int (f i)), (0, .ref ga), (1, .ref (q 0)), (3, .int s1)]) hx hb dX2_giveTo_92 hl42 (k := 5) rfl (nI_add i 1) (by decide) rfl (fun ls45 hl45 => ?_)
            clear hl42
            refine lv_goto (tgt := 7) hx hb dX2_giveTo_95 (by decide) ?_
            have hgv' : (1, s1, c1, upN L1 1 0) = gvI f c L (i + 1) := by rw [gvI, ← hgv, hfk]; exact (gvS_cr (show 1 < 3 by omega) (cr, s1, c1, L1)).symm
            have hP46 : va_P D vwCl (fl [gW T ga gb f (nI n) (nI pl) (nI ps), sW T q c1, tW T (q 11) (q 12) (nI (L1 0)) (c1 9), tW T (q 13) (q 14) (nI 0) (c1 10), tW T (q 15) (q 16) (nI (L1 2)) (c1 11)]) _ := flP_sub hP44 [0, 1, 2, 4, 3] rfl
            have hD46 : va_D A (fl [gW T ga gb f (nI n) (nI pl) (nI ps), sW T q c1, tW T (q 11) (q 12) (nI (L1 0)) (c1 9), tW T (q 13) (q 14) (nI 0) (c1 10), tW T (q 15) (q 16) (nI (L1 2)) (c1 11)]) := flD_sub hD44 [0, 1, 2, 4, 3] (by decide) rfl
            have hS46 := hS44
            clear hP44 hS44 hD44
            exact ih7 (i + 1) 1 s1 c1 (upN L1 1 0) (by omega) (hgv') (by omega) _ _ hP46 hD46 hS46 _ (lv_sub hl45 [3, 4, 1, 5, 0] rfl)
          · skip
            refine lv_istore_n (lv' := [(2, .int (nI 2)), (5, .int (f i)), (0, .ref ga), (1, .ref (q 0)), (3, .int s1), (4, .int (nI i))]) hx hb dX2_giveTo_45 rfl hl14 (by decide) rfl (fun ls47 hl47 => ?_)
            clear hl14
            refine lv_aload_n hx hb dX2_giveTo_46 rfl (lv_at hl47 3 rfl) ?_
            refine r_getN (own := RX2) (C := RX3) (F := TX3) (N := 13) (ci := 3) (v := .ref (q 10)) hx hb hK hts in_X3 hown hP16 2 rfl rfl 9 (by decide) kn_21 rfl dX2_giveTo_47 ?_
            refine lv_iload_n hx hb dX2_giveTo_50 rfl (lv_at hl47 0 rfl) ?_
            refine r_aald (C := RX4) (v := (q 15)) hx hb hK hP16 12 2 rfl rfl 2 (by decide) dX2_giveTo_51 (by decide) (rfl) ?_
            have hPc48 : va_P D vwCl (fl [tW T (q 15) (q 16) (nI (L1 2)) (c1 11)]) _ := flP_sub hP16 [4] rfl
            have hDc48 : va_D A (fl [tW T (q 15) (q 16) (nI (L1 2)) (c1 11)]) := flD_sub hD16 [4] (by decide) rfl
            refine cl_v (br := [gW T ga gb f (nI n) (nI pl) (nI ps), sW T q c1, tW T (q 11) (q 12) (nI (L1 0)) (c1 9), tW T (q 13) (q 14) (nI (L1 1)) (c1 10)]) (va_runV (As := []) (rest := []) ⟨hx, hb, hml, hown, hts⟩ (c_X4_empty l D T (q 15) (q 16) (L1 2) (c1 11)  _) (mkV hts okX4_empty kw_615 kw_243 kw_244 ⟨rfl, rfl, Nat.le_of_ble_eq_true rfl, Nat.le_of_ble_eq_true rfl⟩) (pv_rw hK hPc48 hDc48 (q0 := 0) rfl rfl rfl) rfl rfl hl47.1 rfl (lv_room (Nat.le_of_ble_eq_true rfl)) dX2_giveTo_52 ⟨Nat.le_of_ble_eq_true rfl, Nat.le_of_ble_eq_true rfl⟩) hP16 hD16 hS16 hA [0, 1, 2, 3] [4] rfl (by decide) (fun _u49 H49 locs49 hq_52 hP49 hD49 hS49 => ?_)
            clear hP16 hD16 hS16 hPc48 hDc48
            have hP49 : va_P D vwCl (fl [gW T ga gb f (nI n) (nI pl) (nI ps), sW T q c1, tW T (q 11) (q 12) (nI (L1 0)) (c1 9), tW T (q 13) (q 14) (nI (L1 1)) (c1 10), tW T (q 15) (q 16) (nI 0) (c1 11)]) _ := hP49
            have hD49 : va_D A (fl [gW T ga gb f (nI n) (nI pl) (nI ps), sW T q c1, tW T (q 11) (q 12) (nI (L1 0)) (c1 9), tW T (q 13) (q 14) (nI (L1 1)) (c1 10), tW T (q 15) (q 16) (nI 0) (c1 11)]) := hD49
            refine lv_goto (tgt := 92) hx hb dX2_giveTo_55 (by decide) ?_
            refine lv_iinc (v := nI (i + 1)) (lv' := [(4, .int (nI (i + 1))), (2, .int (nI 2)), (5, .int (f i)), (0, .ref ga), (1, .ref (q 0)), (3, .int s1)]) hx hb dX2_giveTo_92 hl47 (k := 5) rfl (nI_add i 1) (by decide) rfl (fun ls50 hl50 => ?_)
            clear hl47
            refine lv_goto (tgt := 7) hx hb dX2_giveTo_95 (by decide) ?_
            have hgv' : (2, s1, c1, upN L1 2 0) = gvI f c L (i + 1) := by rw [gvI, ← hgv, hfk]; exact (gvS_cr (show 2 < 3 by omega) (cr, s1, c1, L1)).symm
            exact ih7 (i + 1) 2 s1 c1 (upN L1 2 0) (by omega) (hgv') (by omega) _ _ hP49 hD49 hS49 _ (lv_sub hl50 [3, 4, 1, 5, 0] rfl)
  exact loop7 ((n - 0) + 1) 0 0 (nI 0) c L (by omega) (rfl) (Nat.lt_succ_self _) _ _ hP0 hD0 hS0 _ (lv_sub hl3 [3, 4, 2, 1, 0] rfl)
