set_option maxHeartbeats 4000000 in
set_option maxRecDepth 100000 in
theorem c_X6_isPart (l : Launch) (D : va_G) (T : TI) (q : Nat → Nat) (kp : Nat) (ty : Nat) (th : Int32) (at_ : Nat) (isF : Bool) (op : Int32) (txt : Nat → Int32) (told : Nat → Int32) (c0 : Nat → Nat → Int32) (L0 : Nat → Nat) (hty : ty ≤ 60) (hT : okT c0 L0) (hPI : PI txt c0 L0 ty at_ told) : CI l yX6_isPart cX6_isPart 4 .boolean (rmD 2 0 0) D T [.ref (q 0)] [mO q (nI kp) (nI ty) th (nI at_) isF op, aW T 0 (q 4) 60 txt, aW T 0 (q 5) 27 told] 0 0 (β := Nat × Bool × (Nat → Int32) × Bool) (fun ⟨at2, isF2, told2, b2⟩ => [mO q (nI kp) (nI ty) th (nI at2) isF2 op, aW T 0 (q 4) 60 txt, aW T 0 (q 5) 27 told2]) (fun (r : Int32) ⟨at2, isF2, told2, b2⟩ => r = bI b2 ∧ (at_ ≤ at2 ∧ PQ txt c0 L0 ty b2 at2 isF isF2 told2)) := by
  intro sz
  refine met_rw (Qc := fun A => va_Qi _ (PST D _ A) A) rfl (Nat.le_of_ble_eq_true rfl) ?_
  intro pX eX sX mX bX mtX cX A hAe hC hA hP0 hD0 hS0 ls0 hl0 TG hTG
  clear hAe
  obtain ⟨hx, hb, hr, hml, hown, hts, hlocks, hin, hK⟩ := hC
  have hown : sX.vm.findClass RX6 = some mX.cls := hown
  have hl0 : lv_has ls0 4 [(0, .ref (q 0))] := hl0
  have hle := hPI.1
  refine lv_aload_n hx hb dX6_isPart_0 rfl (lv_at hl0 0 rfl) ?_
  refine lv_bipush (v := nI 97) hx hb dX6_isPart_1 (by decide) ?_
  refine lv_bipush (v := nI 99) hx hb dX6_isPart_3 (by decide) ?_
  have hPc1 : va_P D vwCl (fl [mO q (nI kp) (nI ty) th (nI at_) isF op, aW T 0 (q 4) 60 txt]) _ := hP0.sub [0, 1] rfl
  refine cr_i (va_runV (As := [.int (nI 97), .int (nI 99)]) (rest := []) ⟨hx, hb, hml, hown, hts⟩ (c_X6_isAt l D T q kp ty th at_ isF op txt (nI 97) (nI 99) (by omega) (by omega)) (mkV hts okX6_isAt kw_829 kw_831 ks_19 ⟨rfl, rfl, Nat.le_of_ble_eq_true rfl, Nat.le_of_ble_eq_true rfl⟩) (pv_ro hK hPc1 (q0 := 0) rfl rfl rfl) rfl rfl hl0.1 rfl (lv_room (Nat.le_of_ble_eq_true rfl)) dX6_isPart_5 ⟨Nat.le_of_ble_eq_true rfl, Nat.le_of_ble_eq_true rfl⟩) hP0 hS0 (fun r_5 H2 locs2 hq_5 hP2 hS2 => ?_)
  clear hP0 hS0 hPc1
  have hD2 := hD0
  clear hD0
  have hq_5 : r_5 = bI (decide (at_ < ty) && inB (txt at_) (nI 97) (nI 99)) := hq_5
  subst hq_5
  refine z_if_ne (tgt := 16) hx hb dX6_isPart_8 (by decide) (fun c_8 => ?_) (fun c_8 => ?_)
  · skip
    have q8 := c_8
    simp only [Bool.and_eq_true, decide_eq_true_eq] at q8
    have hity := q8.1
    obtain ⟨k, hk, hfk⟩ := isCr_x (by rw [isCr_in]; exact q8.2)
    refine lv_bipush (v := nI 9) hx hb dX6_isPart_16 (by decide) ?_
    refine lv_aload_n hx hb dX6_isPart_18 rfl (lv_at hl0 0 rfl) ?_
    refine r_get (own := RX6) (C := RX6) (F := TX6) (N := 12) (ci := 6) (v := .ref (q 4)) hx hb hK hts in_X6 hown hP2 0 rfl rfl 4 (by decide) kw_674 rfl dX6_isPart_19 ?_
    refine lv_aload_n hx hb dX6_isPart_22 rfl (lv_at hl0 0 rfl) ?_
    refine r_get (own := RX6) (C := RX6) (F := TX6) (N := 12) (ci := 6) (v := .int (nI at_)) hx hb hK hts in_X6 hown hP2 0 rfl rfl 7 (by decide) kw_677 rfl dX6_isPart_23 ?_
    refine r_iald hx hb hK hP2 1 (f := txt) (n := 60) rfl at_ (by decide) dX6_isPart_26 (by omega) ?_
    refine lv_bipush (v := nI 97) hx hb dX6_isPart_27 (by decide) ?_
    refine lv_isub hx hb dX6_isPart_29 ?_
    refine tp_i (y := nI k) (by rw [hfk]; exact nI_sb (by omega)) ?_
    refine lv_imul hx hb dX6_isPart_30 ?_
    refine tp_i (y := nI (9 * k)) (pk_mul _ _) ?_
    refine lv_istore_n (lv' := [(1, .int (nI (9 * k))), (0, .ref (q 0))]) hx hb dX6_isPart_31 rfl hl0 (by decide) rfl (fun ls4 hl4 => ?_)
    clear hl0
    refine lv_aload_n hx hb dX6_isPart_32 rfl (lv_at hl4 1 rfl) ?_
    refine r_get (own := RX6) (C := RX6) (F := TX6) (N := 12) (ci := 6) (v := .ref (q 5)) hx hb hK hts in_X6 hown hP2 0 rfl rfl 9 (by decide) kw_679 rfl dX6_isPart_33 ?_
    refine lv_iload_n hx hb dX6_isPart_36 rfl (lv_at hl4 0 rfl) ?_
    refine lv_iconst (v := nI 0) hx hb dX6_isPart_37 (by decide) ?_
    refine r_iast hx hb hK hP2 hD2 hS2 2 (f := told) (n := 27) rfl (9 * k) (by decide) dX6_isPart_38 (by omega) (fun (H5 : Heap) (locs5 : List Loc) (hP5 : va_P D vwCl (fl [mO q (nI kp) (nI ty) th (nI at_) isF op, aW T 0 (q 4) 60 txt, aW T 0 (q 5) 27 (upd told (9 * k) (nI 0))]) H5) (hD5 : va_D A (fl [mO q (nI kp) (nI ty) th (nI at_) isF op, aW T 0 (q 4) 60 txt, aW T 0 (q 5) 27 (upd told (9 * k) (nI 0))])) hS5 => ?_)
    clear hP2 hD2 hS2
    refine lv_iconst (v := nI 1) hx hb dX6_isPart_39 (by decide) ?_
    refine lv_istore_n (lv' := [(2, .int (nI 1)), (1, .int (nI (9 * k))), (0, .ref (q 0))]) hx hb dX6_isPart_40 rfl hl4 (by decide) rfl (fun ls6 hl6 => ?_)
    clear hl4
    have loop41 : ∀ (n_ : Nat) (mo : Bool) (at1 : Nat) (t1 : Nat → Int32), (mo = true → PH txt c0 L0 ty at1 t1 k) → (mo = false → PE txt c0 L0 ty at1 t1) → (at1 ≤ 60) → (at_ ≤ at1) → (61 - at1) < n_ → ∀ (H : Heap) (locs : List Loc), va_P D vwCl (fl [mO q (nI kp) (nI ty) th (nI at1) isF op, aW T 0 (q 4) 60 txt, aW T 0 (q 5) 27 t1]) H → va_D A (fl [mO q (nI kp) (nI ty) th (nI at1) isF op, aW T 0 (q 4) 60 txt, aW T 0 (q 5) 27 t1]) → va_S A sX.heap H locs → ∀ ls : Array Slot, lv_has ls 4 [(0, .ref (q 0)), (1, .int (nI (9 * k))), (2, .int (bI mo))] → W pX l eX (rmD 2 0 0) sX mX ([.ref (q 0)] : List Value).toArray bX mtX cX H locs 0 0 TG (F0 mX 41 ls []) := by
      intro n_
      induction n_ with
      | zero => intro mo at1 t1 h1 h2 h61 hge hmu_ ; exact absurd hmu_ (Nat.not_lt_zero _)
      | succ n_ ih41 =>
        intro mo at1 t1 h1 h2 h61 hge hmu_41 H8 locs8 hP8 hD8 hS8 ls8 hl8
        refine lv_iload_n hx hb dX6_isPart_41 rfl (lv_at hl8 2 rfl) ?_
        refine z_if_eq (tgt := 191) hx hb dX6_isPart_42 (by decide) (fun c_42 => ?_) (fun c_42 => ?_)
        · skip
          refine lv_iconst (v := nI 1) hx hb dX6_isPart_191 (by decide) ?_
          refine ret_z (b := true) rfl hTG (Nat.le_refl _) (Nat.le_refl _) hx hb hr hlocks ((at1, isF, t1, true)) hP8 hD8 hS8 [0, 1, 2] rfl (by decide) dX6_isPart_192 ?_
          exact ⟨rfl, hge, (h2 c_42).1, fun _ => ⟨rfl, h2 c_42⟩, fun q => absurd q (by decide)⟩
        · skip
          have hH1 := h1 c_42
          have hH2 := hH1.1
          refine lv_aload_n hx hb dX6_isPart_45 rfl (lv_at hl8 0 rfl) ?_
          refine lv_dup hx hb dX6_isPart_46 rfl ?_
          refine r_get (own := RX6) (C := RX6) (F := TX6) (N := 12) (ci := 6) (v := .int (nI at1)) hx hb hK hts in_X6 hown hP8 0 rfl rfl 7 (by decide) kw_677 rfl dX6_isPart_47 ?_
          refine lv_iconst (v := nI 1) hx hb dX6_isPart_50 (by decide) ?_
          refine lv_iadd hx hb dX6_isPart_51 ?_
          refine tp_i (y := nI (at1 + 1)) (nI_add _ _) ?_
          refine r_put (own := RX6) (C := RX6) (F := TX6) (N := 12) (ci := 6) (v := nI (at1 + 1)) hx hb hK hts in_X6 tyX6 tyX6_ok nmX6 hown hP8 hD8 hS8 0 rfl rfl 7 (by decide) kw_677 rfl rfl (Nat.le_of_ble_eq_true rfl) dX6_isPart_52 (fun (H10 : Heap) (locs10 : List Loc) (hP10 : va_P D vwCl (fl [mO q (nI kp) (nI ty) th (nI (at1 + 1)) isF op, aW T 0 (q 4) 60 txt, aW T 0 (q 5) 27 t1]) H10) (hD10 : va_D A (fl [mO q (nI kp) (nI ty) th (nI (at1 + 1)) isF op, aW T 0 (q 4) 60 txt, aW T 0 (q 5) 27 t1])) hS10 => ?_)
          clear hP8 hD8 hS8
          refine lv_aload_n hx hb dX6_isPart_55 rfl (lv_at hl8 0 rfl) ?_
          refine lv_bipush (v := nI 48) hx hb dX6_isPart_56 (by decide) ?_
          refine lv_bipush (v := nI 57) hx hb dX6_isPart_58 (by decide) ?_
          have hPc11 : va_P D vwCl (fl [mO q (nI kp) (nI ty) th (nI (at1 + 1)) isF op, aW T 0 (q 4) 60 txt]) _ := hP10.sub [0, 1] rfl
          refine cr_i (va_runV (As := [.int (nI 48), .int (nI 57)]) (rest := []) ⟨hx, hb, hml, hown, hts⟩ (c_X6_isAt l D T q kp ty th (at1 + 1) isF op txt (nI 48) (nI 57) (by omega) (by omega)) (mkV hts okX6_isAt kw_829 kw_831 ks_19 ⟨rfl, rfl, Nat.le_of_ble_eq_true rfl, Nat.le_of_ble_eq_true rfl⟩) (pv_ro hK hPc11 (q0 := 0) rfl rfl rfl) rfl rfl hl8.1 rfl (lv_room (Nat.le_of_ble_eq_true rfl)) dX6_isPart_60 ⟨Nat.le_of_ble_eq_true rfl, Nat.le_of_ble_eq_true rfl⟩) hP10 hS10 (fun r_60 H12 locs12 hq_60 hP12 hS12 => ?_)
          clear hP10 hS10 hPc11
          have hD12 := hD10
          clear hD10
          have hq_60 : r_60 = bI (decide ((at1 + 1) < ty) && inB (txt (at1 + 1)) (nI 48) (nI 57)) := hq_60
          subst hq_60
          refine z_if_ne (tgt := 71) hx hb dX6_isPart_63 (by decide) (fun c_63 => ?_) (fun c_63 => ?_)
          · skip
            have q63 := c_63
            simp only [Bool.and_eq_true, decide_eq_true_eq] at q63
            have hd1 := q63.1
            obtain ⟨v, hv, hfv⟩ := isDg_x (show isDg (txt (at1 + 1)) = true from q63.2)
            refine lv_aload_n hx hb dX6_isPart_71 rfl (lv_at hl8 0 rfl) ?_
            refine r_get (own := RX6) (C := RX6) (F := TX6) (N := 12) (ci := 6) (v := .ref (q 4)) hx hb hK hts in_X6 hown hP12 0 rfl rfl 4 (by decide) kw_674 rfl dX6_isPart_72 ?_
            refine lv_aload_n hx hb dX6_isPart_75 rfl (lv_at hl8 0 rfl) ?_
            refine r_get (own := RX6) (C := RX6) (F := TX6) (N := 12) (ci := 6) (v := .int (nI (at1 + 1))) hx hb hK hts in_X6 hown hP12 0 rfl rfl 7 (by decide) kw_677 rfl dX6_isPart_76 ?_
            refine r_iald hx hb hK hP12 1 (f := txt) (n := 60) rfl (at1 + 1) (by decide) dX6_isPart_79 (by omega) ?_
            refine lv_bipush (v := nI 48) hx hb dX6_isPart_80 (by decide) ?_
            refine lv_isub hx hb dX6_isPart_82 ?_
            refine tp_i (y := nI v) (by rw [hfv]; exact nI_sb (by omega)) ?_
            refine lv_istore_n (lv' := [(3, .int (nI v)), (0, .ref (q 0)), (1, .int (nI (9 * k))), (2, .int (bI mo))]) hx hb dX6_isPart_83 rfl hl8 (by decide) rfl (fun ls14 hl14 => ?_)
            clear hl8
            refine lv_aload_n hx hb dX6_isPart_84 rfl (lv_at hl14 1 rfl) ?_
            refine lv_dup hx hb dX6_isPart_85 rfl ?_
            refine r_get (own := RX6) (C := RX6) (F := TX6) (N := 12) (ci := 6) (v := .int (nI (at1 + 1))) hx hb hK hts in_X6 hown hP12 0 rfl rfl 7 (by decide) kw_677 rfl dX6_isPart_86 ?_
            refine lv_iconst (v := nI 1) hx hb dX6_isPart_89 (by decide) ?_
            refine lv_iadd hx hb dX6_isPart_90 ?_
            refine tp_i (y := nI (at1 + 1 + 1)) (nI_add _ _) ?_
            refine r_put (own := RX6) (C := RX6) (F := TX6) (N := 12) (ci := 6) (v := nI (at1 + 1 + 1)) hx hb hK hts in_X6 tyX6 tyX6_ok nmX6 hown hP12 hD12 hS12 0 rfl rfl 7 (by decide) kw_677 rfl rfl (Nat.le_of_ble_eq_true rfl) dX6_isPart_91 (fun (H15 : Heap) (locs15 : List Loc) (hP15 : va_P D vwCl (fl [mO q (nI kp) (nI ty) th (nI (at1 + 1 + 1)) isF op, aW T 0 (q 4) 60 txt, aW T 0 (q 5) 27 t1]) H15) (hD15 : va_D A (fl [mO q (nI kp) (nI ty) th (nI (at1 + 1 + 1)) isF op, aW T 0 (q 4) 60 txt, aW T 0 (q 5) 27 t1])) hS15 => ?_)
            clear hP12 hD12 hS12
            refine lv_iload_n hx hb dX6_isPart_94 rfl (lv_at hl14 0 rfl) ?_
            refine lv_iconst (v := nI 1) hx hb dX6_isPart_95 (by decide) ?_
            refine n_icmp_ne (tgt := 136) hx hb (by omega) (by omega) dX6_isPart_96 (by decide) (fun c_96 => ?_) (fun c_96 => ?_)
            · skip
              have hPB : PB txt c0 L0 ty (at1 + 1 + 1) t1 k (v) := by
                first
                | exact PH_dd hT hH1 hd2 hd (by rw [hfv, c_96]) hfd
                | exact PH_d hT hH1 hd1 hv hfv (fun q => absurd q c_96)
                | exact PH_d hT hH1 hd1 hv hfv (fun _ q2 => by
                    have q107 := c_107
                    rw [decide_eq_true (show at1 + 2 < ty from q2), Bool.true_and] at q107
                    exact ⟨fun e => absurd (show inB (txt (at1 + 2)) (nI 48) (nI 49) = true by rw [e]; rfl) (by rw [q107]; decide), fun e => absurd (show inB (txt (at1 + 2)) (nI 48) (nI 49) = true by rw [e]; rfl) (by rw [q107]; decide)⟩)
              obtain ⟨t, ht0, hk3, ht8, htold, hs2⟩ := PB_t hT hPB
              have hXle := hPB.1
              refine lv_aload_n hx hb dX6_isPart_136 rfl (lv_at hl14 1 rfl) ?_
              refine r_get (own := RX6) (C := RX6) (F := TX6) (N := 12) (ci := 6) (v := .ref (q 5)) hx hb hK hts in_X6 hown hP15 0 rfl rfl 9 (by decide) kw_679 rfl dX6_isPart_137 ?_
              refine lv_iload_n hx hb dX6_isPart_140 rfl (lv_at hl14 2 rfl) ?_
              refine lv_dup2_11 hx hb dX6_isPart_141 rfl rfl ?_
              refine r_iald hx hb hK hP15 2 (f := t1) (n := 27) rfl (9 * k) (by decide) dX6_isPart_142 (by omega) ?_
              refine tp_i (y := nI t) (htold) ?_
              refine lv_iconst (v := nI 1) hx hb dX6_isPart_143 (by decide) ?_
              refine lv_iadd hx hb dX6_isPart_144 ?_
              refine tp_i (y := nI (t + 1)) (nI_add _ _) ?_
              refine r_iast hx hb hK hP15 hD15 hS15 2 (f := t1) (n := 27) rfl (9 * k) (by decide) dX6_isPart_145 (by omega) (fun (H17 : Heap) (locs17 : List Loc) (hP17 : va_P D vwCl (fl [mO q (nI kp) (nI ty) th (nI (at1 + 1 + 1)) isF op, aW T 0 (q 4) 60 txt, aW T 0 (q 5) 27 (upd t1 (9 * k) (nI (t + 1)))]) H17) (hD17 : va_D A (fl [mO q (nI kp) (nI ty) th (nI (at1 + 1 + 1)) isF op, aW T 0 (q 4) 60 txt, aW T 0 (q 5) 27 (upd t1 (9 * k) (nI (t + 1)))])) hS17 => ?_)
              clear hP15 hD15 hS15
              refine lv_aload_n hx hb dX6_isPart_146 rfl (lv_at hl14 1 rfl) ?_
              refine r_get (own := RX6) (C := RX6) (F := TX6) (N := 12) (ci := 6) (v := .ref (q 5)) hx hb hK hts in_X6 hown hP17 0 rfl rfl 9 (by decide) kw_679 rfl dX6_isPart_147 ?_
              refine lv_iload_n hx hb dX6_isPart_150 rfl (lv_at hl14 2 rfl) ?_
              refine lv_aload_n hx hb dX6_isPart_151 rfl (lv_at hl14 1 rfl) ?_
              refine r_get (own := RX6) (C := RX6) (F := TX6) (N := 12) (ci := 6) (v := .ref (q 5)) hx hb hK hts in_X6 hown hP17 0 rfl rfl 9 (by decide) kw_679 rfl dX6_isPart_152 ?_
              refine lv_iload_n hx hb dX6_isPart_155 rfl (lv_at hl14 2 rfl) ?_
              refine r_iald hx hb hK hP17 2 (f := (upd t1 (9 * k) (nI (t + 1)))) (n := 27) rfl (9 * k) (by decide) dX6_isPart_156 (by omega) ?_
              refine tp_i (y := nI (t + 1)) (pk_us) ?_
              refine lv_iadd hx hb dX6_isPart_157 ?_
              refine tp_i (y := nI (9 * k + (t + 1))) (nI_add _ _) ?_
              refine lv_iload_n hx hb dX6_isPart_158 rfl (lv_at hl14 0 rfl) ?_
              refine r_iast hx hb hK hP17 hD17 hS17 2 (f := (upd t1 (9 * k) (nI (t + 1)))) (n := 27) rfl (9 * k + (t + 1)) (by decide) dX6_isPart_159 (by omega) (fun (H18 : Heap) (locs18 : List Loc) (hP18 : va_P D vwCl (fl [mO q (nI kp) (nI ty) th (nI (at1 + 1 + 1)) isF op, aW T 0 (q 4) 60 txt, aW T 0 (q 5) 27 (upd (upd t1 (9 * k) (nI (t + 1))) (9 * k + (t + 1)) (nI v))]) H18) (hD18 : va_D A (fl [mO q (nI kp) (nI ty) th (nI (at1 + 1 + 1)) isF op, aW T 0 (q 4) 60 txt, aW T 0 (q 5) 27 (upd (upd t1 (9 * k) (nI (t + 1))) (9 * k + (t + 1)) (nI v))])) hS18 => ?_)
              clear hP17 hD17 hS17
              refine lv_aload_n hx hb dX6_isPart_160 rfl (lv_at hl14 1 rfl) ?_
              refine r_get (own := RX6) (C := RX6) (F := TX6) (N := 12) (ci := 6) (v := .ref (q 5)) hx hb hK hts in_X6 hown hP18 0 rfl rfl 9 (by decide) kw_679 rfl dX6_isPart_161 ?_
              refine lv_iload_n hx hb dX6_isPart_164 rfl (lv_at hl14 2 rfl) ?_
              refine r_iald hx hb hK hP18 2 (f := (upd (upd t1 (9 * k) (nI (t + 1))) (9 * k + (t + 1)) (nI v))) (n := 27) rfl (9 * k) (by decide) dX6_isPart_165 (by omega) ?_
              refine tp_i (y := nI (t + 1)) ((pk_un (by omega)).trans pk_us) ?_
              refine lv_bipush (v := nI 8) hx hb dX6_isPart_166 (by decide) ?_
              refine n_icmp_ge (tgt := 186) hx hb (by omega) (by omega) dX6_isPart_168 (by decide) (fun c_168 => ?_) (fun c_168 => ?_)
              · skip
                refine lv_iconst (v := nI 0) hx hb dX6_isPart_186 (by decide) ?_
                refine lv_istore_n (lv' := [(2, .int (nI 0)), (3, .int (nI v)), (0, .ref (q 0)), (1, .int (nI (9 * k)))]) hx hb dX6_isPart_187 rfl hl14 (by decide) rfl (fun ls20 hl20 => ?_)
                clear hl14
                refine lv_goto (tgt := 41) hx hb dX6_isPart_188 (by decide) ?_
                have hEE := PB_end hT hPB ht0 (fun a1 a2 a3 => by
                  first
                  | omega
                  | (have q := c_179
                     rw [decide_eq_true a2, a3] at q
                     exact absurd q (by decide)))
                exact ih41 false (at1 + 1 + 1) (upd (upd t1 (9 * k) (nI (t + 1))) (9 * k + (t + 1)) (nI v)) (by first | exact fun _ => hH | exact fun q => absurd q (by decide)) (by first | exact fun _ => hEE | exact fun q => absurd q (by decide)) (by omega) (by omega) (by omega) _ _ hP18 hD18 hS18 _ (lv_sub hl20 [2, 3, 0] rfl)
              · skip
                refine lv_aload_n hx hb dX6_isPart_171 rfl (lv_at hl14 1 rfl) ?_
                refine lv_bipush (v := nI 44) hx hb dX6_isPart_172 (by decide) ?_
                refine lv_bipush (v := nI 44) hx hb dX6_isPart_174 (by decide) ?_
                have hPc21 : va_P D vwCl (fl [mO q (nI kp) (nI ty) th (nI (at1 + 1 + 1)) isF op, aW T 0 (q 4) 60 txt]) _ := hP18.sub [0, 1] rfl
                refine cr_i (va_runV (As := [.int (nI 44), .int (nI 44)]) (rest := []) ⟨hx, hb, hml, hown, hts⟩ (c_X6_isAt l D T q kp ty th (at1 + 1 + 1) isF op txt (nI 44) (nI 44) (by omega) (by omega)) (mkV hts okX6_isAt kw_829 kw_831 ks_19 ⟨rfl, rfl, Nat.le_of_ble_eq_true rfl, Nat.le_of_ble_eq_true rfl⟩) (pv_ro hK hPc21 (q0 := 0) rfl rfl rfl) rfl rfl hl14.1 rfl (lv_room (Nat.le_of_ble_eq_true rfl)) dX6_isPart_176 ⟨Nat.le_of_ble_eq_true rfl, Nat.le_of_ble_eq_true rfl⟩) hP18 hS18 (fun r_176 H22 locs22 hq_176 hP22 hS22 => ?_)
                clear hP18 hS18 hPc21
                have hD22 := hD18
                clear hD18
                have hq_176 : r_176 = bI (decide ((at1 + 1 + 1) < ty) && inB (txt (at1 + 1 + 1)) (nI 44) (nI 44)) := hq_176
                subst hq_176
                refine z_if_eq (tgt := 186) hx hb dX6_isPart_179 (by decide) (fun c_179 => ?_) (fun c_179 => ?_)
                · skip
                  refine lv_iconst (v := nI 0) hx hb dX6_isPart_186 (by decide) ?_
                  refine lv_istore_n (lv' := [(2, .int (nI 0)), (3, .int (nI v)), (0, .ref (q 0)), (1, .int (nI (9 * k)))]) hx hb dX6_isPart_187 rfl hl14 (by decide) rfl (fun ls24 hl24 => ?_)
                  clear hl14
                  refine lv_goto (tgt := 41) hx hb dX6_isPart_188 (by decide) ?_
                  have hEE := PB_end hT hPB ht0 (fun a1 a2 a3 => by
                    first
                    | omega
                    | (have q := c_179
                       rw [decide_eq_true a2, a3] at q
                       exact absurd q (by decide)))
                  exact ih41 false (at1 + 1 + 1) (upd (upd t1 (9 * k) (nI (t + 1))) (9 * k + (t + 1)) (nI v)) (by first | exact fun _ => hH | exact fun q => absurd q (by decide)) (by first | exact fun _ => hEE | exact fun q => absurd q (by decide)) (by omega) (by omega) (by omega) _ _ hP22 hD22 hS22 _ (lv_sub hl24 [2, 3, 0] rfl)
                · skip
                  refine lv_iconst (v := nI 1) hx hb dX6_isPart_182 (by decide) ?_
                  refine lv_goto (tgt := 187) hx hb dX6_isPart_183 (by decide) ?_
                  refine lv_istore_n (lv' := [(2, .int (nI 1)), (3, .int (nI v)), (0, .ref (q 0)), (1, .int (nI (9 * k)))]) hx hb dX6_isPart_187 rfl hl14 (by decide) rfl (fun ls25 hl25 => ?_)
                  clear hl14
                  refine lv_goto (tgt := 41) hx hb dX6_isPart_188 (by decide) ?_
                  have hX44 : txt (at1 + 1 + 1) = nI 44 := by
                    have q := c_179
                    simp only [Bool.and_eq_true, decide_eq_true_eq] at q
                    obtain ⟨j, h1, h2, e⟩ := inB_l q.2 (by omega) (by omega)
                    obtain rfl : j = 44 := by omega
                    exact e
                  have hXty : at1 + 1 + 1 < ty := by
                    have q := c_179
                    simp only [Bool.and_eq_true, decide_eq_true_eq] at q
                    exact q.1
                  have hH := PB_more hT hPB ht0 (by omega) hXty hX44
                  exact ih41 true (at1 + 1 + 1) (upd (upd t1 (9 * k) (nI (t + 1))) (9 * k + (t + 1)) (nI v)) (by first | exact fun _ => hH | exact fun q => absurd q (by decide)) (by first | exact fun _ => hEE | exact fun q => absurd q (by decide)) (by omega) (by omega) (by omega) _ _ hP22 hD22 hS22 _ (lv_sub hl25 [2, 3, 0] rfl)
            · skip
              refine lv_aload_n hx hb dX6_isPart_99 rfl (lv_at hl14 1 rfl) ?_
              refine lv_bipush (v := nI 48) hx hb dX6_isPart_100 (by decide) ?_
              refine lv_bipush (v := nI 49) hx hb dX6_isPart_102 (by decide) ?_
              have hPc26 : va_P D vwCl (fl [mO q (nI kp) (nI ty) th (nI (at1 + 1 + 1)) isF op, aW T 0 (q 4) 60 txt]) _ := hP15.sub [0, 1] rfl
              refine cr_i (va_runV (As := [.int (nI 48), .int (nI 49)]) (rest := []) ⟨hx, hb, hml, hown, hts⟩ (c_X6_isAt l D T q kp ty th (at1 + 1 + 1) isF op txt (nI 48) (nI 49) (by omega) (by omega)) (mkV hts okX6_isAt kw_829 kw_831 ks_19 ⟨rfl, rfl, Nat.le_of_ble_eq_true rfl, Nat.le_of_ble_eq_true rfl⟩) (pv_ro hK hPc26 (q0 := 0) rfl rfl rfl) rfl rfl hl14.1 rfl (lv_room (Nat.le_of_ble_eq_true rfl)) dX6_isPart_104 ⟨Nat.le_of_ble_eq_true rfl, Nat.le_of_ble_eq_true rfl⟩) hP15 hS15 (fun r_104 H27 locs27 hq_104 hP27 hS27 => ?_)
              clear hP15 hS15 hPc26
              have hD27 := hD15
              clear hD15
              have hq_104 : r_104 = bI (decide ((at1 + 1 + 1) < ty) && inB (txt (at1 + 1 + 1)) (nI 48) (nI 49)) := hq_104
              subst hq_104
              refine z_if_eq (tgt := 136) hx hb dX6_isPart_107 (by decide) (fun c_107 => ?_) (fun c_107 => ?_)
              · skip
                have hPB : PB txt c0 L0 ty (at1 + 1 + 1) t1 k (v) := by
                  first
                  | exact PH_dd hT hH1 hd2 hd (by rw [hfv, c_96]) hfd
                  | exact PH_d hT hH1 hd1 hv hfv (fun q => absurd q c_96)
                  | exact PH_d hT hH1 hd1 hv hfv (fun _ q2 => by
                      have q107 := c_107
                      rw [decide_eq_true (show at1 + 2 < ty from q2), Bool.true_and] at q107
                      exact ⟨fun e => absurd (show inB (txt (at1 + 2)) (nI 48) (nI 49) = true by rw [e]; rfl) (by rw [q107]; decide), fun e => absurd (show inB (txt (at1 + 2)) (nI 48) (nI 49) = true by rw [e]; rfl) (by rw [q107]; decide)⟩)
                obtain ⟨t, ht0, hk3, ht8, htold, hs2⟩ := PB_t hT hPB
                have hXle := hPB.1
                refine lv_aload_n hx hb dX6_isPart_136 rfl (lv_at hl14 1 rfl) ?_
                refine r_get (own := RX6) (C := RX6) (F := TX6) (N := 12) (ci := 6) (v := .ref (q 5)) hx hb hK hts in_X6 hown hP27 0 rfl rfl 9 (by decide) kw_679 rfl dX6_isPart_137 ?_
                refine lv_iload_n hx hb dX6_isPart_140 rfl (lv_at hl14 2 rfl) ?_
                refine lv_dup2_11 hx hb dX6_isPart_141 rfl rfl ?_
                refine r_iald hx hb hK hP27 2 (f := t1) (n := 27) rfl (9 * k) (by decide) dX6_isPart_142 (by omega) ?_
                refine tp_i (y := nI t) (htold) ?_
                refine lv_iconst (v := nI 1) hx hb dX6_isPart_143 (by decide) ?_
                refine lv_iadd hx hb dX6_isPart_144 ?_
                refine tp_i (y := nI (t + 1)) (nI_add _ _) ?_
                refine r_iast hx hb hK hP27 hD27 hS27 2 (f := t1) (n := 27) rfl (9 * k) (by decide) dX6_isPart_145 (by omega) (fun (H29 : Heap) (locs29 : List Loc) (hP29 : va_P D vwCl (fl [mO q (nI kp) (nI ty) th (nI (at1 + 1 + 1)) isF op, aW T 0 (q 4) 60 txt, aW T 0 (q 5) 27 (upd t1 (9 * k) (nI (t + 1)))]) H29) (hD29 : va_D A (fl [mO q (nI kp) (nI ty) th (nI (at1 + 1 + 1)) isF op, aW T 0 (q 4) 60 txt, aW T 0 (q 5) 27 (upd t1 (9 * k) (nI (t + 1)))])) hS29 => ?_)
                clear hP27 hD27 hS27
                refine lv_aload_n hx hb dX6_isPart_146 rfl (lv_at hl14 1 rfl) ?_
                refine r_get (own := RX6) (C := RX6) (F := TX6) (N := 12) (ci := 6) (v := .ref (q 5)) hx hb hK hts in_X6 hown hP29 0 rfl rfl 9 (by decide) kw_679 rfl dX6_isPart_147 ?_
                refine lv_iload_n hx hb dX6_isPart_150 rfl (lv_at hl14 2 rfl) ?_
                refine lv_aload_n hx hb dX6_isPart_151 rfl (lv_at hl14 1 rfl) ?_
                refine r_get (own := RX6) (C := RX6) (F := TX6) (N := 12) (ci := 6) (v := .ref (q 5)) hx hb hK hts in_X6 hown hP29 0 rfl rfl 9 (by decide) kw_679 rfl dX6_isPart_152 ?_
                refine lv_iload_n hx hb dX6_isPart_155 rfl (lv_at hl14 2 rfl) ?_
                refine r_iald hx hb hK hP29 2 (f := (upd t1 (9 * k) (nI (t + 1)))) (n := 27) rfl (9 * k) (by decide) dX6_isPart_156 (by omega) ?_
                refine tp_i (y := nI (t + 1)) (pk_us) ?_
                refine lv_iadd hx hb dX6_isPart_157 ?_
                refine tp_i (y := nI (9 * k + (t + 1))) (nI_add _ _) ?_
                refine lv_iload_n hx hb dX6_isPart_158 rfl (lv_at hl14 0 rfl) ?_
                refine r_iast hx hb hK hP29 hD29 hS29 2 (f := (upd t1 (9 * k) (nI (t + 1)))) (n := 27) rfl (9 * k + (t + 1)) (by decide) dX6_isPart_159 (by omega) (fun (H30 : Heap) (locs30 : List Loc) (hP30 : va_P D vwCl (fl [mO q (nI kp) (nI ty) th (nI (at1 + 1 + 1)) isF op, aW T 0 (q 4) 60 txt, aW T 0 (q 5) 27 (upd (upd t1 (9 * k) (nI (t + 1))) (9 * k + (t + 1)) (nI v))]) H30) (hD30 : va_D A (fl [mO q (nI kp) (nI ty) th (nI (at1 + 1 + 1)) isF op, aW T 0 (q 4) 60 txt, aW T 0 (q 5) 27 (upd (upd t1 (9 * k) (nI (t + 1))) (9 * k + (t + 1)) (nI v))])) hS30 => ?_)
                clear hP29 hD29 hS29
                refine lv_aload_n hx hb dX6_isPart_160 rfl (lv_at hl14 1 rfl) ?_
                refine r_get (own := RX6) (C := RX6) (F := TX6) (N := 12) (ci := 6) (v := .ref (q 5)) hx hb hK hts in_X6 hown hP30 0 rfl rfl 9 (by decide) kw_679 rfl dX6_isPart_161 ?_
                refine lv_iload_n hx hb dX6_isPart_164 rfl (lv_at hl14 2 rfl) ?_
                refine r_iald hx hb hK hP30 2 (f := (upd (upd t1 (9 * k) (nI (t + 1))) (9 * k + (t + 1)) (nI v))) (n := 27) rfl (9 * k) (by decide) dX6_isPart_165 (by omega) ?_
                refine tp_i (y := nI (t + 1)) ((pk_un (by omega)).trans pk_us) ?_
                refine lv_bipush (v := nI 8) hx hb dX6_isPart_166 (by decide) ?_
                refine n_icmp_ge (tgt := 186) hx hb (by omega) (by omega) dX6_isPart_168 (by decide) (fun c_168 => ?_) (fun c_168 => ?_)
                · skip
                  refine lv_iconst (v := nI 0) hx hb dX6_isPart_186 (by decide) ?_
                  refine lv_istore_n (lv' := [(2, .int (nI 0)), (3, .int (nI v)), (0, .ref (q 0)), (1, .int (nI (9 * k)))]) hx hb dX6_isPart_187 rfl hl14 (by decide) rfl (fun ls32 hl32 => ?_)
                  clear hl14
                  refine lv_goto (tgt := 41) hx hb dX6_isPart_188 (by decide) ?_
                  have hEE := PB_end hT hPB ht0 (fun a1 a2 a3 => by
                    first
                    | omega
                    | (have q := c_179
                       rw [decide_eq_true a2, a3] at q
                       exact absurd q (by decide)))
                  exact ih41 false (at1 + 1 + 1) (upd (upd t1 (9 * k) (nI (t + 1))) (9 * k + (t + 1)) (nI v)) (by first | exact fun _ => hH | exact fun q => absurd q (by decide)) (by first | exact fun _ => hEE | exact fun q => absurd q (by decide)) (by omega) (by omega) (by omega) _ _ hP30 hD30 hS30 _ (lv_sub hl32 [2, 3, 0] rfl)
                · skip
                  refine lv_aload_n hx hb dX6_isPart_171 rfl (lv_at hl14 1 rfl) ?_
                  refine lv_bipush (v := nI 44) hx hb dX6_isPart_172 (by decide) ?_
                  refine lv_bipush (v := nI 44) hx hb dX6_isPart_174 (by decide) ?_
                  have hPc33 : va_P D vwCl (fl [mO q (nI kp) (nI ty) th (nI (at1 + 1 + 1)) isF op, aW T 0 (q 4) 60 txt]) _ := hP30.sub [0, 1] rfl
                  refine cr_i (va_runV (As := [.int (nI 44), .int (nI 44)]) (rest := []) ⟨hx, hb, hml, hown, hts⟩ (c_X6_isAt l D T q kp ty th (at1 + 1 + 1) isF op txt (nI 44) (nI 44) (by omega) (by omega)) (mkV hts okX6_isAt kw_829 kw_831 ks_19 ⟨rfl, rfl, Nat.le_of_ble_eq_true rfl, Nat.le_of_ble_eq_true rfl⟩) (pv_ro hK hPc33 (q0 := 0) rfl rfl rfl) rfl rfl hl14.1 rfl (lv_room (Nat.le_of_ble_eq_true rfl)) dX6_isPart_176 ⟨Nat.le_of_ble_eq_true rfl, Nat.le_of_ble_eq_true rfl⟩) hP30 hS30 (fun r_176 H34 locs34 hq_176 hP34 hS34 => ?_)
                  clear hP30 hS30 hPc33
                  have hD34 := hD30
                  clear hD30
                  have hq_176 : r_176 = bI (decide ((at1 + 1 + 1) < ty) && inB (txt (at1 + 1 + 1)) (nI 44) (nI 44)) := hq_176
                  subst hq_176
                  refine z_if_eq (tgt := 186) hx hb dX6_isPart_179 (by decide) (fun c_179 => ?_) (fun c_179 => ?_)
                  · skip
                    refine lv_iconst (v := nI 0) hx hb dX6_isPart_186 (by decide) ?_
                    refine lv_istore_n (lv' := [(2, .int (nI 0)), (3, .int (nI v)), (0, .ref (q 0)), (1, .int (nI (9 * k)))]) hx hb dX6_isPart_187 rfl hl14 (by decide) rfl (fun ls36 hl36 => ?_)
                    clear hl14
                    refine lv_goto (tgt := 41) hx hb dX6_isPart_188 (by decide) ?_
                    have hEE := PB_end hT hPB ht0 (fun a1 a2 a3 => by
                      first
                      | omega
                      | (have q := c_179
                         rw [decide_eq_true a2, a3] at q
                         exact absurd q (by decide)))
                    exact ih41 false (at1 + 1 + 1) (upd (upd t1 (9 * k) (nI (t + 1))) (9 * k + (t + 1)) (nI v)) (by first | exact fun _ => hH | exact fun q => absurd q (by decide)) (by first | exact fun _ => hEE | exact fun q => absurd q (by decide)) (by omega) (by omega) (by omega) _ _ hP34 hD34 hS34 _ (lv_sub hl36 [2, 3, 0] rfl)
                  · skip
                    refine lv_iconst (v := nI 1) hx hb dX6_isPart_182 (by decide) ?_
                    refine lv_goto (tgt := 187) hx hb dX6_isPart_183 (by decide) ?_
                    refine lv_istore_n (lv' := [(2, .int (nI 1)), (3, .int (nI v)), (0, .ref (q 0)), (1, .int (nI (9 * k)))]) hx hb dX6_isPart_187 rfl hl14 (by decide) rfl (fun ls37 hl37 => ?_)
                    clear hl14
                    refine lv_goto (tgt := 41) hx hb dX6_isPart_188 (by decide) ?_
                    have hX44 : txt (at1 + 1 + 1) = nI 44 := by
                      have q := c_179
                      simp only [Bool.and_eq_true, decide_eq_true_eq] at q
                      obtain ⟨j, h1, h2, e⟩ := inB_l q.2 (by omega) (by omega)
                      obtain rfl : j = 44 := by omega
                      exact e
                    have hXty : at1 + 1 + 1 < ty := by
                      have q := c_179
                      simp only [Bool.and_eq_true, decide_eq_true_eq] at q
                      exact q.1
                    have hH := PB_more hT hPB ht0 (by omega) hXty hX44
                    exact ih41 true (at1 + 1 + 1) (upd (upd t1 (9 * k) (nI (t + 1))) (9 * k + (t + 1)) (nI v)) (by first | exact fun _ => hH | exact fun q => absurd q (by decide)) (by first | exact fun _ => hEE | exact fun q => absurd q (by decide)) (by omega) (by omega) (by omega) _ _ hP34 hD34 hS34 _ (lv_sub hl37 [2, 3, 0] rfl)
              · skip
                have q107 := c_107
                simp only [Bool.and_eq_true, decide_eq_true_eq] at q107
                have hd2 := q107.1
                obtain ⟨d, hd, hfd⟩ : ∃ d, d < 2 ∧ txt (at1 + 2) = nI (48 + d) := by
                  obtain ⟨j, j1, j2, e⟩ := inB_l q107.2 (by omega) (by omega)
                  exact ⟨j - 48, by omega, e.trans (by congr 1; omega)⟩
                refine lv_bipush (v := nI 10) hx hb dX6_isPart_110 (by decide) ?_
                refine lv_aload_n hx hb dX6_isPart_112 rfl (lv_at hl14 1 rfl) ?_
                refine r_get (own := RX6) (C := RX6) (F := TX6) (N := 12) (ci := 6) (v := .ref (q 4)) hx hb hK hts in_X6 hown hP27 0 rfl rfl 4 (by decide) kw_674 rfl dX6_isPart_113 ?_
                refine lv_aload_n hx hb dX6_isPart_116 rfl (lv_at hl14 1 rfl) ?_
                refine r_get (own := RX6) (C := RX6) (F := TX6) (N := 12) (ci := 6) (v := .int (nI (at1 + 1 + 1))) hx hb hK hts in_X6 hown hP27 0 rfl rfl 7 (by decide) kw_677 rfl dX6_isPart_117 ?_
                refine r_iald hx hb hK hP27 1 (f := txt) (n := 60) rfl (at1 + 1 + 1) (by decide) dX6_isPart_120 (by omega) ?_
                refine lv_iadd hx hb dX6_isPart_121 ?_
                refine lv_bipush (v := nI 48) hx hb dX6_isPart_122 (by decide) ?_
                refine lv_isub hx hb dX6_isPart_124 ?_
                refine tp_i (y := nI (10 + d)) (by rw [hfd]; rcases (show d = 0 ∨ d = 1 by omega) with e | e <;> subst e <;> rfl) ?_
                refine lv_istore_n (lv' := [(3, .int (nI (10 + d))), (0, .ref (q 0)), (1, .int (nI (9 * k))), (2, .int (bI mo))]) hx hb dX6_isPart_125 rfl hl14 (by decide) rfl (fun ls38 hl38 => ?_)
                clear hl14
                refine lv_aload_n hx hb dX6_isPart_126 rfl (lv_at hl38 1 rfl) ?_
                refine lv_dup hx hb dX6_isPart_127 rfl ?_
                refine r_get (own := RX6) (C := RX6) (F := TX6) (N := 12) (ci := 6) (v := .int (nI (at1 + 1 + 1))) hx hb hK hts in_X6 hown hP27 0 rfl rfl 7 (by decide) kw_677 rfl dX6_isPart_128 ?_
                refine lv_iconst (v := nI 1) hx hb dX6_isPart_131 (by decide) ?_
                refine lv_iadd hx hb dX6_isPart_132 ?_
                refine tp_i (y := nI (at1 + 1 + 1 + 1)) (nI_add _ _) ?_
                refine r_put (own := RX6) (C := RX6) (F := TX6) (N := 12) (ci := 6) (v := nI (at1 + 1 + 1 + 1)) hx hb hK hts in_X6 tyX6 tyX6_ok nmX6 hown hP27 hD27 hS27 0 rfl rfl 7 (by decide) kw_677 rfl rfl (Nat.le_of_ble_eq_true rfl) dX6_isPart_133 (fun (H39 : Heap) (locs39 : List Loc) (hP39 : va_P D vwCl (fl [mO q (nI kp) (nI ty) th (nI (at1 + 1 + 1 + 1)) isF op, aW T 0 (q 4) 60 txt, aW T 0 (q 5) 27 t1]) H39) (hD39 : va_D A (fl [mO q (nI kp) (nI ty) th (nI (at1 + 1 + 1 + 1)) isF op, aW T 0 (q 4) 60 txt, aW T 0 (q 5) 27 t1])) hS39 => ?_)
                clear hP27 hD27 hS27
                have hPB : PB txt c0 L0 ty (at1 + 1 + 1 + 1) t1 k (10 + d) := by
                  first
                  | exact PH_dd hT hH1 hd2 hd (by rw [hfv, c_96]) hfd
                  | exact PH_d hT hH1 hd1 hv hfv (fun q => absurd q c_96)
                  | exact PH_d hT hH1 hd1 hv hfv (fun _ q2 => by
                      have q107 := c_107
                      rw [decide_eq_true (show at1 + 2 < ty from q2), Bool.true_and] at q107
                      exact ⟨fun e => absurd (show inB (txt (at1 + 2)) (nI 48) (nI 49) = true by rw [e]; rfl) (by rw [q107]; decide), fun e => absurd (show inB (txt (at1 + 2)) (nI 48) (nI 49) = true by rw [e]; rfl) (by rw [q107]; decide)⟩)
                obtain ⟨t, ht0, hk3, ht8, htold, hs2⟩ := PB_t hT hPB
                have hXle := hPB.1
                refine lv_aload_n hx hb dX6_isPart_136 rfl (lv_at hl38 1 rfl) ?_
                refine r_get (own := RX6) (C := RX6) (F := TX6) (N := 12) (ci := 6) (v := .ref (q 5)) hx hb hK hts in_X6 hown hP39 0 rfl rfl 9 (by decide) kw_679 rfl dX6_isPart_137 ?_
                refine lv_iload_n hx hb dX6_isPart_140 rfl (lv_at hl38 2 rfl) ?_
                refine lv_dup2_11 hx hb dX6_isPart_141 rfl rfl ?_
                refine r_iald hx hb hK hP39 2 (f := t1) (n := 27) rfl (9 * k) (by decide) dX6_isPart_142 (by omega) ?_
                refine tp_i (y := nI t) (htold) ?_
                refine lv_iconst (v := nI 1) hx hb dX6_isPart_143 (by decide) ?_
                refine lv_iadd hx hb dX6_isPart_144 ?_
                refine tp_i (y := nI (t + 1)) (nI_add _ _) ?_
                refine r_iast hx hb hK hP39 hD39 hS39 2 (f := t1) (n := 27) rfl (9 * k) (by decide) dX6_isPart_145 (by omega) (fun (H40 : Heap) (locs40 : List Loc) (hP40 : va_P D vwCl (fl [mO q (nI kp) (nI ty) th (nI (at1 + 1 + 1 + 1)) isF op, aW T 0 (q 4) 60 txt, aW T 0 (q 5) 27 (upd t1 (9 * k) (nI (t + 1)))]) H40) (hD40 : va_D A (fl [mO q (nI kp) (nI ty) th (nI (at1 + 1 + 1 + 1)) isF op, aW T 0 (q 4) 60 txt, aW T 0 (q 5) 27 (upd t1 (9 * k) (nI (t + 1)))])) hS40 => ?_)
                clear hP39 hD39 hS39
                refine lv_aload_n hx hb dX6_isPart_146 rfl (lv_at hl38 1 rfl) ?_
                refine r_get (own := RX6) (C := RX6) (F := TX6) (N := 12) (ci := 6) (v := .ref (q 5)) hx hb hK hts in_X6 hown hP40 0 rfl rfl 9 (by decide) kw_679 rfl dX6_isPart_147 ?_
                refine lv_iload_n hx hb dX6_isPart_150 rfl (lv_at hl38 2 rfl) ?_
                refine lv_aload_n hx hb dX6_isPart_151 rfl (lv_at hl38 1 rfl) ?_
                refine r_get (own := RX6) (C := RX6) (F := TX6) (N := 12) (ci := 6) (v := .ref (q 5)) hx hb hK hts in_X6 hown hP40 0 rfl rfl 9 (by decide) kw_679 rfl dX6_isPart_152 ?_
                refine lv_iload_n hx hb dX6_isPart_155 rfl (lv_at hl38 2 rfl) ?_
                refine r_iald hx hb hK hP40 2 (f := (upd t1 (9 * k) (nI (t + 1)))) (n := 27) rfl (9 * k) (by decide) dX6_isPart_156 (by omega) ?_
                refine tp_i (y := nI (t + 1)) (pk_us) ?_
                refine lv_iadd hx hb dX6_isPart_157 ?_
                refine tp_i (y := nI (9 * k + (t + 1))) (nI_add _ _) ?_
                refine lv_iload_n hx hb dX6_isPart_158 rfl (lv_at hl38 0 rfl) ?_
                refine r_iast hx hb hK hP40 hD40 hS40 2 (f := (upd t1 (9 * k) (nI (t + 1)))) (n := 27) rfl (9 * k + (t + 1)) (by decide) dX6_isPart_159 (by omega) (fun (H41 : Heap) (locs41 : List Loc) (hP41 : va_P D vwCl (fl [mO q (nI kp) (nI ty) th (nI (at1 + 1 + 1 + 1)) isF op, aW T 0 (q 4) 60 txt, aW T 0 (q 5) 27 (upd (upd t1 (9 * k) (nI (t + 1))) (9 * k + (t + 1)) (nI (10 + d)))]) H41) (hD41 : va_D A (fl [mO q (nI kp) (nI ty) th (nI (at1 + 1 + 1 + 1)) isF op, aW T 0 (q 4) 60 txt, aW T 0 (q 5) 27 (upd (upd t1 (9 * k) (nI (t + 1))) (9 * k + (t + 1)) (nI (10 + d)))])) hS41 => ?_)
                clear hP40 hD40 hS40
                refine lv_aload_n hx hb dX6_isPart_160 rfl (lv_at hl38 1 rfl) ?_
                refine r_get (own := RX6) (C := RX6) (F := TX6) (N := 12) (ci := 6) (v := .ref (q 5)) hx hb hK hts in_X6 hown hP41 0 rfl rfl 9 (by decide) kw_679 rfl dX6_isPart_161 ?_
                refine lv_iload_n hx hb dX6_isPart_164 rfl (lv_at hl38 2 rfl) ?_
                refine r_iald hx hb hK hP41 2 (f := (upd (upd t1 (9 * k) (nI (t + 1))) (9 * k + (t + 1)) (nI (10 + d)))) (n := 27) rfl (9 * k) (by decide) dX6_isPart_165 (by omega) ?_
                refine tp_i (y := nI (t + 1)) ((pk_un (by omega)).trans pk_us) ?_
                refine lv_bipush (v := nI 8) hx hb dX6_isPart_166 (by decide) ?_
                refine n_icmp_ge (tgt := 186) hx hb (by omega) (by omega) dX6_isPart_168 (by decide) (fun c_168 => ?_) (fun c_168 => ?_)
                · skip
                  refine lv_iconst (v := nI 0) hx hb dX6_isPart_186 (by decide) ?_
                  refine lv_istore_n (lv' := [(2, .int (nI 0)), (3, .int (nI (10 + d))), (0, .ref (q 0)), (1, .int (nI (9 * k)))]) hx hb dX6_isPart_187 rfl hl38 (by decide) rfl (fun ls43 hl43 => ?_)
                  clear hl38
                  refine lv_goto (tgt := 41) hx hb dX6_isPart_188 (by decide) ?_
                  have hEE := PB_end hT hPB ht0 (fun a1 a2 a3 => by
                    first
                    | omega
                    | (have q := c_179
                       rw [decide_eq_true a2, a3] at q
                       exact absurd q (by decide)))
                  exact ih41 false (at1 + 1 + 1 + 1) (upd (upd t1 (9 * k) (nI (t + 1))) (9 * k + (t + 1)) (nI (10 + d))) (by first | exact fun _ => hH | exact fun q => absurd q (by decide)) (by first | exact fun _ => hEE | exact fun q => absurd q (by decide)) (by omega) (by omega) (by omega) _ _ hP41 hD41 hS41 _ (lv_sub hl43 [2, 3, 0] rfl)
                · skip
                  refine lv_aload_n hx hb dX6_isPart_171 rfl (lv_at hl38 1 rfl) ?_
                  refine lv_bipush (v := nI 44) hx hb dX6_isPart_172 (by decide) ?_
                  refine lv_bipush (v := nI 44) hx hb dX6_isPart_174 (by decide) ?_
                  have hPc44 : va_P D vwCl (fl [mO q (nI kp) (nI ty) th (nI (at1 + 1 + 1 + 1)) isF op, aW T 0 (q 4) 60 txt]) _ := hP41.sub [0, 1] rfl
                  refine cr_i (va_runV (As := [.int (nI 44), .int (nI 44)]) (rest := []) ⟨hx, hb, hml, hown, hts⟩ (c_X6_isAt l D T q kp ty th (at1 + 1 + 1 + 1) isF op txt (nI 44) (nI 44) (by omega) (by omega)) (mkV hts okX6_isAt kw_829 kw_831 ks_19 ⟨rfl, rfl, Nat.le_of_ble_eq_true rfl, Nat.le_of_ble_eq_true rfl⟩) (pv_ro hK hPc44 (q0 := 0) rfl rfl rfl) rfl rfl hl38.1 rfl (lv_room (Nat.le_of_ble_eq_true rfl)) dX6_isPart_176 ⟨Nat.le_of_ble_eq_true rfl, Nat.le_of_ble_eq_true rfl⟩) hP41 hS41 (fun r_176 H45 locs45 hq_176 hP45 hS45 => ?_)
                  clear hP41 hS41 hPc44
                  have hD45 := hD41
                  clear hD41
                  have hq_176 : r_176 = bI (decide ((at1 + 1 + 1 + 1) < ty) && inB (txt (at1 + 1 + 1 + 1)) (nI 44) (nI 44)) := hq_176
                  subst hq_176
                  refine z_if_eq (tgt := 186) hx hb dX6_isPart_179 (by decide) (fun c_179 => ?_) (fun c_179 => ?_)
                  · skip
                    refine lv_iconst (v := nI 0) hx hb dX6_isPart_186 (by decide) ?_
                    refine lv_istore_n (lv' := [(2, .int (nI 0)), (3, .int (nI (10 + d))), (0, .ref (q 0)), (1, .int (nI (9 * k)))]) hx hb dX6_isPart_187 rfl hl38 (by decide) rfl (fun ls47 hl47 => ?_)
                    clear hl38
                    refine lv_goto (tgt := 41) hx hb dX6_isPart_188 (by decide) ?_
                    have hEE := PB_end hT hPB ht0 (fun a1 a2 a3 => by
                      first
                      | omega
                      | (have q := c_179
                         rw [decide_eq_true a2, a3] at q
                         exact absurd q (by decide)))
                    exact ih41 false (at1 + 1 + 1 + 1) (upd (upd t1 (9 * k) (nI (t + 1))) (9 * k + (t + 1)) (nI (10 + d))) (by first | exact fun _ => hH | exact fun q => absurd q (by decide)) (by first | exact fun _ => hEE | exact fun q => absurd q (by decide)) (by omega) (by omega) (by omega) _ _ hP45 hD45 hS45 _ (lv_sub hl47 [2, 3, 0] rfl)
                  · skip
                    refine lv_iconst (v := nI 1) hx hb dX6_isPart_182 (by decide) ?_
                    refine lv_goto (tgt := 187) hx hb dX6_isPart_183 (by decide) ?_
                    refine lv_istore_n (lv' := [(2, .int (nI 1)), (3, .int (nI (10 + d))), (0, .ref (q 0)), (1, .int (nI (9 * k)))]) hx hb dX6_isPart_187 rfl hl38 (by decide) rfl (fun ls48 hl48 => ?_)
                    clear hl38
                    refine lv_goto (tgt := 41) hx hb dX6_isPart_188 (by decide) ?_
                    have hX44 : txt (at1 + 1 + 1 + 1) = nI 44 := by
                      have q := c_179
                      simp only [Bool.and_eq_true, decide_eq_true_eq] at q
                      obtain ⟨j, h1, h2, e⟩ := inB_l q.2 (by omega) (by omega)
                      obtain rfl : j = 44 := by omega
                      exact e
                    have hXty : at1 + 1 + 1 + 1 < ty := by
                      have q := c_179
                      simp only [Bool.and_eq_true, decide_eq_true_eq] at q
                      exact q.1
                    have hH := PB_more hT hPB ht0 (by omega) hXty hX44
                    exact ih41 true (at1 + 1 + 1 + 1) (upd (upd t1 (9 * k) (nI (t + 1))) (9 * k + (t + 1)) (nI (10 + d))) (by first | exact fun _ => hH | exact fun q => absurd q (by decide)) (by first | exact fun _ => hEE | exact fun q => absurd q (by decide)) (by omega) (by omega) (by omega) _ _ hP45 hD45 hS45 _ (lv_sub hl48 [2, 3, 0] rfl)
          · skip
            refine lv_aload_n hx hb dX6_isPart_66 rfl (lv_at hl8 0 rfl) ?_
            have hPc49 : va_P D vwCl (fl [mO q (nI kp) (nI ty) th (nI (at1 + 1)) isF op]) _ := flP_sub hP12 [0] rfl
            have hDc49 : va_D A (fl [mO q (nI kp) (nI ty) th (nI (at1 + 1)) isF op]) := flD_sub hD12 [0] (by decide) rfl
            refine cl_i (br := [aW T 0 (q 4) 60 txt, aW T 0 (q 5) 27 t1]) (va_runV (As := []) (rest := []) ⟨hx, hb, hml, hown, hts⟩ (c_X6_stops l D T q kp ty th (at1 + 1) isF op (by omega) (by omega) _) (mkV hts okX6_stops kw_833 kw_835 ks_20 ⟨rfl, rfl, Nat.le_of_ble_eq_true rfl, Nat.le_of_ble_eq_true rfl⟩) (pv_rw hK hPc49 hDc49 (q0 := 0) rfl rfl rfl) rfl rfl hl8.1 rfl (lv_room (Nat.le_of_ble_eq_true rfl)) dX6_isPart_67 ⟨Nat.le_of_ble_eq_true rfl, Nat.le_of_ble_eq_true rfl⟩) hP12 hD12 hS12 hA [1, 2] [0] rfl (by decide) (fun r_67 isF2_67 H50 locs50 hq_67 hP50 hD50 hS50 => ?_)
            clear hP12 hD12 hS12 hPc49 hDc49
            have hP50 : va_P D vwCl (fl [aW T 0 (q 4) 60 txt, aW T 0 (q 5) 27 t1, mO q (nI kp) (nI ty) th (nI (at1 + 1)) isF2_67 op]) _ := hP50
            have hD50 : va_D A (fl [aW T 0 (q 4) 60 txt, aW T 0 (q 5) 27 t1, mO q (nI kp) (nI ty) th (nI (at1 + 1)) isF2_67 op]) := hD50
            have hq_67 : r_67 = nI 0 ∧ isF2_67 = decide ((at1 + 1) < ty) := hq_67
            refine tp_i (y := nI 0) (hq_67.1) ?_
            refine ret_z (b := false) rfl hTG (Nat.le_refl _) (Nat.le_refl _) hx hb hr hlocks (((at1 + 1), isF2_67, t1, false)) hP50 hD50 hS50 [2, 0, 1] rfl (by decide) dX6_isPart_70 ?_
            exact ⟨rfl, by omega, hH1.1, fun q => absurd q (by decide), fun _ => ⟨hq_67.2, PH_stop hH1 c_63⟩⟩
    exact loop41 ((61 - at_) + 1) true at_ (upd told (9 * k) (nI 0)) (fun _ => PI_cr hPI hity hk hfk) (fun q => absurd q (by decide)) (by omega) (by omega) (Nat.lt_succ_self _) _ _ hP5 hD5 hS5 _ (lv_sub hl6 [2, 1, 0] rfl)
  · skip
    refine lv_aload_n hx hb dX6_isPart_11 rfl (lv_at hl0 0 rfl) ?_
    have hPc51 : va_P D vwCl (fl [mO q (nI kp) (nI ty) th (nI at_) isF op]) _ := flP_sub hP2 [0] rfl
    have hDc51 : va_D A (fl [mO q (nI kp) (nI ty) th (nI at_) isF op]) := flD_sub hD2 [0] (by decide) rfl
    refine cl_i (br := [aW T 0 (q 4) 60 txt, aW T 0 (q 5) 27 told]) (va_runV (As := []) (rest := []) ⟨hx, hb, hml, hown, hts⟩ (c_X6_stops l D T q kp ty th at_ isF op (by omega) (by omega) _) (mkV hts okX6_stops kw_833 kw_835 ks_20 ⟨rfl, rfl, Nat.le_of_ble_eq_true rfl, Nat.le_of_ble_eq_true rfl⟩) (pv_rw hK hPc51 hDc51 (q0 := 0) rfl rfl rfl) rfl rfl hl0.1 rfl (lv_room (Nat.le_of_ble_eq_true rfl)) dX6_isPart_12 ⟨Nat.le_of_ble_eq_true rfl, Nat.le_of_ble_eq_true rfl⟩) hP2 hD2 hS2 hA [1, 2] [0] rfl (by decide) (fun r_12 isF2_12 H52 locs52 hq_12 hP52 hD52 hS52 => ?_)
    clear hP2 hD2 hS2 hPc51 hDc51
    have hP52 : va_P D vwCl (fl [aW T 0 (q 4) 60 txt, aW T 0 (q 5) 27 told, mO q (nI kp) (nI ty) th (nI at_) isF2_12 op]) _ := hP52
    have hD52 : va_D A (fl [aW T 0 (q 4) 60 txt, aW T 0 (q 5) 27 told, mO q (nI kp) (nI ty) th (nI at_) isF2_12 op]) := hD52
    have hq_12 : r_12 = nI 0 ∧ isF2_12 = decide (at_ < ty) := hq_12
    refine tp_i (y := nI 0) (hq_12.1) ?_
    refine ret_z (b := false) rfl hTG (Nat.le_refl _) (Nat.le_refl _) hx hb hr hlocks ((at_, isF2_12, told, false)) hP52 hD52 hS52 [2, 0, 1] rfl (by decide) dX6_isPart_15 ?_
    exact ⟨rfl, Nat.le_refl _, hle, fun q => absurd q (by decide), fun _ => ⟨hq_12.2, PI_stop hPI c_8⟩⟩
set_option maxHeartbeats 4000000 in
set_option maxRecDepth 100000 in
theorem c_X6_isText (l : Launch) (D : va_G) (T : TI) (q : Nat → Nat) (kp : Nat) (ty : Nat) (th : Int32) (at_ : Nat) (isF : Bool) (op : Int32) (txt : Nat → Int32) (told : Nat → Int32) (c0 : Nat → Nat → Int32) (L0 : Nat → Nat) (hty : ty ≤ 60) (hT : okT c0 L0) : CI l yX6_isText cX6_isText 2 .boolean (rmD 3 0 0) D T [.ref (q 0)] [mO q (nI kp) (nI ty) th (nI at_) isF op, aW T 0 (q 4) 60 txt, aW T 0 (q 5) 27 told] 0 0 (β := Nat × Bool × (Nat → Int32)) (fun ⟨at2, isF2, told2⟩ => [mO q (nI kp) (nI ty) th (nI at2) isF2 op, aW T 0 (q 4) 60 txt, aW T 0 (q 5) 27 told2]) (fun (r : Int32) ⟨at2, isF2, told2⟩ => r = bI (cmB txt 0 ty) ∧ (at2 = erT txt 0 ty ∧ isF2 = decide (erT txt 0 ty < ty) ∧ (cmB txt 0 ty = true → ∀ k, k < 3 → RT told2 c0 L0 (gvP (gvI txt c0 L0 ty)).1 (gvP (gvI txt c0 L0 ty)).2 k))) := by
  intro sz
  refine met_rw (Qc := fun A => va_Qi _ (PST D _ A) A) rfl (Nat.le_of_ble_eq_true rfl) ?_
  intro pX eX sX mX bX mtX cX A hAe hC hA hP0 hD0 hS0 ls0 hl0 TG hTG
  clear hAe
  obtain ⟨hx, hb, hr, hml, hown, hts, hlocks, hin, hK⟩ := hC
  have hown : sX.vm.findClass RX6 = some mX.cls := hown
  have hl0 : lv_has ls0 2 [(0, .ref (q 0))] := hl0
  refine lv_aload_n hx hb dX6_isText_0 rfl (lv_at hl0 0 rfl) ?_
  refine lv_iconst (v := nI 0) hx hb dX6_isText_1 (by decide) ?_
  refine r_put (own := RX6) (C := RX6) (F := TX6) (N := 12) (ci := 6) (v := nI 0) hx hb hK hts in_X6 tyX6 tyX6_ok nmX6 hown hP0 hD0 hS0 0 rfl rfl 7 (by decide) kw_677 rfl rfl (Nat.le_of_ble_eq_true rfl) dX6_isText_2 (fun (H1 : Heap) (locs1 : List Loc) (hP1 : va_P D vwCl (fl [mO q (nI kp) (nI ty) th (nI 0) isF op, aW T 0 (q 4) 60 txt, aW T 0 (q 5) 27 told]) H1) (hD1 : va_D A (fl [mO q (nI kp) (nI ty) th (nI 0) isF op, aW T 0 (q 4) 60 txt, aW T 0 (q 5) 27 told])) hS1 => ?_)
  clear hP0 hD0 hS0
  refine lv_aload_n hx hb dX6_isText_5 rfl (lv_at hl0 0 rfl) ?_
  refine lv_iconst (v := nI 0) hx hb dX6_isText_6 (by decide) ?_
  refine r_putz (own := RX6) (C := RX6) (F := TX6) (N := 12) (ci := 6) (b := false) hx hb hK hts in_X6 tyX6 tyX6_ok nmX6 hown hP1 hD1 hS1 0 rfl rfl 8 (by decide) kw_678 rfl rfl (Nat.le_of_ble_eq_true rfl) dX6_isText_7 (fun (H2 : Heap) (locs2 : List Loc) (hP2 : va_P D vwCl (fl [mO q (nI kp) (nI ty) th (nI 0) false op, aW T 0 (q 4) 60 txt, aW T 0 (q 5) 27 told]) H2) (hD2 : va_D A (fl [mO q (nI kp) (nI ty) th (nI 0) false op, aW T 0 (q 4) 60 txt, aW T 0 (q 5) 27 told])) hS2 => ?_)
  clear hP1 hD1 hS1
  refine lv_iconst (v := nI 0) hx hb dX6_isText_10 (by decide) ?_
  refine lv_istore_n (lv' := [(1, .int (nI 0)), (0, .ref (q 0))]) hx hb dX6_isText_11 rfl hl0 (by decide) rfl (fun ls3 hl3 => ?_)
  clear hl0
  have loop12 : ∀ (n_ : Nat) (k : Nat) (t1 : Nat → Int32), (k ≤ 3) → (∀ y, y < k → t1 (9 * y) = nI 0) → (3 - k) < n_ → ∀ (H : Heap) (locs : List Loc), va_P D vwCl (fl [mO q (nI kp) (nI ty) th (nI 0) false op, aW T 0 (q 4) 60 txt, aW T 0 (q 5) 27 t1]) H → va_D A (fl [mO q (nI kp) (nI ty) th (nI 0) false op, aW T 0 (q 4) 60 txt, aW T 0 (q 5) 27 t1]) → va_S A sX.heap H locs → ∀ ls : Array Slot, lv_has ls 2 [(0, .ref (q 0)), (1, .int (nI k))] → W pX l eX (rmD 3 0 0) sX mX ([.ref (q 0)] : List Value).toArray bX mtX cX H locs 0 0 TG (F0 mX 12 ls []) := by
    intro n_
    induction n_ with
    | zero => intro k t1 hk hz0 hmu_ ; exact absurd hmu_ (Nat.not_lt_zero _)
    | succ n_ ih12 =>
      intro k t1 hk hz0 hmu_12 H5 locs5 hP5 hD5 hS5 ls5 hl5
      refine lv_iload_n hx hb dX6_isText_12 rfl (lv_at hl5 1 rfl) ?_
      refine lv_iconst (v := nI 3) hx hb dX6_isText_13 (by decide) ?_
      refine n_icmp_ge (tgt := 33) hx hb (by omega) (by omega) dX6_isText_14 (by decide) (fun c_14 => ?_) (fun c_14 => ?_)
      · skip
        have hk2 : k = 3 := by omega
        subst hk2
        have hI0 : PI txt c0 L0 ty 0 t1 := ⟨by omega, rfl, rfl, fun y hy => ⟨0, hz0 y hy, by omega, fun _ => ⟨rfl, rfl⟩, fun q => absurd q (by omega)⟩⟩
        refine lv_iconst (v := nI 1) hx hb dX6_isText_33 (by decide) ?_
        refine lv_istore_n (lv' := [(1, .int (nI 1)), (0, .ref (q 0))]) hx hb dX6_isText_34 rfl hl5 (by decide) rfl (fun ls7 hl7 => ?_)
        clear hl5
        have loop35 : ∀ (n_ : Nat) (mo : Bool) (at1 : Nat) (isF1 : Bool) (t1 : Nat → Int32), (mo = true → PI txt c0 L0 ty at1 t1) → (mo = false → PE txt c0 L0 ty at1 t1 ∧ (at1 < ty → txt at1 ≠ nI 59)) → (at1 ≤ 60) → (Bool.toNat mo + (61 - at1)) < n_ → ∀ (H : Heap) (locs : List Loc), va_P D vwCl (fl [mO q (nI kp) (nI ty) th (nI at1) isF1 op, aW T 0 (q 4) 60 txt, aW T 0 (q 5) 27 t1]) H → va_D A (fl [mO q (nI kp) (nI ty) th (nI at1) isF1 op, aW T 0 (q 4) 60 txt, aW T 0 (q 5) 27 t1]) → va_S A sX.heap H locs → ∀ ls : Array Slot, lv_has ls 2 [(0, .ref (q 0)), (1, .int (bI mo))] → W pX l eX (rmD 3 0 0) sX mX ([.ref (q 0)] : List Value).toArray bX mtX cX H locs 0 0 TG (F0 mX 35 ls []) := by
          intro n_
          induction n_ with
          | zero => intro mo at1 isF1 t1 h1 h2 h61 hmu_ ; exact absurd hmu_ (Nat.not_lt_zero _)
          | succ n_ ih35 =>
            intro mo at1 isF1 t1 h1 h2 h61 hmu_35 H9 locs9 hP9 hD9 hS9 ls9 hl9
            refine lv_iload_n hx hb dX6_isText_35 rfl (lv_at hl9 1 rfl) ?_
            refine z_if_eq (tgt := 78) hx hb dX6_isText_36 (by decide) (fun c_36 => ?_) (fun c_36 => ?_)
            · skip
              obtain ⟨hE, h59⟩ := h2 c_36
              have hle := hE.1
              refine lv_aload_n hx hb dX6_isText_78 rfl (lv_at hl9 0 rfl) ?_
              refine lv_aload_n hx hb dX6_isText_79 rfl (lv_at hl9 0 rfl) ?_
              refine r_get (own := RX6) (C := RX6) (F := TX6) (N := 12) (ci := 6) (v := .int (nI at1)) hx hb hK hts in_X6 hown hP9 0 rfl rfl 7 (by decide) kw_677 rfl dX6_isText_80 ?_
              refine lv_aload_n hx hb dX6_isText_83 rfl (lv_at hl9 0 rfl) ?_
              refine r_get (own := RX6) (C := RX6) (F := TX6) (N := 12) (ci := 6) (v := .int (nI ty)) hx hb hK hts in_X6 hown hP9 0 rfl rfl 5 (by decide) kw_675 rfl dX6_isText_84 ?_
              refine n_icmp_ge (tgt := 94) hx hb (by omega) (by omega) dX6_isText_87 (by decide) (fun c_87 => ?_) (fun c_87 => ?_)
              · skip
                refine lv_iconst (v := nI 0) hx hb dX6_isText_94 (by decide) ?_
                refine r_putz (own := RX6) (C := RX6) (F := TX6) (N := 12) (ci := 6) (b := false) hx hb hK hts in_X6 tyX6 tyX6_ok nmX6 hown hP9 hD9 hS9 0 rfl rfl 8 (by decide) kw_678 rfl rfl (Nat.le_of_ble_eq_true rfl) dX6_isText_95 (fun (H12 : Heap) (locs12 : List Loc) (hP12 : va_P D vwCl (fl [mO q (nI kp) (nI ty) th (nI at1) false op, aW T 0 (q 4) 60 txt, aW T 0 (q 5) 27 t1]) H12) (hD12 : va_D A (fl [mO q (nI kp) (nI ty) th (nI at1) false op, aW T 0 (q 4) 60 txt, aW T 0 (q 5) 27 t1])) hS12 => ?_)
                clear hP9 hD9 hS9
                refine lv_aload_n hx hb dX6_isText_98 rfl (lv_at hl9 0 rfl) ?_
                refine r_get (own := RX6) (C := RX6) (F := TX6) (N := 12) (ci := 6) (v := .int (nI at1)) hx hb hK hts in_X6 hown hP12 0 rfl rfl 7 (by decide) kw_677 rfl dX6_isText_99 ?_
                refine lv_aload_n hx hb dX6_isText_102 rfl (lv_at hl9 0 rfl) ?_
                refine r_get (own := RX6) (C := RX6) (F := TX6) (N := 12) (ci := 6) (v := .int (nI ty)) hx hb hK hts in_X6 hown hP12 0 rfl rfl 5 (by decide) kw_675 rfl dX6_isText_103 ?_
                refine n_icmp_ne (tgt := 113) hx hb (by omega) (by omega) dX6_isText_106 (by decide) (fun c_106 => ?_) (fun c_106 => ?_)
                · skip
                  refine lv_iconst (v := nI 0) hx hb dX6_isText_113 (by decide) ?_
                  refine ret_z (b := false) rfl hTG (Nat.le_refl _) (Nat.le_refl _) hx hb hr hlocks ((at1, false, t1)) hP12 hD12 hS12 [0, 1, 2] rfl (by decide) dX6_isText_114 ?_
                  first
                  | (exfalso; omega)
                  | (have e : at1 = ty := by omega
                     subst e
                     have hY := PE_yes hE
                     exact ⟨by rw [hY.2], hY.1.symm, by rw [hY.1, decide_eq_false (Nat.lt_irrefl _)], fun _ k hk => hE.2.2.2.2 k hk⟩)
                  | (have hN := PE_no hE (by omega) (h59 (by omega))
                     exact ⟨by rw [hN.2], hN.1.symm, by rw [hN.1, decide_eq_true (show at1 < ty by omega)], fun q => absurd (hN.2.symm.trans q) (by decide)⟩)
                · skip
                  refine lv_iconst (v := nI 1) hx hb dX6_isText_109 (by decide) ?_
                  refine lv_goto (tgt := 114) hx hb dX6_isText_110 (by decide) ?_
                  refine ret_z (b := true) rfl hTG (Nat.le_refl _) (Nat.le_refl _) hx hb hr hlocks ((at1, false, t1)) hP12 hD12 hS12 [0, 1, 2] rfl (by decide) dX6_isText_114 ?_
                  first
                  | (exfalso; omega)
                  | (have e : at1 = ty := by omega
                     subst e
                     have hY := PE_yes hE
                     exact ⟨by rw [hY.2], hY.1.symm, by rw [hY.1, decide_eq_false (Nat.lt_irrefl _)], fun _ k hk => hE.2.2.2.2 k hk⟩)
                  | (have hN := PE_no hE (by omega) (h59 (by omega))
                     exact ⟨by rw [hN.2], hN.1.symm, by rw [hN.1, decide_eq_true (show at1 < ty by omega)], fun q => absurd (hN.2.symm.trans q) (by decide)⟩)
              · skip
                refine lv_iconst (v := nI 1) hx hb dX6_isText_90 (by decide) ?_
                refine lv_goto (tgt := 95) hx hb dX6_isText_91 (by decide) ?_
                refine r_putz (own := RX6) (C := RX6) (F := TX6) (N := 12) (ci := 6) (b := true) hx hb hK hts in_X6 tyX6 tyX6_ok nmX6 hown hP9 hD9 hS9 0 rfl rfl 8 (by decide) kw_678 rfl rfl (Nat.le_of_ble_eq_true rfl) dX6_isText_95 (fun (H14 : Heap) (locs14 : List Loc) (hP14 : va_P D vwCl (fl [mO q (nI kp) (nI ty) th (nI at1) true op, aW T 0 (q 4) 60 txt, aW T 0 (q 5) 27 t1]) H14) (hD14 : va_D A (fl [mO q (nI kp) (nI ty) th (nI at1) true op, aW T 0 (q 4) 60 txt, aW T 0 (q 5) 27 t1])) hS14 => ?_)
                clear hP9 hD9 hS9
                refine lv_aload_n hx hb dX6_isText_98 rfl (lv_at hl9 0 rfl) ?_
                refine r_get (own := RX6) (C := RX6) (F := TX6) (N := 12) (ci := 6) (v := .int (nI at1)) hx hb hK hts in_X6 hown hP14 0 rfl rfl 7 (by decide) kw_677 rfl dX6_isText_99 ?_
                refine lv_aload_n hx hb dX6_isText_102 rfl (lv_at hl9 0 rfl) ?_
                refine r_get (own := RX6) (C := RX6) (F := TX6) (N := 12) (ci := 6) (v := .int (nI ty)) hx hb hK hts in_X6 hown hP14 0 rfl rfl 5 (by decide) kw_675 rfl dX6_isText_103 ?_
                refine n_icmp_ne (tgt := 113) hx hb (by omega) (by omega) dX6_isText_106 (by decide) (fun c_106 => ?_) (fun c_106 => ?_)
                · skip
                  refine lv_iconst (v := nI 0) hx hb dX6_isText_113 (by decide) ?_
                  refine ret_z (b := false) rfl hTG (Nat.le_refl _) (Nat.le_refl _) hx hb hr hlocks ((at1, true, t1)) hP14 hD14 hS14 [0, 1, 2] rfl (by decide) dX6_isText_114 ?_
                  first
                  | (exfalso; omega)
                  | (have e : at1 = ty := by omega
                     subst e
                     have hY := PE_yes hE
                     exact ⟨by rw [hY.2], hY.1.symm, by rw [hY.1, decide_eq_false (Nat.lt_irrefl _)], fun _ k hk => hE.2.2.2.2 k hk⟩)
                  | (have hN := PE_no hE (by omega) (h59 (by omega))
                     exact ⟨by rw [hN.2], hN.1.symm, by rw [hN.1, decide_eq_true (show at1 < ty by omega)], fun q => absurd (hN.2.symm.trans q) (by decide)⟩)
                · skip
                  refine lv_iconst (v := nI 1) hx hb dX6_isText_109 (by decide) ?_
                  refine lv_goto (tgt := 114) hx hb dX6_isText_110 (by decide) ?_
                  refine ret_z (b := true) rfl hTG (Nat.le_refl _) (Nat.le_refl _) hx hb hr hlocks ((at1, true, t1)) hP14 hD14 hS14 [0, 1, 2] rfl (by decide) dX6_isText_114 ?_
                  first
                  | (exfalso; omega)
                  | (have e : at1 = ty := by omega
                     subst e
                     have hY := PE_yes hE
                     exact ⟨by rw [hY.2], hY.1.symm, by rw [hY.1, decide_eq_false (Nat.lt_irrefl _)], fun _ k hk => hE.2.2.2.2 k hk⟩)
                  | (have hN := PE_no hE (by omega) (h59 (by omega))
                     exact ⟨by rw [hN.2], hN.1.symm, by rw [hN.1, decide_eq_true (show at1 < ty by omega)], fun q => absurd (hN.2.symm.trans q) (by decide)⟩)
            · skip
              subst c_36
              have ht1 : Bool.toNat true = 1 := rfl
              refine lv_aload_n hx hb dX6_isText_39 rfl (lv_at hl9 0 rfl) ?_
              have hPc16 : va_P D vwCl (fl [mO q (nI kp) (nI ty) th (nI at1) isF1 op, aW T 0 (q 4) 60 txt, aW T 0 (q 5) 27 t1]) _ := flP_sub hP9 [0, 1, 2] rfl
              have hDc16 : va_D A (fl [mO q (nI kp) (nI ty) th (nI at1) isF1 op, aW T 0 (q 4) 60 txt, aW T 0 (q 5) 27 t1]) := flD_sub hD9 [0, 1, 2] (by decide) rfl
              refine cl_i (br := []) (va_runV (As := []) (rest := []) ⟨hx, hb, hml, hown, hts⟩ (c_X6_isPart l D T q kp ty th at1 isF1 op txt t1 _ _ (by omega) (hT) (h1 rfl) _) (mkV hts okX6_isPart kw_825 kw_827 ks_18 ⟨rfl, rfl, Nat.le_of_ble_eq_true rfl, Nat.le_of_ble_eq_true rfl⟩) (pv_rw hK hPc16 hDc16 (q0 := 0) rfl rfl rfl) rfl rfl hl9.1 rfl (lv_room (Nat.le_of_ble_eq_true rfl)) dX6_isText_40 ⟨Nat.le_of_ble_eq_true rfl, Nat.le_of_ble_eq_true rfl⟩) hP9 hD9 hS9 hA [] [0, 1, 2] rfl (by decide) (fun r_40 u_40 H17 locs17 hq_40 hP17 hD17 hS17 => ?_)
              clear hP9 hD9 hS9 hPc16 hDc16
              obtain ⟨at2_40, isF2_40, told2_40, b2_40⟩ := u_40
              have hP17 : va_P D vwCl (fl [mO q (nI kp) (nI ty) th (nI at2_40) isF2_40 op, aW T 0 (q 4) 60 txt, aW T 0 (q 5) 27 told2_40]) _ := hP17
              have hD17 : va_D A (fl [mO q (nI kp) (nI ty) th (nI at2_40) isF2_40 op, aW T 0 (q 4) 60 txt, aW T 0 (q 5) 27 told2_40]) := hD17
              obtain ⟨hr_40, hq_40⟩ : r_40 = bI b2_40 ∧ (at1 ≤ at2_40 ∧ PQ txt c0 L0 ty b2_40 at2_40 isF1 isF2_40 told2_40) := hq_40
              subst hr_40
              refine z_if_ne (tgt := 48) hx hb dX6_isText_43 (by decide) (fun c_43 => ?_) (fun c_43 => ?_)
              · skip
                have hge := hq_40.1
                have hle2 := hq_40.2.1
                have hE := (hq_40.2.2.1 c_43).2
                refine lv_aload_n hx hb dX6_isText_48 rfl (lv_at hl9 0 rfl) ?_
                refine lv_bipush (v := nI 59) hx hb dX6_isText_49 (by decide) ?_
                refine lv_bipush (v := nI 59) hx hb dX6_isText_51 (by decide) ?_
                have hPc19 : va_P D vwCl (fl [mO q (nI kp) (nI ty) th (nI at2_40) isF2_40 op, aW T 0 (q 4) 60 txt]) _ := hP17.sub [0, 1] rfl
                refine cr_i (va_runV (As := [.int (nI 59), .int (nI 59)]) (rest := []) ⟨hx, hb, hml, hown, hts⟩ (c_X6_isAt l D T q kp ty th at2_40 isF2_40 op txt (nI 59) (nI 59) (by omega) (by omega)) (mkV hts okX6_isAt kw_829 kw_831 ks_19 ⟨rfl, rfl, Nat.le_of_ble_eq_true rfl, Nat.le_of_ble_eq_true rfl⟩) (pv_ro hK hPc19 (q0 := 0) rfl rfl rfl) rfl rfl hl9.1 rfl (lv_room (Nat.le_of_ble_eq_true rfl)) dX6_isText_53 ⟨Nat.le_of_ble_eq_true rfl, Nat.le_of_ble_eq_true rfl⟩) hP17 hS17 (fun r_53 H20 locs20 hq_53 hP20 hS20 => ?_)
                clear hP17 hS17 hPc19
                have hD20 := hD17
                clear hD17
                have hq_53 : r_53 = bI (decide (at2_40 < ty) && inB (txt at2_40) (nI 59) (nI 59)) := hq_53
                subst hq_53
                refine lv_istore_n (lv' := [(1, .int (bI (decide (at2_40 < ty) && inB (txt at2_40) (nI 59) (nI 59)))), (0, .ref (q 0))]) hx hb dX6_isText_56 rfl hl9 (by decide) rfl (fun ls21 hl21 => ?_)
                clear hl9
                refine lv_aload_n hx hb dX6_isText_57 rfl (lv_at hl21 1 rfl) ?_
                refine lv_dup hx hb dX6_isText_58 rfl ?_
                refine r_get (own := RX6) (C := RX6) (F := TX6) (N := 12) (ci := 6) (v := .int (nI at2_40)) hx hb hK hts in_X6 hown hP20 0 rfl rfl 7 (by decide) kw_677 rfl dX6_isText_59 ?_
                refine lv_iload_n hx hb dX6_isText_62 rfl (lv_at hl21 0 rfl) ?_
                refine z_if_eq (tgt := 70) hx hb dX6_isText_63 (by decide) (fun c_63 => ?_) (fun c_63 => ?_)
                · skip
                  refine lv_iconst (v := nI 0) hx hb dX6_isText_70 (by decide) ?_
                  refine lv_iadd hx hb dX6_isText_71 ?_
                  refine tp_i (y := nI (at2_40 + 0)) (nI_add _ _) ?_
                  refine r_put (own := RX6) (C := RX6) (F := TX6) (N := 12) (ci := 6) (v := nI (at2_40 + 0)) hx hb hK hts in_X6 tyX6 tyX6_ok nmX6 hown hP20 hD20 hS20 0 rfl rfl 7 (by decide) kw_677 rfl rfl (Nat.le_of_ble_eq_true rfl) dX6_isText_72 (fun (H23 : Heap) (locs23 : List Loc) (hP23 : va_P D vwCl (fl [mO q (nI kp) (nI ty) th (nI (at2_40 + 0)) isF2_40 op, aW T 0 (q 4) 60 txt, aW T 0 (q 5) 27 told2_40]) H23) (hD23 : va_D A (fl [mO q (nI kp) (nI ty) th (nI (at2_40 + 0)) isF2_40 op, aW T 0 (q 4) 60 txt, aW T 0 (q 5) 27 told2_40])) hS23 => ?_)
                  clear hP20 hD20 hS20
                  refine lv_goto (tgt := 35) hx hb dX6_isText_75 (by decide) ?_
                  have hz : Bool.toNat (decide (at2_40 < ty) && inB (txt at2_40) (nI 59) (nI 59)) = 0 := by rw [c_63]; rfl
                  have hN : PE txt c0 L0 ty at2_40 told2_40 ∧ (at2_40 < ty → txt at2_40 ≠ nI 59) := by
                    refine ⟨hE, fun q1 q2 => ?_⟩
                    have q := c_63
                    rw [decide_eq_true q1, q2] at q
                    exact absurd q (by decide)
                  exact ih35 (decide (at2_40 < ty) && inB (txt at2_40) (nI 59) (nI 59)) (at2_40 + 0) isF2_40 told2_40 (by first | exact fun _ => hN | exact fun q => absurd (c_63.symm.trans q) (by decide)) (by first | exact fun _ => hN | exact fun q => absurd (c_63.symm.trans q) (by decide)) (by omega) (by omega) _ _ hP23 hD23 hS23 _ (lv_sub hl21 [1, 0] rfl)
                · skip
                  refine lv_iconst (v := nI 1) hx hb dX6_isText_66 (by decide) ?_
                  refine lv_goto (tgt := 71) hx hb dX6_isText_67 (by decide) ?_
                  refine lv_iadd hx hb dX6_isText_71 ?_
                  refine tp_i (y := nI (at2_40 + 1)) (nI_add _ _) ?_
                  refine r_put (own := RX6) (C := RX6) (F := TX6) (N := 12) (ci := 6) (v := nI (at2_40 + 1)) hx hb hK hts in_X6 tyX6 tyX6_ok nmX6 hown hP20 hD20 hS20 0 rfl rfl 7 (by decide) kw_677 rfl rfl (Nat.le_of_ble_eq_true rfl) dX6_isText_72 (fun (H24 : Heap) (locs24 : List Loc) (hP24 : va_P D vwCl (fl [mO q (nI kp) (nI ty) th (nI (at2_40 + 1)) isF2_40 op, aW T 0 (q 4) 60 txt, aW T 0 (q 5) 27 told2_40]) H24) (hD24 : va_D A (fl [mO q (nI kp) (nI ty) th (nI (at2_40 + 1)) isF2_40 op, aW T 0 (q 4) 60 txt, aW T 0 (q 5) 27 told2_40])) hS24 => ?_)
                  clear hP20 hD20 hS20
                  refine lv_goto (tgt := 35) hx hb dX6_isText_75 (by decide) ?_
                  have hz : Bool.toNat (decide (at2_40 < ty) && inB (txt at2_40) (nI 59) (nI 59)) = 1 := by rw [c_63]; rfl
                  have q63 := c_63
                  simp only [Bool.and_eq_true, decide_eq_true_eq] at q63
                  have hty2 := q63.1
                  have hf59 : txt at2_40 = nI 59 := by
                    obtain ⟨j, j1, j2, e⟩ := inB_l q63.2 (by omega) (by omega)
                    obtain rfl : j = 59 := by omega
                    exact e
                  have hN := PE_sep hE hty2 hf59
                  exact ih35 (decide (at2_40 < ty) && inB (txt at2_40) (nI 59) (nI 59)) (at2_40 + 1) isF2_40 told2_40 (by first | exact fun _ => hN | exact fun q => absurd (c_63.symm.trans q) (by decide)) (by first | exact fun _ => hN | exact fun q => absurd (c_63.symm.trans q) (by decide)) (by omega) (by omega) _ _ hP24 hD24 hS24 _ (lv_sub hl21 [1, 0] rfl)
              · skip
                have hFF := hq_40.2.2.2 c_43
                refine lv_iconst (v := nI 0) hx hb dX6_isText_46 (by decide) ?_
                refine ret_z (b := false) rfl hTG (Nat.le_refl _) (Nat.le_refl _) hx hb hr hlocks ((at2_40, isF2_40, told2_40)) hP17 hD17 hS17 [0, 1, 2] rfl (by decide) dX6_isText_47 ?_
                exact ⟨by rw [hFF.2.2], hFF.2.1.symm, by rw [hFF.1, hFF.2.1], fun q => absurd (hFF.2.2.symm.trans q) (by decide)⟩
        exact loop35 ((Bool.toNat true + (61 - 0)) + 1) true 0 false t1 (fun _ => hI0) (fun q => absurd q (by decide)) (by omega) (Nat.lt_succ_self _) _ _ hP5 hD5 hS5 _ (lv_sub hl7 [1, 0] rfl)
      · skip
        refine lv_aload_n hx hb dX6_isText_17 rfl (lv_at hl5 0 rfl) ?_
        refine r_get (own := RX6) (C := RX6) (F := TX6) (N := 12) (ci := 6) (v := .ref (q 5)) hx hb hK hts in_X6 hown hP5 0 rfl rfl 9 (by decide) kw_679 rfl dX6_isText_18 ?_
        refine lv_bipush (v := nI 9) hx hb dX6_isText_21 (by decide) ?_
        refine lv_iload_n hx hb dX6_isText_23 rfl (lv_at hl5 1 rfl) ?_
        refine lv_imul hx hb dX6_isText_24 ?_
        refine tp_i (y := nI (9 * k)) (pk_mul _ _) ?_
        refine lv_iconst (v := nI 0) hx hb dX6_isText_25 (by decide) ?_
        refine r_iast hx hb hK hP5 hD5 hS5 2 (f := t1) (n := 27) rfl (9 * k) (by decide) dX6_isText_26 (by omega) (fun (H25 : Heap) (locs25 : List Loc) (hP25 : va_P D vwCl (fl [mO q (nI kp) (nI ty) th (nI 0) false op, aW T 0 (q 4) 60 txt, aW T 0 (q 5) 27 (upd t1 (9 * k) (nI 0))]) H25) (hD25 : va_D A (fl [mO q (nI kp) (nI ty) th (nI 0) false op, aW T 0 (q 4) 60 txt, aW T 0 (q 5) 27 (upd t1 (9 * k) (nI 0))])) hS25 => ?_)
        clear hP5 hD5 hS5
        refine lv_iinc (v := nI (k + 1)) (lv' := [(1, .int (nI (k + 1))), (0, .ref (q 0))]) hx hb dX6_isText_27 hl5 (k := 1) rfl (nI_add k 1) (by decide) rfl (fun ls26 hl26 => ?_)
        clear hl5
        refine lv_goto (tgt := 12) hx hb dX6_isText_30 (by decide) ?_
        exact ih12 (k + 1) (upd t1 (9 * k) (nI 0)) (by omega) (fun y hy => by
  by_cases e : y = k
  · subst e; exact pk_us
  · rw [pk_un (by omega)]; exact hz0 y (by omega)) (by omega) _ _ hP25 hD25 hS25 _ (lv_sub hl26 [1, 0] rfl)
  exact loop12 ((3 - 0) + 1) 0 told (by omega) (fun y hy => absurd hy (by omega)) (Nat.lt_succ_self _) _ _ hP2 hD2 hS2 _ (lv_sub hl3 [1, 0] rfl)
