set_option maxHeartbeats 4000000 in
set_option maxRecDepth 100000 in
theorem c_X6_fails (l : Launch) (D : va_G) (T : TI) (q : Nat → Nat) (kp : Nat) (ty : Nat) (th : Int32) (at_ : Nat) (isF : Bool) (op : Int32) (so : Int32)  : CI l yX6_fails cX6_fails 2 .int (rmD 0 0 0) D T [.ref (q 0), .int so] [mO q (nI kp) (nI ty) th (nI at_) isF op] 0 0 (β := Int32) (fun (th2 : Int32) => [mO q (nI kp) (nI ty) th2 (nI at_) isF op]) (fun (r : Int32) (th2 : Int32) => r = nI 0 ∧ (so = th2)) := by
  intro sz
  refine met_rw (Qc := fun A => va_Qi _ (PST D _ A) A) rfl (Nat.le_of_ble_eq_true rfl) ?_
  intro pX eX sX mX bX mtX cX A hAe hC hA hP0 hD0 hS0 ls0 hl0 TG hTG
  clear hAe
  obtain ⟨hx, hb, hr, hml, hown, hts, hlocks, hin, hK⟩ := hC
  have hown : sX.vm.findClass RX6 = some mX.cls := hown
  have hl0 : lv_has ls0 2 [(0, .ref (q 0)), (1, .int so)] := hl0
  refine lv_aload_n hx hb dX6_fails_0 rfl (lv_at hl0 0 rfl) ?_
  refine lv_iload_n hx hb dX6_fails_1 rfl (lv_at hl0 1 rfl) ?_
  refine r_put (own := RX6) (C := RX6) (F := TX6) (N := 12) (ci := 6) (v := so) hx hb hK hts in_X6 tyX6 tyX6_ok nmX6 hown hP0 hD0 hS0 0 rfl rfl 6 (by decide) kw_676 rfl rfl (Nat.le_of_ble_eq_true rfl) dX6_fails_2 (fun (H1 : Heap) (locs1 : List Loc) (hP1 : va_P D vwCl (fl [mO q (nI kp) (nI ty) so (nI at_) isF op]) H1) (hD1 : va_D A (fl [mO q (nI kp) (nI ty) so (nI at_) isF op])) hS1 => ?_)
  clear hP0 hD0 hS0
  refine lv_iconst (v := nI 0) hx hb dX6_fails_5 (by decide) ?_
  refine ret_i hTG (Nat.le_refl _) (Nat.le_refl _) hx hb hr hlocks ((so)) hP1 hD1 hS1 [0] rfl (by decide) dX6_fails_6 ?_
  first | rfl | trivial
set_option maxHeartbeats 4000000 in
set_option maxRecDepth 100000 in
theorem c_X6_changes (l : Launch) (D : va_G) (T : TI) (q : Nat → Nat) (kp : Nat) (ty : Nat) (th : Int32) (at_ : Nat) (isF : Bool) (op : Int32) (now : Nat → Int32) (k : Nat) (v : Int32) (hk : k < 111) : CI l yX6_changes cX6_changes 4 .int (rmD 0 0 0) D T [.ref (q 0), .int (nI k), .int v] [mO q (nI kp) (nI ty) th (nI at_) isF op, aW T 0 (q 1) 111 now] 0 0 (β := Nat → Int32) (fun (now2 : Nat → Int32) => [mO q (nI kp) (nI ty) th (nI at_) isF op, aW T 0 (q 1) 111 now2]) (fun (r : Int32) (now2 : Nat → Int32) => r = now k ∧ (upd now k v = now2)) := by
  intro sz
  refine met_rw (Qc := fun A => va_Qi _ (PST D _ A) A) rfl (Nat.le_of_ble_eq_true rfl) ?_
  intro pX eX sX mX bX mtX cX A hAe hC hA hP0 hD0 hS0 ls0 hl0 TG hTG
  clear hAe
  obtain ⟨hx, hb, hr, hml, hown, hts, hlocks, hin, hK⟩ := hC
  have hown : sX.vm.findClass RX6 = some mX.cls := hown
  have hl0 : lv_has ls0 4 [(0, .ref (q 0)), (1, .int (nI k)), (2, .int v)] := hl0
  refine lv_aload_n hx hb dX6_changes_0 rfl (lv_at hl0 0 rfl) ?_
  refine r_get (own := RX6) (C := RX6) (F := TX6) (N := 12) (ci := 6) (v := .ref (q 1)) hx hb hK hts in_X6 hown hP0 0 rfl rfl 0 (by decide) kw_670 rfl dX6_changes_1 ?_
  refine lv_iload_n hx hb dX6_changes_4 rfl (lv_at hl0 1 rfl) ?_
  refine r_iald hx hb hK hP0 1 (f := now) (n := 111) rfl k (by decide) dX6_changes_5 (by omega) ?_
  refine lv_istore_n (lv' := [(3, .int (now k)), (0, .ref (q 0)), (1, .int (nI k)), (2, .int v)]) hx hb dX6_changes_6 rfl hl0 (by decide) rfl (fun ls1 hl1 => ?_)
  clear hl0
  refine lv_aload_n hx hb dX6_changes_7 rfl (lv_at hl1 1 rfl) ?_
  refine r_get (own := RX6) (C := RX6) (F := TX6) (N := 12) (ci := 6) (v := .ref (q 1)) hx hb hK hts in_X6 hown hP0 0 rfl rfl 0 (by decide) kw_670 rfl dX6_changes_8 ?_
  refine lv_iload_n hx hb dX6_changes_11 rfl (lv_at hl1 2 rfl) ?_
  refine lv_iload_n hx hb dX6_changes_12 rfl (lv_at hl1 3 rfl) ?_
  refine r_iast hx hb hK hP0 hD0 hS0 1 (f := now) (n := 111) rfl k (by decide) dX6_changes_13 (by omega) (fun (H2 : Heap) (locs2 : List Loc) (hP2 : va_P D vwCl (fl [mO q (nI kp) (nI ty) th (nI at_) isF op, aW T 0 (q 1) 111 (upd now k v)]) H2) (hD2 : va_D A (fl [mO q (nI kp) (nI ty) th (nI at_) isF op, aW T 0 (q 1) 111 (upd now k v)])) hS2 => ?_)
  clear hP0 hD0 hS0
  refine lv_iload_n hx hb dX6_changes_14 rfl (lv_at hl1 0 rfl) ?_
  refine ret_i hTG (Nat.le_refl _) (Nat.le_refl _) hx hb hr hlocks (((upd now k v))) hP2 hD2 hS2 [0, 1] rfl (by decide) dX6_changes_15 ?_
  first | rfl | trivial
set_option maxHeartbeats 4000000 in
set_option maxRecDepth 100000 in
theorem c_X6_saves (l : Launch) (D : va_G) (T : TI) (q : Nat → Nat) (kp : Nat) (ty : Nat) (th : Int32) (at_ : Nat) (isF : Bool) (op : Int32) (now : Nat → Int32) (past : Nat → Int32) (hkp : kp ≤ 6) : CV l yX6_saves cX6_saves 2 (rmD 1 0 0) D T [.ref (q 0)] [mO q (nI kp) (nI ty) th (nI at_) isF op, aW T 0 (q 1) 111 now, aW T 0 (q 3) 666 past] 0 0 (β := (Nat → Int32) × Nat) (fun ⟨past2, kp2⟩ => [mO q (nI kp2) (nI ty) th (nI at_) isF op, aW T 0 (q 1) 111 now, aW T 0 (q 3) 666 past2]) (fun ⟨past2, kp2⟩ => svP now past kp = past2 ∧ svK kp = kp2) := by
  intro sz
  refine met_rw (Qc := fun A => va_Qv _ (PST D _ A) A) rfl (Nat.le_of_ble_eq_true rfl) ?_
  intro pX eX sX mX bX mtX cX A hAe hC hA hP0 hD0 hS0 ls0 hl0 TG hTG
  clear hAe
  obtain ⟨hx, hb, hr, hml, hown, hts, hlocks, hin, hK⟩ := hC
  have hown : sX.vm.findClass RX6 = some mX.cls := hown
  have hl0 : lv_has ls0 2 [(0, .ref (q 0))] := hl0
  refine lv_aload_n hx hb dX6_saves_0 rfl (lv_at hl0 0 rfl) ?_
  refine r_get (own := RX6) (C := RX6) (F := TX6) (N := 12) (ci := 6) (v := .int (nI kp)) hx hb hK hts in_X6 hown hP0 0 rfl rfl 3 (by decide) kw_673 rfl dX6_saves_1 ?_
  refine lv_bipush (v := nI 6) hx hb dX6_saves_4 (by decide) ?_
  refine n_icmp_ne (tgt := 49) hx hb (by omega) (by omega) dX6_saves_6 (by decide) (fun c_6 => ?_) (fun c_6 => ?_)
  · skip
    refine lv_aload_n hx hb dX6_saves_49 rfl (lv_at hl0 0 rfl) ?_
    refine r_get (own := RX6) (C := RX6) (F := TX6) (N := 12) (ci := 6) (v := .ref (q 1)) hx hb hK hts in_X6 hown hP0 0 rfl rfl 0 (by decide) kw_670 rfl dX6_saves_50 ?_
    refine lv_iconst (v := nI 0) hx hb dX6_saves_53 (by decide) ?_
    refine lv_aload_n hx hb dX6_saves_54 rfl (lv_at hl0 0 rfl) ?_
    refine r_get (own := RX6) (C := RX6) (F := TX6) (N := 12) (ci := 6) (v := .ref (q 3)) hx hb hK hts in_X6 hown hP0 0 rfl rfl 2 (by decide) kw_672 rfl dX6_saves_55 ?_
    refine lv_bipush (v := nI 111) hx hb dX6_saves_58 (by decide) ?_
    refine lv_aload_n hx hb dX6_saves_60 rfl (lv_at hl0 0 rfl) ?_
    refine r_get (own := RX6) (C := RX6) (F := TX6) (N := 12) (ci := 6) (v := .int (nI kp)) hx hb hK hts in_X6 hown hP0 0 rfl rfl 3 (by decide) kw_673 rfl dX6_saves_61 ?_
    refine lv_imul hx hb dX6_saves_64 ?_
    refine tp_i (y := nI (111 * kp)) (pk_mul _ _) ?_
    have hPc2 : va_P D vwCl (fl [aW T 0 (q 1) 111 now, aW T 0 (q 3) 666 past]) _ := flP_sub hP0 [1, 2] rfl
    have hDc2 : va_D A (fl [aW T 0 (q 1) 111 now, aW T 0 (q 3) 666 past]) := flD_sub hD0 [1, 2] (by decide) rfl
    refine cl_v (br := [mO q (nI kp) (nI ty) th (nI at_) isF op]) (va_runS (As := [.ref (q 1), .int (nI 0), .ref (q 3), .int (nI (111 * kp))]) (rest := []) ⟨hx, hb, hml, hown, hts⟩ (c_X6_copies l D T (q 1) 111 now 0 (q 3) 666 past (111 * kp) (by omega) (by omega) (by omega) (by omega) _) (mkS hts okX6_copies kw_719 kw_720 ⟨rfl, rfl, Nat.le_of_ble_eq_true rfl, Nat.le_of_ble_eq_true rfl⟩) (ps_rw hK hPc2 hDc2) rfl rfl hl0.1 rfl (lv_room (Nat.le_of_ble_eq_true rfl)) dX6_saves_65 ⟨Nat.le_of_ble_eq_true rfl, Nat.le_of_ble_eq_true rfl⟩) hP0 hD0 hS0 hA [0] [1, 2] rfl (by decide) (fun g2_65 H3 locs3 hq_65 hP3 hD3 hS3 => ?_)
    clear hP0 hD0 hS0 hPc2 hDc2
    have hP3 : va_P D vwCl (fl [mO q (nI kp) (nI ty) th (nI at_) isF op, aW T 0 (q 1) 111 now, aW T 0 (q 3) 666 g2_65]) _ := hP3
    have hD3 : va_D A (fl [mO q (nI kp) (nI ty) th (nI at_) isF op, aW T 0 (q 1) 111 now, aW T 0 (q 3) 666 g2_65]) := hD3
    have hq_65 : va_cpy now past 0 (111 * kp) 111 = g2_65 := hq_65
    have hu_g2_65 : va_cpy now past 0 (111 * kp) 111 = g2_65 := hq_65
    subst hu_g2_65
    refine lv_aload_n hx hb dX6_saves_68 rfl (lv_at hl0 0 rfl) ?_
    refine lv_dup hx hb dX6_saves_69 rfl ?_
    refine r_get (own := RX6) (C := RX6) (F := TX6) (N := 12) (ci := 6) (v := .int (nI kp)) hx hb hK hts in_X6 hown hP3 0 rfl rfl 3 (by decide) kw_673 rfl dX6_saves_70 ?_
    refine lv_iconst (v := nI 1) hx hb dX6_saves_73 (by decide) ?_
    refine lv_iadd hx hb dX6_saves_74 ?_
    refine tp_i (y := nI (kp + 1)) (nI_add _ _) ?_
    refine r_put (own := RX6) (C := RX6) (F := TX6) (N := 12) (ci := 6) (v := nI (kp + 1)) hx hb hK hts in_X6 tyX6 tyX6_ok nmX6 hown hP3 hD3 hS3 0 rfl rfl 3 (by decide) kw_673 rfl rfl (Nat.le_of_ble_eq_true rfl) dX6_saves_75 (fun (H4 : Heap) (locs4 : List Loc) (hP4 : va_P D vwCl (fl [mO q (nI (kp + 1)) (nI ty) th (nI at_) isF op, aW T 0 (q 1) 111 now, aW T 0 (q 3) 666 (va_cpy now past 0 (111 * kp) 111)]) H4) (hD4 : va_D A (fl [mO q (nI (kp + 1)) (nI ty) th (nI at_) isF op, aW T 0 (q 1) 111 now, aW T 0 (q 3) 666 (va_cpy now past 0 (111 * kp) 111)])) hS4 => ?_)
    clear hP3 hD3 hS3
    refine ret_v hTG (Nat.le_refl _) (Nat.le_refl _) hx hb hr hlocks (((va_cpy now past 0 (111 * kp) 111), (kp + 1))) hP4 hD4 hS4 [0, 1, 2] rfl (by decide) dX6_saves_78 ?_
    first | exact ⟨by simp only [svP, c_6, if_true, ↓reduceIte], by simp only [svK, c_6, if_true, ↓reduceIte]⟩ | exact ⟨rfl, rfl⟩
  · skip
    subst c_6
    refine lv_iconst (v := nI 0) hx hb dX6_saves_9 (by decide) ?_
    refine lv_istore_n (lv' := [(1, .int (nI 0)), (0, .ref (q 0))]) hx hb dX6_saves_10 rfl hl0 (by decide) rfl (fun ls5 hl5 => ?_)
    clear hl0
    have loop11 : ∀ (n_ : Nat) (k : Nat) (p1 : Nat → Int32), (k ≤ 555) → (p1 = shP past k) → (555 - k) < n_ → ∀ (H : Heap) (locs : List Loc), va_P D vwCl (fl [mO q (nI 6) (nI ty) th (nI at_) isF op, aW T 0 (q 1) 111 now, aW T 0 (q 3) 666 p1]) H → va_D A (fl [mO q (nI 6) (nI ty) th (nI at_) isF op, aW T 0 (q 1) 111 now, aW T 0 (q 3) 666 p1]) → va_S A sX.heap H locs → ∀ ls : Array Slot, lv_has ls 2 [(0, .ref (q 0)), (1, .int (nI k))] → W pX l eX (rmD 1 0 0) sX mX ([.ref (q 0)] : List Value).toArray bX mtX cX H locs 0 0 TG (F0 mX 11 ls []) := by
      intro n_
      induction n_ with
      | zero => intro k p1 hk hp hmu_ ; exact absurd hmu_ (Nat.not_lt_zero _)
      | succ n_ ih11 =>
        intro k p1 hk hp hmu_11 H7 locs7 hP7 hD7 hS7 ls7 hl7
        refine lv_iload_n hx hb dX6_saves_11 rfl (lv_at hl7 1 rfl) ?_
        refine lv_sipush (v := nI 555) hx hb dX6_saves_12 (by decide) ?_
        refine n_icmp_ge (tgt := 39) hx hb (by omega) (by omega) dX6_saves_15 (by decide) (fun c_15 => ?_) (fun c_15 => ?_)
        · skip
          have hk2 : k = 555 := by omega
          subst hk2
          subst hp
          refine lv_aload_n hx hb dX6_saves_39 rfl (lv_at hl7 0 rfl) ?_
          refine lv_dup hx hb dX6_saves_40 rfl ?_
          refine r_get (own := RX6) (C := RX6) (F := TX6) (N := 12) (ci := 6) (v := .int (nI 6)) hx hb hK hts in_X6 hown hP7 0 rfl rfl 3 (by decide) kw_673 rfl dX6_saves_41 ?_
          refine lv_iconst (v := nI 1) hx hb dX6_saves_44 (by decide) ?_
          refine lv_isub hx hb dX6_saves_45 ?_
          refine tp_i (y := nI 5) (by decide) ?_
          refine r_put (own := RX6) (C := RX6) (F := TX6) (N := 12) (ci := 6) (v := nI 5) hx hb hK hts in_X6 tyX6 tyX6_ok nmX6 hown hP7 hD7 hS7 0 rfl rfl 3 (by decide) kw_673 rfl rfl (Nat.le_of_ble_eq_true rfl) dX6_saves_46 (fun (H9 : Heap) (locs9 : List Loc) (hP9 : va_P D vwCl (fl [mO q (nI 5) (nI ty) th (nI at_) isF op, aW T 0 (q 1) 111 now, aW T 0 (q 3) 666 (shP past 555)]) H9) (hD9 : va_D A (fl [mO q (nI 5) (nI ty) th (nI at_) isF op, aW T 0 (q 1) 111 now, aW T 0 (q 3) 666 (shP past 555)])) hS9 => ?_)
          clear hP7 hD7 hS7
          refine lv_aload_n hx hb dX6_saves_49 rfl (lv_at hl7 0 rfl) ?_
          refine r_get (own := RX6) (C := RX6) (F := TX6) (N := 12) (ci := 6) (v := .ref (q 1)) hx hb hK hts in_X6 hown hP9 0 rfl rfl 0 (by decide) kw_670 rfl dX6_saves_50 ?_
          refine lv_iconst (v := nI 0) hx hb dX6_saves_53 (by decide) ?_
          refine lv_aload_n hx hb dX6_saves_54 rfl (lv_at hl7 0 rfl) ?_
          refine r_get (own := RX6) (C := RX6) (F := TX6) (N := 12) (ci := 6) (v := .ref (q 3)) hx hb hK hts in_X6 hown hP9 0 rfl rfl 2 (by decide) kw_672 rfl dX6_saves_55 ?_
          refine lv_bipush (v := nI 111) hx hb dX6_saves_58 (by decide) ?_
          refine lv_aload_n hx hb dX6_saves_60 rfl (lv_at hl7 0 rfl) ?_
          refine r_get (own := RX6) (C := RX6) (F := TX6) (N := 12) (ci := 6) (v := .int (nI 5)) hx hb hK hts in_X6 hown hP9 0 rfl rfl 3 (by decide) kw_673 rfl dX6_saves_61 ?_
          refine lv_imul hx hb dX6_saves_64 ?_
          refine tp_i (y := nI 555) (by decide) ?_
          have hPc10 : va_P D vwCl (fl [aW T 0 (q 1) 111 now, aW T 0 (q 3) 666 (shP past 555)]) _ := flP_sub hP9 [1, 2] rfl
          have hDc10 : va_D A (fl [aW T 0 (q 1) 111 now, aW T 0 (q 3) 666 (shP past 555)]) := flD_sub hD9 [1, 2] (by decide) rfl
          refine cl_v (br := [mO q (nI 5) (nI ty) th (nI at_) isF op]) (va_runS (As := [.ref (q 1), .int (nI 0), .ref (q 3), .int (nI 555)]) (rest := []) ⟨hx, hb, hml, hown, hts⟩ (c_X6_copies l D T (q 1) 111 now 0 (q 3) 666 (shP past 555) 555 (by omega) (by omega) (by omega) (by omega) _) (mkS hts okX6_copies kw_719 kw_720 ⟨rfl, rfl, Nat.le_of_ble_eq_true rfl, Nat.le_of_ble_eq_true rfl⟩) (ps_rw hK hPc10 hDc10) rfl rfl hl7.1 rfl (lv_room (Nat.le_of_ble_eq_true rfl)) dX6_saves_65 ⟨Nat.le_of_ble_eq_true rfl, Nat.le_of_ble_eq_true rfl⟩) hP9 hD9 hS9 hA [0] [1, 2] rfl (by decide) (fun g2_65 H11 locs11 hq_65 hP11 hD11 hS11 => ?_)
          clear hP9 hD9 hS9 hPc10 hDc10
          have hP11 : va_P D vwCl (fl [mO q (nI 5) (nI ty) th (nI at_) isF op, aW T 0 (q 1) 111 now, aW T 0 (q 3) 666 g2_65]) _ := hP11
          have hD11 : va_D A (fl [mO q (nI 5) (nI ty) th (nI at_) isF op, aW T 0 (q 1) 111 now, aW T 0 (q 3) 666 g2_65]) := hD11
          have hq_65 : va_cpy now (shP past 555) 0 555 111 = g2_65 := hq_65
          have hu_g2_65 : va_cpy now (shP past 555) 0 555 111 = g2_65 := hq_65
          subst hu_g2_65
          refine lv_aload_n hx hb dX6_saves_68 rfl (lv_at hl7 0 rfl) ?_
          refine lv_dup hx hb dX6_saves_69 rfl ?_
          refine r_get (own := RX6) (C := RX6) (F := TX6) (N := 12) (ci := 6) (v := .int (nI 5)) hx hb hK hts in_X6 hown hP11 0 rfl rfl 3 (by decide) kw_673 rfl dX6_saves_70 ?_
          refine lv_iconst (v := nI 1) hx hb dX6_saves_73 (by decide) ?_
          refine lv_iadd hx hb dX6_saves_74 ?_
          refine tp_i (y := nI 6) (by decide) ?_
          refine r_put (own := RX6) (C := RX6) (F := TX6) (N := 12) (ci := 6) (v := nI 6) hx hb hK hts in_X6 tyX6 tyX6_ok nmX6 hown hP11 hD11 hS11 0 rfl rfl 3 (by decide) kw_673 rfl rfl (Nat.le_of_ble_eq_true rfl) dX6_saves_75 (fun (H12 : Heap) (locs12 : List Loc) (hP12 : va_P D vwCl (fl [mO q (nI 6) (nI ty) th (nI at_) isF op, aW T 0 (q 1) 111 now, aW T 0 (q 3) 666 (va_cpy now (shP past 555) 0 555 111)]) H12) (hD12 : va_D A (fl [mO q (nI 6) (nI ty) th (nI at_) isF op, aW T 0 (q 1) 111 now, aW T 0 (q 3) 666 (va_cpy now (shP past 555) 0 555 111)])) hS12 => ?_)
          clear hP11 hD11 hS11
          refine ret_v hTG (Nat.le_refl _) (Nat.le_refl _) hx hb hr hlocks (((va_cpy now (shP past 555) 0 555 111), 6)) hP12 hD12 hS12 [0, 1, 2] rfl (by decide) dX6_saves_78 ?_
          first | exact ⟨by simp only [svP, c_15, if_true, ↓reduceIte], by simp only [svK, c_15, if_true, ↓reduceIte]⟩ | exact ⟨rfl, rfl⟩
        · skip
          refine lv_aload_n hx hb dX6_saves_18 rfl (lv_at hl7 0 rfl) ?_
          refine r_get (own := RX6) (C := RX6) (F := TX6) (N := 12) (ci := 6) (v := .ref (q 3)) hx hb hK hts in_X6 hown hP7 0 rfl rfl 2 (by decide) kw_672 rfl dX6_saves_19 ?_
          refine lv_iload_n hx hb dX6_saves_22 rfl (lv_at hl7 1 rfl) ?_
          refine lv_aload_n hx hb dX6_saves_23 rfl (lv_at hl7 0 rfl) ?_
          refine r_get (own := RX6) (C := RX6) (F := TX6) (N := 12) (ci := 6) (v := .ref (q 3)) hx hb hK hts in_X6 hown hP7 0 rfl rfl 2 (by decide) kw_672 rfl dX6_saves_24 ?_
          refine lv_iload_n hx hb dX6_saves_27 rfl (lv_at hl7 1 rfl) ?_
          refine lv_bipush (v := nI 111) hx hb dX6_saves_28 (by decide) ?_
          refine lv_iadd hx hb dX6_saves_30 ?_
          refine tp_i (y := nI (k + 111)) (nI_add _ _) ?_
          refine r_iald hx hb hK hP7 2 (f := p1) (n := 666) rfl (k + 111) (by decide) dX6_saves_31 (by omega) ?_
          refine r_iast hx hb hK hP7 hD7 hS7 2 (f := p1) (n := 666) rfl k (by decide) dX6_saves_32 (by omega) (fun (H13 : Heap) (locs13 : List Loc) (hP13 : va_P D vwCl (fl [mO q (nI 6) (nI ty) th (nI at_) isF op, aW T 0 (q 1) 111 now, aW T 0 (q 3) 666 (upd p1 k (p1 (k + 111)))]) H13) (hD13 : va_D A (fl [mO q (nI 6) (nI ty) th (nI at_) isF op, aW T 0 (q 1) 111 now, aW T 0 (q 3) 666 (upd p1 k (p1 (k + 111)))])) hS13 => ?_)
          clear hP7 hD7 hS7
          refine lv_iinc (v := nI (k + 1)) (lv' := [(1, .int (nI (k + 1))), (0, .ref (q 0))]) hx hb dX6_saves_33 hl7 (k := 1) rfl (nI_add k 1) (by decide) rfl (fun ls14 hl14 => ?_)
          clear hl7
          refine lv_goto (tgt := 11) hx hb dX6_saves_36 (by decide) ?_
          exact ih11 (k + 1) (upd p1 k (p1 (k + 111))) (by omega) (by rw [hp, shP_s]) (by omega) _ _ hP13 hD13 hS13 _ (lv_sub hl14 [1, 0] rfl)
    exact loop11 ((555 - 0) + 1) 0 past (by omega) ((shP_0 _).symm) (Nat.lt_succ_self _) _ _ hP0 hD0 hS0 _ (lv_sub hl5 [1, 0] rfl)
set_option maxHeartbeats 4000000 in
set_option maxRecDepth 100000 in
theorem c_X6_pressure (l : Launch) (D : va_G) (T : TI) (q : Nat → Nat) (kp : Nat) (ty : Nat) (th : Int32) (at_ : Nat) (isF : Bool) (op : Int32) (now : Nat → Int32) (thn : Nat → Int32) (past : Nat → Int32) (txt : Nat → Int32) (told : Nat → Int32) (wh : Nat → Int32) (zn : Int32) (p : Int32) (hkp : kp ≤ 6) : CI l yX6_pressure cX6_pressure 3 .int (rmD 2 0 0) D T [.ref (q 0), .int zn, .int p] [mO q (nI kp) (nI ty) th (nI at_) isF op, aW T 0 (q 1) 111 now, aW T 0 (q 2) 111 thn, aW T 0 (q 3) 666 past, aW T 0 (q 4) 60 txt, aW T 0 (q 5) 27 told, aW T 0 (q 6) 3 wh] 0 0 (β := Int32 × (Nat → Int32) × (Nat → Int32) × Nat) (fun ⟨th2, now2, past2, kp2⟩ => [mO q (nI kp2) (nI ty) th2 (nI at_) isF op, aW T 0 (q 1) 111 now2, aW T 0 (q 2) 111 thn, aW T 0 (q 3) 666 past2, aW T 0 (q 4) 60 txt, aW T 0 (q 5) 27 told, aW T 0 (q 6) 3 wh]) (fun (r : Int32) ⟨th2, now2, past2, kp2⟩ => (r, th2, now2, past2, kp2) = pressureP zn p now past kp) := by
  intro sz
  refine met_rw (Qc := fun A => va_Qi _ (PST D _ A) A) rfl (Nat.le_of_ble_eq_true rfl) ?_
  intro pX eX sX mX bX mtX cX A hAe hC hA hP0 hD0 hS0 ls0 hl0 TG hTG
  clear hAe
  obtain ⟨hx, hb, hr, hml, hown, hts, hlocks, hin, hK⟩ := hC
  have hown : sX.vm.findClass RX6 = some mX.cls := hown
  have hl0 : lv_has ls0 3 [(0, .ref (q 0)), (1, .int zn), (2, .int p)] := hl0
  refine lv_aload_n hx hb dX6_pressure_0 rfl (lv_at hl0 0 rfl) ?_
  refine lv_iconst (v := nI 0) hx hb dX6_pressure_1 (by decide) ?_
  refine r_put (own := RX6) (C := RX6) (F := TX6) (N := 12) (ci := 6) (v := nI 0) hx hb hK hts in_X6 tyX6 tyX6_ok nmX6 hown hP0 hD0 hS0 0 rfl rfl 6 (by decide) kw_676 rfl rfl (Nat.le_of_ble_eq_true rfl) dX6_pressure_2 (fun (H1 : Heap) (locs1 : List Loc) (hP1 : va_P D vwCl (fl [mO q (nI kp) (nI ty) (nI 0) (nI at_) isF op, aW T 0 (q 1) 111 now, aW T 0 (q 2) 111 thn, aW T 0 (q 3) 666 past, aW T 0 (q 4) 60 txt, aW T 0 (q 5) 27 told, aW T 0 (q 6) 3 wh]) H1) (hD1 : va_D A (fl [mO q (nI kp) (nI ty) (nI 0) (nI at_) isF op, aW T 0 (q 1) 111 now, aW T 0 (q 2) 111 thn, aW T 0 (q 3) 666 past, aW T 0 (q 4) 60 txt, aW T 0 (q 5) 27 told, aW T 0 (q 6) 3 wh])) hS1 => ?_)
  clear hP0 hD0 hS0
  refine lv_iload_n hx hb dX6_pressure_5 rfl (lv_at hl0 1 rfl) ?_
  refine lv_iconst (v := nI 0) hx hb dX6_pressure_6 (by decide) ?_
  refine lv_iconst (v := nI 2) hx hb dX6_pressure_7 (by decide) ?_
  have hPc2 : va_P D vwCl (fl []) _ := hP1.sub [] rfl
  refine cr_i (va_runS (As := [.int zn, .int (nI 0), .int (nI 2)]) (rest := []) ⟨hx, hb, hml, hown, hts⟩ (c_X6_in l D T zn (nI 0) (nI 2) ) (mkS hts okX6_in kw_726 kw_727 ⟨rfl, rfl, Nat.le_of_ble_eq_true rfl, Nat.le_of_ble_eq_true rfl⟩) (ps_ro hK hPc2) rfl rfl hl0.1 rfl (lv_room (Nat.le_of_ble_eq_true rfl)) dX6_pressure_8 ⟨Nat.le_of_ble_eq_true rfl, Nat.le_of_ble_eq_true rfl⟩) hP1 hS1 (fun r_8 H3 locs3 hq_8 hP3 hS3 => ?_)
  clear hP1 hS1 hPc2
  have hD3 := hD1
  clear hD1
  have hq_8 : r_8 = bI (inB zn (nI 0) (nI 2)) := hq_8
  subst hq_8
  refine z_if_ne (tgt := 20) hx hb dX6_pressure_11 (by decide) (fun c_11 => ?_) (fun c_11 => ?_)
  · skip
    obtain ⟨z, hz, rfl⟩ := inB_t c_11 (by decide)
    refine lv_iload_n hx hb dX6_pressure_20 rfl (lv_at hl0 2 rfl) ?_
    refine lv_iconst (v := nI 0) hx hb dX6_pressure_21 (by decide) ?_
    refine lv_bipush (v := nI 99) hx hb dX6_pressure_22 (by decide) ?_
    have hPc5 : va_P D vwCl (fl []) _ := hP3.sub [] rfl
    refine cr_i (va_runS (As := [.int p, .int (nI 0), .int (nI 99)]) (rest := []) ⟨hx, hb, hml, hown, hts⟩ (c_X6_in l D T p (nI 0) (nI 99) ) (mkS hts okX6_in kw_726 kw_727 ⟨rfl, rfl, Nat.le_of_ble_eq_true rfl, Nat.le_of_ble_eq_true rfl⟩) (ps_ro hK hPc5) rfl rfl hl0.1 rfl (lv_room (Nat.le_of_ble_eq_true rfl)) dX6_pressure_24 ⟨Nat.le_of_ble_eq_true rfl, Nat.le_of_ble_eq_true rfl⟩) hP3 hS3 (fun r_24 H6 locs6 hq_24 hP6 hS6 => ?_)
    clear hP3 hS3 hPc5
    have hD6 := hD3
    clear hD3
    have hq_24 : r_24 = bI (inB p (nI 0) (nI 99)) := hq_24
    subst hq_24
    refine z_if_ne (tgt := 36) hx hb dX6_pressure_27 (by decide) (fun c_27 => ?_) (fun c_27 => ?_)
    · skip
      refine lv_aload_n hx hb dX6_pressure_36 rfl (lv_at hl0 0 rfl) ?_
      have hPc8 : va_P D vwCl (fl [mO q (nI kp) (nI ty) (nI 0) (nI at_) isF op, aW T 0 (q 1) 111 now, aW T 0 (q 3) 666 past]) _ := flP_sub hP6 [0, 1, 3] rfl
      have hDc8 : va_D A (fl [mO q (nI kp) (nI ty) (nI 0) (nI at_) isF op, aW T 0 (q 1) 111 now, aW T 0 (q 3) 666 past]) := flD_sub hD6 [0, 1, 3] (by decide) rfl
      refine cl_v (br := [aW T 0 (q 2) 111 thn, aW T 0 (q 4) 60 txt, aW T 0 (q 5) 27 told, aW T 0 (q 6) 3 wh]) (va_runV (As := []) (rest := []) ⟨hx, hb, hml, hown, hts⟩ (c_X6_saves l D T q kp ty (nI 0) at_ isF op now past (by omega) _) (mkV hts okX6_saves kw_729 kw_731 ks_13 ⟨rfl, rfl, Nat.le_of_ble_eq_true rfl, Nat.le_of_ble_eq_true rfl⟩) (pv_rw hK hPc8 hDc8 (q0 := 0) rfl rfl rfl) rfl rfl hl0.1 rfl (lv_room (Nat.le_of_ble_eq_true rfl)) dX6_pressure_37 ⟨Nat.le_of_ble_eq_true rfl, Nat.le_of_ble_eq_true rfl⟩) hP6 hD6 hS6 hA [2, 4, 5, 6] [0, 1, 3] rfl (by decide) (fun u_37 H9 locs9 hq_37 hP9 hD9 hS9 => ?_)
      clear hP6 hD6 hS6 hPc8 hDc8
      obtain ⟨past2_37, kp2_37⟩ := u_37
      have hP9 : va_P D vwCl (fl [aW T 0 (q 2) 111 thn, aW T 0 (q 4) 60 txt, aW T 0 (q 5) 27 told, aW T 0 (q 6) 3 wh, mO q (nI kp2_37) (nI ty) (nI 0) (nI at_) isF op, aW T 0 (q 1) 111 now, aW T 0 (q 3) 666 past2_37]) _ := hP9
      have hD9 : va_D A (fl [aW T 0 (q 2) 111 thn, aW T 0 (q 4) 60 txt, aW T 0 (q 5) 27 told, aW T 0 (q 6) 3 wh, mO q (nI kp2_37) (nI ty) (nI 0) (nI at_) isF op, aW T 0 (q 1) 111 now, aW T 0 (q 3) 666 past2_37]) := hD9
      have hq_37 : svP now past kp = past2_37 ∧ svK kp = kp2_37 := hq_37
      obtain ⟨hu_past2_37, hu_kp2_37⟩ := hq_37
      subst hu_past2_37
      subst hu_kp2_37
      refine lv_aload_n hx hb dX6_pressure_40 rfl (lv_at hl0 0 rfl) ?_
      refine lv_iconst (v := nI 4) hx hb dX6_pressure_41 (by decide) ?_
      refine lv_iload_n hx hb dX6_pressure_42 rfl (lv_at hl0 1 rfl) ?_
      refine lv_iadd hx hb dX6_pressure_43 ?_
      refine tp_i (y := nI (4 + z)) (nI_add _ _) ?_
      refine lv_iload_n hx hb dX6_pressure_44 rfl (lv_at hl0 2 rfl) ?_
      have hPc10 : va_P D vwCl (fl [mO q (nI (svK kp)) (nI ty) (nI 0) (nI at_) isF op, aW T 0 (q 1) 111 now]) _ := flP_sub hP9 [4, 5] rfl
      have hDc10 : va_D A (fl [mO q (nI (svK kp)) (nI ty) (nI 0) (nI at_) isF op, aW T 0 (q 1) 111 now]) := flD_sub hD9 [4, 5] (by decide) rfl
      refine cl_i (br := [aW T 0 (q 2) 111 thn, aW T 0 (q 4) 60 txt, aW T 0 (q 5) 27 told, aW T 0 (q 6) 3 wh, aW T 0 (q 3) 666 (svP now past kp)]) (va_runV (As := [.int (nI (4 + z)), .int p]) (rest := []) ⟨hx, hb, hml, hown, hts⟩ (c_X6_changes l D T q (svK kp) ty (nI 0) at_ isF op now (4 + z) p (by omega) _) (mkV hts okX6_changes kw_733 kw_735 ks_14 ⟨rfl, rfl, Nat.le_of_ble_eq_true rfl, Nat.le_of_ble_eq_true rfl⟩) (pv_rw hK hPc10 hDc10 (q0 := 0) rfl rfl rfl) rfl rfl hl0.1 rfl (lv_room (Nat.le_of_ble_eq_true rfl)) dX6_pressure_45 ⟨Nat.le_of_ble_eq_true rfl, Nat.le_of_ble_eq_true rfl⟩) hP9 hD9 hS9 hA [0, 1, 2, 3, 6] [4, 5] rfl (by decide) (fun r_45 now2_45 H11 locs11 hq_45 hP11 hD11 hS11 => ?_)
      clear hP9 hD9 hS9 hPc10 hDc10
      have hP11 : va_P D vwCl (fl [aW T 0 (q 2) 111 thn, aW T 0 (q 4) 60 txt, aW T 0 (q 5) 27 told, aW T 0 (q 6) 3 wh, aW T 0 (q 3) 666 (svP now past kp), mO q (nI (svK kp)) (nI ty) (nI 0) (nI at_) isF op, aW T 0 (q 1) 111 now2_45]) _ := hP11
      have hD11 : va_D A (fl [aW T 0 (q 2) 111 thn, aW T 0 (q 4) 60 txt, aW T 0 (q 5) 27 told, aW T 0 (q 6) 3 wh, aW T 0 (q 3) 666 (svP now past kp), mO q (nI (svK kp)) (nI ty) (nI 0) (nI at_) isF op, aW T 0 (q 1) 111 now2_45]) := hD11
      obtain ⟨hr_45, hq_45⟩ : r_45 = now (4 + z) ∧ (upd now (4 + z) p = now2_45) := hq_45
      subst hr_45
      have hu_now2_45 : upd now (4 + z) p = now2_45 := hq_45
      subst hu_now2_45
      refine ret_i hTG (Nat.le_refl _) (Nat.le_refl _) hx hb hr hlocks (((nI 0), (upd now (4 + z) p), (svP now past kp), (svK kp))) hP11 hD11 hS11 [5, 6, 0, 4, 1, 2, 3] rfl (by decide) dX6_pressure_48 ?_
      simp only [pressureP, setR, noR, c_11, c_27, if_true, nIcl (show z < 2147483648 by omega), ↓reduceIte, Bool.false_eq_true] <;> rfl
    · skip
      refine lv_aload_n hx hb dX6_pressure_30 rfl (lv_at hl0 0 rfl) ?_
      refine lv_iconst (v := nI 2) hx hb dX6_pressure_31 (by decide) ?_
      have hPc12 : va_P D vwCl (fl [mO q (nI kp) (nI ty) (nI 0) (nI at_) isF op]) _ := flP_sub hP6 [0] rfl
      have hDc12 : va_D A (fl [mO q (nI kp) (nI ty) (nI 0) (nI at_) isF op]) := flD_sub hD6 [0] (by decide) rfl
      refine cl_i (br := [aW T 0 (q 1) 111 now, aW T 0 (q 2) 111 thn, aW T 0 (q 3) 666 past, aW T 0 (q 4) 60 txt, aW T 0 (q 5) 27 told, aW T 0 (q 6) 3 wh]) (va_runV (As := [.int (nI 2)]) (rest := []) ⟨hx, hb, hml, hown, hts⟩ (c_X6_fails l D T q kp ty (nI 0) at_ isF op (nI 2)  _) (mkV hts okX6_fails kw_715 kw_717 ks_12 ⟨rfl, rfl, Nat.le_of_ble_eq_true rfl, Nat.le_of_ble_eq_true rfl⟩) (pv_rw hK hPc12 hDc12 (q0 := 0) rfl rfl rfl) rfl rfl hl0.1 rfl (lv_room (Nat.le_of_ble_eq_true rfl)) dX6_pressure_32 ⟨Nat.le_of_ble_eq_true rfl, Nat.le_of_ble_eq_true rfl⟩) hP6 hD6 hS6 hA [1, 2, 3, 4, 5, 6] [0] rfl (by decide) (fun r_32 th2_32 H13 locs13 hq_32 hP13 hD13 hS13 => ?_)
      clear hP6 hD6 hS6 hPc12 hDc12
      have hP13 : va_P D vwCl (fl [aW T 0 (q 1) 111 now, aW T 0 (q 2) 111 thn, aW T 0 (q 3) 666 past, aW T 0 (q 4) 60 txt, aW T 0 (q 5) 27 told, aW T 0 (q 6) 3 wh, mO q (nI kp) (nI ty) th2_32 (nI at_) isF op]) _ := hP13
      have hD13 : va_D A (fl [aW T 0 (q 1) 111 now, aW T 0 (q 2) 111 thn, aW T 0 (q 3) 666 past, aW T 0 (q 4) 60 txt, aW T 0 (q 5) 27 told, aW T 0 (q 6) 3 wh, mO q (nI kp) (nI ty) th2_32 (nI at_) isF op]) := hD13
      obtain ⟨hr_32, hq_32⟩ : r_32 = nI 0 ∧ ((nI 2) = th2_32) := hq_32
      subst hr_32
      have hu_th2_32 : (nI 2) = th2_32 := hq_32
      subst hu_th2_32
      refine ret_i hTG (Nat.le_refl _) (Nat.le_refl _) hx hb hr hlocks (((nI 2), now, past, kp)) hP13 hD13 hS13 [6, 0, 1, 2, 3, 4, 5] rfl (by decide) dX6_pressure_35 ?_
      simp only [pressureP, setR, noR, c_11, c_27, if_true, nIcl (show z < 2147483648 by omega), ↓reduceIte, Bool.false_eq_true] <;> rfl
  · skip
    refine lv_aload_n hx hb dX6_pressure_14 rfl (lv_at hl0 0 rfl) ?_
    refine lv_iconst (v := nI 1) hx hb dX6_pressure_15 (by decide) ?_
    have hPc14 : va_P D vwCl (fl [mO q (nI kp) (nI ty) (nI 0) (nI at_) isF op]) _ := flP_sub hP3 [0] rfl
    have hDc14 : va_D A (fl [mO q (nI kp) (nI ty) (nI 0) (nI at_) isF op]) := flD_sub hD3 [0] (by decide) rfl
    refine cl_i (br := [aW T 0 (q 1) 111 now, aW T 0 (q 2) 111 thn, aW T 0 (q 3) 666 past, aW T 0 (q 4) 60 txt, aW T 0 (q 5) 27 told, aW T 0 (q 6) 3 wh]) (va_runV (As := [.int (nI 1)]) (rest := []) ⟨hx, hb, hml, hown, hts⟩ (c_X6_fails l D T q kp ty (nI 0) at_ isF op (nI 1)  _) (mkV hts okX6_fails kw_715 kw_717 ks_12 ⟨rfl, rfl, Nat.le_of_ble_eq_true rfl, Nat.le_of_ble_eq_true rfl⟩) (pv_rw hK hPc14 hDc14 (q0 := 0) rfl rfl rfl) rfl rfl hl0.1 rfl (lv_room (Nat.le_of_ble_eq_true rfl)) dX6_pressure_16 ⟨Nat.le_of_ble_eq_true rfl, Nat.le_of_ble_eq_true rfl⟩) hP3 hD3 hS3 hA [1, 2, 3, 4, 5, 6] [0] rfl (by decide) (fun r_16 th2_16 H15 locs15 hq_16 hP15 hD15 hS15 => ?_)
    clear hP3 hD3 hS3 hPc14 hDc14
    have hP15 : va_P D vwCl (fl [aW T 0 (q 1) 111 now, aW T 0 (q 2) 111 thn, aW T 0 (q 3) 666 past, aW T 0 (q 4) 60 txt, aW T 0 (q 5) 27 told, aW T 0 (q 6) 3 wh, mO q (nI kp) (nI ty) th2_16 (nI at_) isF op]) _ := hP15
    have hD15 : va_D A (fl [aW T 0 (q 1) 111 now, aW T 0 (q 2) 111 thn, aW T 0 (q 3) 666 past, aW T 0 (q 4) 60 txt, aW T 0 (q 5) 27 told, aW T 0 (q 6) 3 wh, mO q (nI kp) (nI ty) th2_16 (nI at_) isF op]) := hD15
    obtain ⟨hr_16, hq_16⟩ : r_16 = nI 0 ∧ ((nI 1) = th2_16) := hq_16
    subst hr_16
    have hu_th2_16 : (nI 1) = th2_16 := hq_16
    subst hu_th2_16
    refine ret_i hTG (Nat.le_refl _) (Nat.le_refl _) hx hb hr hlocks (((nI 1), now, past, kp)) hP15 hD15 hS15 [6, 0, 1, 2, 3, 4, 5] rfl (by decide) dX6_pressure_19 ?_
    simp only [pressureP, noR, c_11, if_true, ↓reduceIte, Bool.false_eq_true] <;> rfl
set_option maxHeartbeats 4000000 in
set_option maxRecDepth 100000 in
theorem c_X6_valve (l : Launch) (D : va_G) (T : TI) (q : Nat → Nat) (kp : Nat) (ty : Nat) (th : Int32) (at_ : Nat) (isF : Bool) (op : Int32) (now : Nat → Int32) (thn : Nat → Int32) (past : Nat → Int32) (txt : Nat → Int32) (told : Nat → Int32) (wh : Nat → Int32) (zn : Int32) (ob : Bool) (hkp : kp ≤ 6) : CI l yX6_valve cX6_valve 3 .int (rmD 2 0 0) D T [.ref (q 0), .int zn, .int (bI ob)] [mO q (nI kp) (nI ty) th (nI at_) isF op, aW T 0 (q 1) 111 now, aW T 0 (q 2) 111 thn, aW T 0 (q 3) 666 past, aW T 0 (q 4) 60 txt, aW T 0 (q 5) 27 told, aW T 0 (q 6) 3 wh] 0 0 (β := Int32 × (Nat → Int32) × (Nat → Int32) × Nat) (fun ⟨th2, now2, past2, kp2⟩ => [mO q (nI kp2) (nI ty) th2 (nI at_) isF op, aW T 0 (q 1) 111 now2, aW T 0 (q 2) 111 thn, aW T 0 (q 3) 666 past2, aW T 0 (q 4) 60 txt, aW T 0 (q 5) 27 told, aW T 0 (q 6) 3 wh]) (fun (r : Int32) ⟨th2, now2, past2, kp2⟩ => (r, th2, now2, past2, kp2) = valveP zn ob now past kp) := by
  intro sz
  refine met_rw (Qc := fun A => va_Qi _ (PST D _ A) A) rfl (Nat.le_of_ble_eq_true rfl) ?_
  intro pX eX sX mX bX mtX cX A hAe hC hA hP0 hD0 hS0 ls0 hl0 TG hTG
  clear hAe
  obtain ⟨hx, hb, hr, hml, hown, hts, hlocks, hin, hK⟩ := hC
  have hown : sX.vm.findClass RX6 = some mX.cls := hown
  have hl0 : lv_has ls0 3 [(0, .ref (q 0)), (1, .int zn), (2, .int (bI ob))] := hl0
  refine lv_aload_n hx hb dX6_valve_0 rfl (lv_at hl0 0 rfl) ?_
  refine lv_iconst (v := nI 0) hx hb dX6_valve_1 (by decide) ?_
  refine r_put (own := RX6) (C := RX6) (F := TX6) (N := 12) (ci := 6) (v := nI 0) hx hb hK hts in_X6 tyX6 tyX6_ok nmX6 hown hP0 hD0 hS0 0 rfl rfl 6 (by decide) kw_676 rfl rfl (Nat.le_of_ble_eq_true rfl) dX6_valve_2 (fun (H1 : Heap) (locs1 : List Loc) (hP1 : va_P D vwCl (fl [mO q (nI kp) (nI ty) (nI 0) (nI at_) isF op, aW T 0 (q 1) 111 now, aW T 0 (q 2) 111 thn, aW T 0 (q 3) 666 past, aW T 0 (q 4) 60 txt, aW T 0 (q 5) 27 told, aW T 0 (q 6) 3 wh]) H1) (hD1 : va_D A (fl [mO q (nI kp) (nI ty) (nI 0) (nI at_) isF op, aW T 0 (q 1) 111 now, aW T 0 (q 2) 111 thn, aW T 0 (q 3) 666 past, aW T 0 (q 4) 60 txt, aW T 0 (q 5) 27 told, aW T 0 (q 6) 3 wh])) hS1 => ?_)
  clear hP0 hD0 hS0
  refine lv_iload_n hx hb dX6_valve_5 rfl (lv_at hl0 1 rfl) ?_
  refine lv_iconst (v := nI 0) hx hb dX6_valve_6 (by decide) ?_
  refine lv_iconst (v := nI 1) hx hb dX6_valve_7 (by decide) ?_
  have hPc2 : va_P D vwCl (fl []) _ := hP1.sub [] rfl
  refine cr_i (va_runS (As := [.int zn, .int (nI 0), .int (nI 1)]) (rest := []) ⟨hx, hb, hml, hown, hts⟩ (c_X6_in l D T zn (nI 0) (nI 1) ) (mkS hts okX6_in kw_726 kw_727 ⟨rfl, rfl, Nat.le_of_ble_eq_true rfl, Nat.le_of_ble_eq_true rfl⟩) (ps_ro hK hPc2) rfl rfl hl0.1 rfl (lv_room (Nat.le_of_ble_eq_true rfl)) dX6_valve_8 ⟨Nat.le_of_ble_eq_true rfl, Nat.le_of_ble_eq_true rfl⟩) hP1 hS1 (fun r_8 H3 locs3 hq_8 hP3 hS3 => ?_)
  clear hP1 hS1 hPc2
  have hD3 := hD1
  clear hD1
  have hq_8 : r_8 = bI (inB zn (nI 0) (nI 1)) := hq_8
  subst hq_8
  refine z_if_ne (tgt := 20) hx hb dX6_valve_11 (by decide) (fun c_11 => ?_) (fun c_11 => ?_)
  · skip
    obtain ⟨z, hz, rfl⟩ := inB_t c_11 (by decide)
    refine lv_aload_n hx hb dX6_valve_20 rfl (lv_at hl0 0 rfl) ?_
    have hPc5 : va_P D vwCl (fl [mO q (nI kp) (nI ty) (nI 0) (nI at_) isF op, aW T 0 (q 1) 111 now, aW T 0 (q 3) 666 past]) _ := flP_sub hP3 [0, 1, 3] rfl
    have hDc5 : va_D A (fl [mO q (nI kp) (nI ty) (nI 0) (nI at_) isF op, aW T 0 (q 1) 111 now, aW T 0 (q 3) 666 past]) := flD_sub hD3 [0, 1, 3] (by decide) rfl
    refine cl_v (br := [aW T 0 (q 2) 111 thn, aW T 0 (q 4) 60 txt, aW T 0 (q 5) 27 told, aW T 0 (q 6) 3 wh]) (va_runV (As := []) (rest := []) ⟨hx, hb, hml, hown, hts⟩ (c_X6_saves l D T q kp ty (nI 0) at_ isF op now past (by omega) _) (mkV hts okX6_saves kw_729 kw_731 ks_13 ⟨rfl, rfl, Nat.le_of_ble_eq_true rfl, Nat.le_of_ble_eq_true rfl⟩) (pv_rw hK hPc5 hDc5 (q0 := 0) rfl rfl rfl) rfl rfl hl0.1 rfl (lv_room (Nat.le_of_ble_eq_true rfl)) dX6_valve_21 ⟨Nat.le_of_ble_eq_true rfl, Nat.le_of_ble_eq_true rfl⟩) hP3 hD3 hS3 hA [2, 4, 5, 6] [0, 1, 3] rfl (by decide) (fun u_21 H6 locs6 hq_21 hP6 hD6 hS6 => ?_)
    clear hP3 hD3 hS3 hPc5 hDc5
    obtain ⟨past2_21, kp2_21⟩ := u_21
    have hP6 : va_P D vwCl (fl [aW T 0 (q 2) 111 thn, aW T 0 (q 4) 60 txt, aW T 0 (q 5) 27 told, aW T 0 (q 6) 3 wh, mO q (nI kp2_21) (nI ty) (nI 0) (nI at_) isF op, aW T 0 (q 1) 111 now, aW T 0 (q 3) 666 past2_21]) _ := hP6
    have hD6 : va_D A (fl [aW T 0 (q 2) 111 thn, aW T 0 (q 4) 60 txt, aW T 0 (q 5) 27 told, aW T 0 (q 6) 3 wh, mO q (nI kp2_21) (nI ty) (nI 0) (nI at_) isF op, aW T 0 (q 1) 111 now, aW T 0 (q 3) 666 past2_21]) := hD6
    have hq_21 : svP now past kp = past2_21 ∧ svK kp = kp2_21 := hq_21
    obtain ⟨hu_past2_21, hu_kp2_21⟩ := hq_21
    subst hu_past2_21
    subst hu_kp2_21
    refine lv_aload_n hx hb dX6_valve_24 rfl (lv_at hl0 0 rfl) ?_
    refine lv_bipush (v := nI 7) hx hb dX6_valve_25 (by decide) ?_
    refine lv_iload_n hx hb dX6_valve_27 rfl (lv_at hl0 1 rfl) ?_
    refine lv_iadd hx hb dX6_valve_28 ?_
    refine tp_i (y := nI (7 + z)) (nI_add _ _) ?_
    refine lv_iload_n hx hb dX6_valve_29 rfl (lv_at hl0 2 rfl) ?_
    refine z_if_eq (tgt := 37) hx hb dX6_valve_30 (by decide) (fun c_30 => ?_) (fun c_30 => ?_)
    · skip
      refine lv_iconst (v := nI 0) hx hb dX6_valve_37 (by decide) ?_
      have hPc8 : va_P D vwCl (fl [mO q (nI (svK kp)) (nI ty) (nI 0) (nI at_) isF op, aW T 0 (q 1) 111 now]) _ := flP_sub hP6 [4, 5] rfl
      have hDc8 : va_D A (fl [mO q (nI (svK kp)) (nI ty) (nI 0) (nI at_) isF op, aW T 0 (q 1) 111 now]) := flD_sub hD6 [4, 5] (by decide) rfl
      refine cl_i (br := [aW T 0 (q 2) 111 thn, aW T 0 (q 4) 60 txt, aW T 0 (q 5) 27 told, aW T 0 (q 6) 3 wh, aW T 0 (q 3) 666 (svP now past kp)]) (va_runV (As := [.int (nI (7 + z)), .int (nI 0)]) (rest := []) ⟨hx, hb, hml, hown, hts⟩ (c_X6_changes l D T q (svK kp) ty (nI 0) at_ isF op now (7 + z) (nI 0) (by omega) _) (mkV hts okX6_changes kw_733 kw_735 ks_14 ⟨rfl, rfl, Nat.le_of_ble_eq_true rfl, Nat.le_of_ble_eq_true rfl⟩) (pv_rw hK hPc8 hDc8 (q0 := 0) rfl rfl rfl) rfl rfl hl0.1 rfl (lv_room (Nat.le_of_ble_eq_true rfl)) dX6_valve_38 ⟨Nat.le_of_ble_eq_true rfl, Nat.le_of_ble_eq_true rfl⟩) hP6 hD6 hS6 hA [0, 1, 2, 3, 6] [4, 5] rfl (by decide) (fun r_38 now2_38 H9 locs9 hq_38 hP9 hD9 hS9 => ?_)
      clear hP6 hD6 hS6 hPc8 hDc8
      have hP9 : va_P D vwCl (fl [aW T 0 (q 2) 111 thn, aW T 0 (q 4) 60 txt, aW T 0 (q 5) 27 told, aW T 0 (q 6) 3 wh, aW T 0 (q 3) 666 (svP now past kp), mO q (nI (svK kp)) (nI ty) (nI 0) (nI at_) isF op, aW T 0 (q 1) 111 now2_38]) _ := hP9
      have hD9 : va_D A (fl [aW T 0 (q 2) 111 thn, aW T 0 (q 4) 60 txt, aW T 0 (q 5) 27 told, aW T 0 (q 6) 3 wh, aW T 0 (q 3) 666 (svP now past kp), mO q (nI (svK kp)) (nI ty) (nI 0) (nI at_) isF op, aW T 0 (q 1) 111 now2_38]) := hD9
      obtain ⟨hr_38, hq_38⟩ : r_38 = now (7 + z) ∧ (upd now (7 + z) (nI 0) = now2_38) := hq_38
      subst hr_38
      have hu_now2_38 : upd now (7 + z) (nI 0) = now2_38 := hq_38
      subst hu_now2_38
      refine ret_i hTG (Nat.le_refl _) (Nat.le_refl _) hx hb hr hlocks (((nI 0), (upd now (7 + z) (nI 0)), (svP now past kp), (svK kp))) hP9 hD9 hS9 [5, 6, 0, 4, 1, 2, 3] rfl (by decide) dX6_valve_41 ?_
      simp only [valveP, setR, noR, c_11, c_30, if_true, nIcl (show z < 2147483648 by omega), ↓reduceIte, Bool.false_eq_true] <;> rfl
    · skip
      refine lv_iconst (v := nI 1) hx hb dX6_valve_33 (by decide) ?_
      refine lv_goto (tgt := 38) hx hb dX6_valve_34 (by decide) ?_
      have hPc10 : va_P D vwCl (fl [mO q (nI (svK kp)) (nI ty) (nI 0) (nI at_) isF op, aW T 0 (q 1) 111 now]) _ := flP_sub hP6 [4, 5] rfl
      have hDc10 : va_D A (fl [mO q (nI (svK kp)) (nI ty) (nI 0) (nI at_) isF op, aW T 0 (q 1) 111 now]) := flD_sub hD6 [4, 5] (by decide) rfl
      refine cl_i (br := [aW T 0 (q 2) 111 thn, aW T 0 (q 4) 60 txt, aW T 0 (q 5) 27 told, aW T 0 (q 6) 3 wh, aW T 0 (q 3) 666 (svP now past kp)]) (va_runV (As := [.int (nI (7 + z)), .int (nI 1)]) (rest := []) ⟨hx, hb, hml, hown, hts⟩ (c_X6_changes l D T q (svK kp) ty (nI 0) at_ isF op now (7 + z) (nI 1) (by omega) _) (mkV hts okX6_changes kw_733 kw_735 ks_14 ⟨rfl, rfl, Nat.le_of_ble_eq_true rfl, Nat.le_of_ble_eq_true rfl⟩) (pv_rw hK hPc10 hDc10 (q0 := 0) rfl rfl rfl) rfl rfl hl0.1 rfl (lv_room (Nat.le_of_ble_eq_true rfl)) dX6_valve_38 ⟨Nat.le_of_ble_eq_true rfl, Nat.le_of_ble_eq_true rfl⟩) hP6 hD6 hS6 hA [0, 1, 2, 3, 6] [4, 5] rfl (by decide) (fun r_38 now2_38 H11 locs11 hq_38 hP11 hD11 hS11 => ?_)
      clear hP6 hD6 hS6 hPc10 hDc10
      have hP11 : va_P D vwCl (fl [aW T 0 (q 2) 111 thn, aW T 0 (q 4) 60 txt, aW T 0 (q 5) 27 told, aW T 0 (q 6) 3 wh, aW T 0 (q 3) 666 (svP now past kp), mO q (nI (svK kp)) (nI ty) (nI 0) (nI at_) isF op, aW T 0 (q 1) 111 now2_38]) _ := hP11
      have hD11 : va_D A (fl [aW T 0 (q 2) 111 thn, aW T 0 (q 4) 60 txt, aW T 0 (q 5) 27 told, aW T 0 (q 6) 3 wh, aW T 0 (q 3) 666 (svP now past kp), mO q (nI (svK kp)) (nI ty) (nI 0) (nI at_) isF op, aW T 0 (q 1) 111 now2_38]) := hD11
      obtain ⟨hr_38, hq_38⟩ : r_38 = now (7 + z) ∧ (upd now (7 + z) (nI 1) = now2_38) := hq_38
      subst hr_38
      have hu_now2_38 : upd now (7 + z) (nI 1) = now2_38 := hq_38
      subst hu_now2_38
      refine ret_i hTG (Nat.le_refl _) (Nat.le_refl _) hx hb hr hlocks (((nI 0), (upd now (7 + z) (nI 1)), (svP now past kp), (svK kp))) hP11 hD11 hS11 [5, 6, 0, 4, 1, 2, 3] rfl (by decide) dX6_valve_41 ?_
      simp only [valveP, setR, noR, c_11, c_30, if_true, nIcl (show z < 2147483648 by omega), ↓reduceIte, Bool.false_eq_true] <;> rfl
  · skip
    refine lv_aload_n hx hb dX6_valve_14 rfl (lv_at hl0 0 rfl) ?_
    refine lv_iconst (v := nI 1) hx hb dX6_valve_15 (by decide) ?_
    have hPc12 : va_P D vwCl (fl [mO q (nI kp) (nI ty) (nI 0) (nI at_) isF op]) _ := flP_sub hP3 [0] rfl
    have hDc12 : va_D A (fl [mO q (nI kp) (nI ty) (nI 0) (nI at_) isF op]) := flD_sub hD3 [0] (by decide) rfl
    refine cl_i (br := [aW T 0 (q 1) 111 now, aW T 0 (q 2) 111 thn, aW T 0 (q 3) 666 past, aW T 0 (q 4) 60 txt, aW T 0 (q 5) 27 told, aW T 0 (q 6) 3 wh]) (va_runV (As := [.int (nI 1)]) (rest := []) ⟨hx, hb, hml, hown, hts⟩ (c_X6_fails l D T q kp ty (nI 0) at_ isF op (nI 1)  _) (mkV hts okX6_fails kw_715 kw_717 ks_12 ⟨rfl, rfl, Nat.le_of_ble_eq_true rfl, Nat.le_of_ble_eq_true rfl⟩) (pv_rw hK hPc12 hDc12 (q0 := 0) rfl rfl rfl) rfl rfl hl0.1 rfl (lv_room (Nat.le_of_ble_eq_true rfl)) dX6_valve_16 ⟨Nat.le_of_ble_eq_true rfl, Nat.le_of_ble_eq_true rfl⟩) hP3 hD3 hS3 hA [1, 2, 3, 4, 5, 6] [0] rfl (by decide) (fun r_16 th2_16 H13 locs13 hq_16 hP13 hD13 hS13 => ?_)
    clear hP3 hD3 hS3 hPc12 hDc12
    have hP13 : va_P D vwCl (fl [aW T 0 (q 1) 111 now, aW T 0 (q 2) 111 thn, aW T 0 (q 3) 666 past, aW T 0 (q 4) 60 txt, aW T 0 (q 5) 27 told, aW T 0 (q 6) 3 wh, mO q (nI kp) (nI ty) th2_16 (nI at_) isF op]) _ := hP13
    have hD13 : va_D A (fl [aW T 0 (q 1) 111 now, aW T 0 (q 2) 111 thn, aW T 0 (q 3) 666 past, aW T 0 (q 4) 60 txt, aW T 0 (q 5) 27 told, aW T 0 (q 6) 3 wh, mO q (nI kp) (nI ty) th2_16 (nI at_) isF op]) := hD13
    obtain ⟨hr_16, hq_16⟩ : r_16 = nI 0 ∧ ((nI 1) = th2_16) := hq_16
    subst hr_16
    have hu_th2_16 : (nI 1) = th2_16 := hq_16
    subst hu_th2_16
    refine ret_i hTG (Nat.le_refl _) (Nat.le_refl _) hx hb hr hlocks (((nI 1), now, past, kp)) hP13 hD13 hS13 [6, 0, 1, 2, 3, 4, 5] rfl (by decide) dX6_valve_19 ?_
    simp only [valveP, noR, c_11, if_true, ↓reduceIte, Bool.false_eq_true] <;> rfl
set_option maxHeartbeats 4000000 in
set_option maxRecDepth 100000 in
theorem c_X6_dirt (l : Launch) (D : va_G) (T : TI) (q : Nat → Nat) (kp : Nat) (ty : Nat) (th : Int32) (at_ : Nat) (isF : Bool) (op : Int32) (now : Nat → Int32) (thn : Nat → Int32) (past : Nat → Int32) (txt : Nat → Int32) (told : Nat → Int32) (wh : Nat → Int32) (zn : Int32) (p : Int32) (hkp : kp ≤ 6) : CI l yX6_dirt cX6_dirt 3 .int (rmD 2 0 0) D T [.ref (q 0), .int zn, .int p] [mO q (nI kp) (nI ty) th (nI at_) isF op, aW T 0 (q 1) 111 now, aW T 0 (q 2) 111 thn, aW T 0 (q 3) 666 past, aW T 0 (q 4) 60 txt, aW T 0 (q 5) 27 told, aW T 0 (q 6) 3 wh] 0 0 (β := Int32 × (Nat → Int32) × (Nat → Int32) × Nat) (fun ⟨th2, now2, past2, kp2⟩ => [mO q (nI kp2) (nI ty) th2 (nI at_) isF op, aW T 0 (q 1) 111 now2, aW T 0 (q 2) 111 thn, aW T 0 (q 3) 666 past2, aW T 0 (q 4) 60 txt, aW T 0 (q 5) 27 told, aW T 0 (q 6) 3 wh]) (fun (r : Int32) ⟨th2, now2, past2, kp2⟩ => (r, th2, now2, past2, kp2) = dirtP zn p now past kp) := by
  intro sz
  refine met_rw (Qc := fun A => va_Qi _ (PST D _ A) A) rfl (Nat.le_of_ble_eq_true rfl) ?_
  intro pX eX sX mX bX mtX cX A hAe hC hA hP0 hD0 hS0 ls0 hl0 TG hTG
  clear hAe
  obtain ⟨hx, hb, hr, hml, hown, hts, hlocks, hin, hK⟩ := hC
  have hown : sX.vm.findClass RX6 = some mX.cls := hown
  have hl0 : lv_has ls0 3 [(0, .ref (q 0)), (1, .int zn), (2, .int p)] := hl0
  refine lv_aload_n hx hb dX6_dirt_0 rfl (lv_at hl0 0 rfl) ?_
  refine lv_iconst (v := nI 0) hx hb dX6_dirt_1 (by decide) ?_
  refine r_put (own := RX6) (C := RX6) (F := TX6) (N := 12) (ci := 6) (v := nI 0) hx hb hK hts in_X6 tyX6 tyX6_ok nmX6 hown hP0 hD0 hS0 0 rfl rfl 6 (by decide) kw_676 rfl rfl (Nat.le_of_ble_eq_true rfl) dX6_dirt_2 (fun (H1 : Heap) (locs1 : List Loc) (hP1 : va_P D vwCl (fl [mO q (nI kp) (nI ty) (nI 0) (nI at_) isF op, aW T 0 (q 1) 111 now, aW T 0 (q 2) 111 thn, aW T 0 (q 3) 666 past, aW T 0 (q 4) 60 txt, aW T 0 (q 5) 27 told, aW T 0 (q 6) 3 wh]) H1) (hD1 : va_D A (fl [mO q (nI kp) (nI ty) (nI 0) (nI at_) isF op, aW T 0 (q 1) 111 now, aW T 0 (q 2) 111 thn, aW T 0 (q 3) 666 past, aW T 0 (q 4) 60 txt, aW T 0 (q 5) 27 told, aW T 0 (q 6) 3 wh])) hS1 => ?_)
  clear hP0 hD0 hS0
  refine lv_iload_n hx hb dX6_dirt_5 rfl (lv_at hl0 1 rfl) ?_
  have hPc2 : va_P D vwCl (fl []) _ := hP1.sub [] rfl
  refine cr_i (va_runS (As := [.int zn]) (rest := []) ⟨hx, hb, hml, hown, hts⟩ (c_X6_isStreet l D T zn ) (mkS hts okX6_isStreet kw_745 kw_746 ⟨rfl, rfl, Nat.le_of_ble_eq_true rfl, Nat.le_of_ble_eq_true rfl⟩) (ps_ro hK hPc2) rfl rfl hl0.1 rfl (lv_room (Nat.le_of_ble_eq_true rfl)) dX6_dirt_6 ⟨Nat.le_of_ble_eq_true rfl, Nat.le_of_ble_eq_true rfl⟩) hP1 hS1 (fun r_6 H3 locs3 hq_6 hP3 hS3 => ?_)
  clear hP1 hS1 hPc2
  have hD3 := hD1
  clear hD1
  have hq_6 : r_6 = bI (inB zn (nI 0) (nI 11)) := hq_6
  subst hq_6
  refine z_if_ne (tgt := 18) hx hb dX6_dirt_9 (by decide) (fun c_9 => ?_) (fun c_9 => ?_)
  · skip
    obtain ⟨z, hz, rfl⟩ := inB_t c_9 (by decide)
    refine lv_iload_n hx hb dX6_dirt_18 rfl (lv_at hl0 2 rfl) ?_
    refine lv_iconst (v := nI 0) hx hb dX6_dirt_19 (by decide) ?_
    refine lv_sipush (v := nI 999) hx hb dX6_dirt_20 (by decide) ?_
    have hPc5 : va_P D vwCl (fl []) _ := hP3.sub [] rfl
    refine cr_i (va_runS (As := [.int p, .int (nI 0), .int (nI 999)]) (rest := []) ⟨hx, hb, hml, hown, hts⟩ (c_X6_in l D T p (nI 0) (nI 999) ) (mkS hts okX6_in kw_726 kw_727 ⟨rfl, rfl, Nat.le_of_ble_eq_true rfl, Nat.le_of_ble_eq_true rfl⟩) (ps_ro hK hPc5) rfl rfl hl0.1 rfl (lv_room (Nat.le_of_ble_eq_true rfl)) dX6_dirt_23 ⟨Nat.le_of_ble_eq_true rfl, Nat.le_of_ble_eq_true rfl⟩) hP3 hS3 (fun r_23 H6 locs6 hq_23 hP6 hS6 => ?_)
    clear hP3 hS3 hPc5
    have hD6 := hD3
    clear hD3
    have hq_23 : r_23 = bI (inB p (nI 0) (nI 999)) := hq_23
    subst hq_23
    refine z_if_ne (tgt := 35) hx hb dX6_dirt_26 (by decide) (fun c_26 => ?_) (fun c_26 => ?_)
    · skip
      refine lv_aload_n hx hb dX6_dirt_35 rfl (lv_at hl0 0 rfl) ?_
      have hPc8 : va_P D vwCl (fl [mO q (nI kp) (nI ty) (nI 0) (nI at_) isF op, aW T 0 (q 1) 111 now, aW T 0 (q 3) 666 past]) _ := flP_sub hP6 [0, 1, 3] rfl
      have hDc8 : va_D A (fl [mO q (nI kp) (nI ty) (nI 0) (nI at_) isF op, aW T 0 (q 1) 111 now, aW T 0 (q 3) 666 past]) := flD_sub hD6 [0, 1, 3] (by decide) rfl
      refine cl_v (br := [aW T 0 (q 2) 111 thn, aW T 0 (q 4) 60 txt, aW T 0 (q 5) 27 told, aW T 0 (q 6) 3 wh]) (va_runV (As := []) (rest := []) ⟨hx, hb, hml, hown, hts⟩ (c_X6_saves l D T q kp ty (nI 0) at_ isF op now past (by omega) _) (mkV hts okX6_saves kw_729 kw_731 ks_13 ⟨rfl, rfl, Nat.le_of_ble_eq_true rfl, Nat.le_of_ble_eq_true rfl⟩) (pv_rw hK hPc8 hDc8 (q0 := 0) rfl rfl rfl) rfl rfl hl0.1 rfl (lv_room (Nat.le_of_ble_eq_true rfl)) dX6_dirt_36 ⟨Nat.le_of_ble_eq_true rfl, Nat.le_of_ble_eq_true rfl⟩) hP6 hD6 hS6 hA [2, 4, 5, 6] [0, 1, 3] rfl (by decide) (fun u_36 H9 locs9 hq_36 hP9 hD9 hS9 => ?_)
      clear hP6 hD6 hS6 hPc8 hDc8
      obtain ⟨past2_36, kp2_36⟩ := u_36
      have hP9 : va_P D vwCl (fl [aW T 0 (q 2) 111 thn, aW T 0 (q 4) 60 txt, aW T 0 (q 5) 27 told, aW T 0 (q 6) 3 wh, mO q (nI kp2_36) (nI ty) (nI 0) (nI at_) isF op, aW T 0 (q 1) 111 now, aW T 0 (q 3) 666 past2_36]) _ := hP9
      have hD9 : va_D A (fl [aW T 0 (q 2) 111 thn, aW T 0 (q 4) 60 txt, aW T 0 (q 5) 27 told, aW T 0 (q 6) 3 wh, mO q (nI kp2_36) (nI ty) (nI 0) (nI at_) isF op, aW T 0 (q 1) 111 now, aW T 0 (q 3) 666 past2_36]) := hD9
      have hq_36 : svP now past kp = past2_36 ∧ svK kp = kp2_36 := hq_36
      obtain ⟨hu_past2_36, hu_kp2_36⟩ := hq_36
      subst hu_past2_36
      subst hu_kp2_36
      refine lv_aload_n hx hb dX6_dirt_39 rfl (lv_at hl0 0 rfl) ?_
      refine lv_bipush (v := nI 12) hx hb dX6_dirt_40 (by decide) ?_
      refine lv_bipush (v := nI 6) hx hb dX6_dirt_42 (by decide) ?_
      refine lv_iload_n hx hb dX6_dirt_44 rfl (lv_at hl0 1 rfl) ?_
      refine lv_imul hx hb dX6_dirt_45 ?_
      refine tp_i (y := nI (6 * z)) (pk_mul _ _) ?_
      refine lv_iadd hx hb dX6_dirt_46 ?_
      refine tp_i (y := nI (12 + (6 * z))) (nI_add _ _) ?_
      refine lv_iload_n hx hb dX6_dirt_47 rfl (lv_at hl0 2 rfl) ?_
      have hPc10 : va_P D vwCl (fl [mO q (nI (svK kp)) (nI ty) (nI 0) (nI at_) isF op, aW T 0 (q 1) 111 now]) _ := flP_sub hP9 [4, 5] rfl
      have hDc10 : va_D A (fl [mO q (nI (svK kp)) (nI ty) (nI 0) (nI at_) isF op, aW T 0 (q 1) 111 now]) := flD_sub hD9 [4, 5] (by decide) rfl
      refine cl_i (br := [aW T 0 (q 2) 111 thn, aW T 0 (q 4) 60 txt, aW T 0 (q 5) 27 told, aW T 0 (q 6) 3 wh, aW T 0 (q 3) 666 (svP now past kp)]) (va_runV (As := [.int (nI (12 + (6 * z))), .int p]) (rest := []) ⟨hx, hb, hml, hown, hts⟩ (c_X6_changes l D T q (svK kp) ty (nI 0) at_ isF op now (12 + (6 * z)) p (by omega) _) (mkV hts okX6_changes kw_733 kw_735 ks_14 ⟨rfl, rfl, Nat.le_of_ble_eq_true rfl, Nat.le_of_ble_eq_true rfl⟩) (pv_rw hK hPc10 hDc10 (q0 := 0) rfl rfl rfl) rfl rfl hl0.1 rfl (lv_room (Nat.le_of_ble_eq_true rfl)) dX6_dirt_48 ⟨Nat.le_of_ble_eq_true rfl, Nat.le_of_ble_eq_true rfl⟩) hP9 hD9 hS9 hA [0, 1, 2, 3, 6] [4, 5] rfl (by decide) (fun r_48 now2_48 H11 locs11 hq_48 hP11 hD11 hS11 => ?_)
      clear hP9 hD9 hS9 hPc10 hDc10
      have hP11 : va_P D vwCl (fl [aW T 0 (q 2) 111 thn, aW T 0 (q 4) 60 txt, aW T 0 (q 5) 27 told, aW T 0 (q 6) 3 wh, aW T 0 (q 3) 666 (svP now past kp), mO q (nI (svK kp)) (nI ty) (nI 0) (nI at_) isF op, aW T 0 (q 1) 111 now2_48]) _ := hP11
      have hD11 : va_D A (fl [aW T 0 (q 2) 111 thn, aW T 0 (q 4) 60 txt, aW T 0 (q 5) 27 told, aW T 0 (q 6) 3 wh, aW T 0 (q 3) 666 (svP now past kp), mO q (nI (svK kp)) (nI ty) (nI 0) (nI at_) isF op, aW T 0 (q 1) 111 now2_48]) := hD11
      obtain ⟨hr_48, hq_48⟩ : r_48 = now (12 + (6 * z)) ∧ (upd now (12 + (6 * z)) p = now2_48) := hq_48
      subst hr_48
      have hu_now2_48 : upd now (12 + (6 * z)) p = now2_48 := hq_48
      subst hu_now2_48
      refine ret_i hTG (Nat.le_refl _) (Nat.le_refl _) hx hb hr hlocks (((nI 0), (upd now (12 + (6 * z)) p), (svP now past kp), (svK kp))) hP11 hD11 hS11 [5, 6, 0, 4, 1, 2, 3] rfl (by decide) dX6_dirt_51 ?_
      simp only [dirtP, setR, noR, c_9, c_26, if_true, nIcl (show z < 2147483648 by omega), ↓reduceIte, Bool.false_eq_true] <;> rfl
    · skip
      refine lv_aload_n hx hb dX6_dirt_29 rfl (lv_at hl0 0 rfl) ?_
      refine lv_iconst (v := nI 2) hx hb dX6_dirt_30 (by decide) ?_
      have hPc12 : va_P D vwCl (fl [mO q (nI kp) (nI ty) (nI 0) (nI at_) isF op]) _ := flP_sub hP6 [0] rfl
      have hDc12 : va_D A (fl [mO q (nI kp) (nI ty) (nI 0) (nI at_) isF op]) := flD_sub hD6 [0] (by decide) rfl
      refine cl_i (br := [aW T 0 (q 1) 111 now, aW T 0 (q 2) 111 thn, aW T 0 (q 3) 666 past, aW T 0 (q 4) 60 txt, aW T 0 (q 5) 27 told, aW T 0 (q 6) 3 wh]) (va_runV (As := [.int (nI 2)]) (rest := []) ⟨hx, hb, hml, hown, hts⟩ (c_X6_fails l D T q kp ty (nI 0) at_ isF op (nI 2)  _) (mkV hts okX6_fails kw_715 kw_717 ks_12 ⟨rfl, rfl, Nat.le_of_ble_eq_true rfl, Nat.le_of_ble_eq_true rfl⟩) (pv_rw hK hPc12 hDc12 (q0 := 0) rfl rfl rfl) rfl rfl hl0.1 rfl (lv_room (Nat.le_of_ble_eq_true rfl)) dX6_dirt_31 ⟨Nat.le_of_ble_eq_true rfl, Nat.le_of_ble_eq_true rfl⟩) hP6 hD6 hS6 hA [1, 2, 3, 4, 5, 6] [0] rfl (by decide) (fun r_31 th2_31 H13 locs13 hq_31 hP13 hD13 hS13 => ?_)
      clear hP6 hD6 hS6 hPc12 hDc12
      have hP13 : va_P D vwCl (fl [aW T 0 (q 1) 111 now, aW T 0 (q 2) 111 thn, aW T 0 (q 3) 666 past, aW T 0 (q 4) 60 txt, aW T 0 (q 5) 27 told, aW T 0 (q 6) 3 wh, mO q (nI kp) (nI ty) th2_31 (nI at_) isF op]) _ := hP13
      have hD13 : va_D A (fl [aW T 0 (q 1) 111 now, aW T 0 (q 2) 111 thn, aW T 0 (q 3) 666 past, aW T 0 (q 4) 60 txt, aW T 0 (q 5) 27 told, aW T 0 (q 6) 3 wh, mO q (nI kp) (nI ty) th2_31 (nI at_) isF op]) := hD13
      obtain ⟨hr_31, hq_31⟩ : r_31 = nI 0 ∧ ((nI 2) = th2_31) := hq_31
      subst hr_31
      have hu_th2_31 : (nI 2) = th2_31 := hq_31
      subst hu_th2_31
      refine ret_i hTG (Nat.le_refl _) (Nat.le_refl _) hx hb hr hlocks (((nI 2), now, past, kp)) hP13 hD13 hS13 [6, 0, 1, 2, 3, 4, 5] rfl (by decide) dX6_dirt_34 ?_
      simp only [dirtP, setR, noR, c_9, c_26, if_true, nIcl (show z < 2147483648 by omega), ↓reduceIte, Bool.false_eq_true] <;> rfl
  · skip
    refine lv_aload_n hx hb dX6_dirt_12 rfl (lv_at hl0 0 rfl) ?_
    refine lv_iconst (v := nI 1) hx hb dX6_dirt_13 (by decide) ?_
    have hPc14 : va_P D vwCl (fl [mO q (nI kp) (nI ty) (nI 0) (nI at_) isF op]) _ := flP_sub hP3 [0] rfl
    have hDc14 : va_D A (fl [mO q (nI kp) (nI ty) (nI 0) (nI at_) isF op]) := flD_sub hD3 [0] (by decide) rfl
    refine cl_i (br := [aW T 0 (q 1) 111 now, aW T 0 (q 2) 111 thn, aW T 0 (q 3) 666 past, aW T 0 (q 4) 60 txt, aW T 0 (q 5) 27 told, aW T 0 (q 6) 3 wh]) (va_runV (As := [.int (nI 1)]) (rest := []) ⟨hx, hb, hml, hown, hts⟩ (c_X6_fails l D T q kp ty (nI 0) at_ isF op (nI 1)  _) (mkV hts okX6_fails kw_715 kw_717 ks_12 ⟨rfl, rfl, Nat.le_of_ble_eq_true rfl, Nat.le_of_ble_eq_true rfl⟩) (pv_rw hK hPc14 hDc14 (q0 := 0) rfl rfl rfl) rfl rfl hl0.1 rfl (lv_room (Nat.le_of_ble_eq_true rfl)) dX6_dirt_14 ⟨Nat.le_of_ble_eq_true rfl, Nat.le_of_ble_eq_true rfl⟩) hP3 hD3 hS3 hA [1, 2, 3, 4, 5, 6] [0] rfl (by decide) (fun r_14 th2_14 H15 locs15 hq_14 hP15 hD15 hS15 => ?_)
    clear hP3 hD3 hS3 hPc14 hDc14
    have hP15 : va_P D vwCl (fl [aW T 0 (q 1) 111 now, aW T 0 (q 2) 111 thn, aW T 0 (q 3) 666 past, aW T 0 (q 4) 60 txt, aW T 0 (q 5) 27 told, aW T 0 (q 6) 3 wh, mO q (nI kp) (nI ty) th2_14 (nI at_) isF op]) _ := hP15
    have hD15 : va_D A (fl [aW T 0 (q 1) 111 now, aW T 0 (q 2) 111 thn, aW T 0 (q 3) 666 past, aW T 0 (q 4) 60 txt, aW T 0 (q 5) 27 told, aW T 0 (q 6) 3 wh, mO q (nI kp) (nI ty) th2_14 (nI at_) isF op]) := hD15
    obtain ⟨hr_14, hq_14⟩ : r_14 = nI 0 ∧ ((nI 1) = th2_14) := hq_14
    subst hr_14
    have hu_th2_14 : (nI 1) = th2_14 := hq_14
    subst hu_th2_14
    refine ret_i hTG (Nat.le_refl _) (Nat.le_refl _) hx hb hr hlocks (((nI 1), now, past, kp)) hP15 hD15 hS15 [6, 0, 1, 2, 3, 4, 5] rfl (by decide) dX6_dirt_17 ?_
    simp only [dirtP, noR, c_9, if_true, ↓reduceIte, Bool.false_eq_true] <;> rfl
set_option maxHeartbeats 4000000 in
set_option maxRecDepth 100000 in
theorem c_X6_hydrant (l : Launch) (D : va_G) (T : TI) (q : Nat → Nat) (kp : Nat) (ty : Nat) (th : Int32) (at_ : Nat) (isF : Bool) (op : Int32) (now : Nat → Int32) (thn : Nat → Int32) (past : Nat → Int32) (txt : Nat → Int32) (told : Nat → Int32) (wh : Nat → Int32) (zn : Int32) (p : Int32) (hkp : kp ≤ 6) : CI l yX6_hydrant cX6_hydrant 3 .int (rmD 2 0 0) D T [.ref (q 0), .int zn, .int p] [mO q (nI kp) (nI ty) th (nI at_) isF op, aW T 0 (q 1) 111 now, aW T 0 (q 2) 111 thn, aW T 0 (q 3) 666 past, aW T 0 (q 4) 60 txt, aW T 0 (q 5) 27 told, aW T 0 (q 6) 3 wh] 0 0 (β := Int32 × (Nat → Int32) × (Nat → Int32) × Nat) (fun ⟨th2, now2, past2, kp2⟩ => [mO q (nI kp2) (nI ty) th2 (nI at_) isF op, aW T 0 (q 1) 111 now2, aW T 0 (q 2) 111 thn, aW T 0 (q 3) 666 past2, aW T 0 (q 4) 60 txt, aW T 0 (q 5) 27 told, aW T 0 (q 6) 3 wh]) (fun (r : Int32) ⟨th2, now2, past2, kp2⟩ => (r, th2, now2, past2, kp2) = hydrantP zn p now past kp) := by
  intro sz
  refine met_rw (Qc := fun A => va_Qi _ (PST D _ A) A) rfl (Nat.le_of_ble_eq_true rfl) ?_
  intro pX eX sX mX bX mtX cX A hAe hC hA hP0 hD0 hS0 ls0 hl0 TG hTG
  clear hAe
  obtain ⟨hx, hb, hr, hml, hown, hts, hlocks, hin, hK⟩ := hC
  have hown : sX.vm.findClass RX6 = some mX.cls := hown
  have hl0 : lv_has ls0 3 [(0, .ref (q 0)), (1, .int zn), (2, .int p)] := hl0
  refine lv_aload_n hx hb dX6_hydrant_0 rfl (lv_at hl0 0 rfl) ?_
  refine lv_iconst (v := nI 0) hx hb dX6_hydrant_1 (by decide) ?_
  refine r_put (own := RX6) (C := RX6) (F := TX6) (N := 12) (ci := 6) (v := nI 0) hx hb hK hts in_X6 tyX6 tyX6_ok nmX6 hown hP0 hD0 hS0 0 rfl rfl 6 (by decide) kw_676 rfl rfl (Nat.le_of_ble_eq_true rfl) dX6_hydrant_2 (fun (H1 : Heap) (locs1 : List Loc) (hP1 : va_P D vwCl (fl [mO q (nI kp) (nI ty) (nI 0) (nI at_) isF op, aW T 0 (q 1) 111 now, aW T 0 (q 2) 111 thn, aW T 0 (q 3) 666 past, aW T 0 (q 4) 60 txt, aW T 0 (q 5) 27 told, aW T 0 (q 6) 3 wh]) H1) (hD1 : va_D A (fl [mO q (nI kp) (nI ty) (nI 0) (nI at_) isF op, aW T 0 (q 1) 111 now, aW T 0 (q 2) 111 thn, aW T 0 (q 3) 666 past, aW T 0 (q 4) 60 txt, aW T 0 (q 5) 27 told, aW T 0 (q 6) 3 wh])) hS1 => ?_)
  clear hP0 hD0 hS0
  refine lv_iload_n hx hb dX6_hydrant_5 rfl (lv_at hl0 1 rfl) ?_
  have hPc2 : va_P D vwCl (fl []) _ := hP1.sub [] rfl
  refine cr_i (va_runS (As := [.int zn]) (rest := []) ⟨hx, hb, hml, hown, hts⟩ (c_X6_isStreet l D T zn ) (mkS hts okX6_isStreet kw_745 kw_746 ⟨rfl, rfl, Nat.le_of_ble_eq_true rfl, Nat.le_of_ble_eq_true rfl⟩) (ps_ro hK hPc2) rfl rfl hl0.1 rfl (lv_room (Nat.le_of_ble_eq_true rfl)) dX6_hydrant_6 ⟨Nat.le_of_ble_eq_true rfl, Nat.le_of_ble_eq_true rfl⟩) hP1 hS1 (fun r_6 H3 locs3 hq_6 hP3 hS3 => ?_)
  clear hP1 hS1 hPc2
  have hD3 := hD1
  clear hD1
  have hq_6 : r_6 = bI (inB zn (nI 0) (nI 11)) := hq_6
  subst hq_6
  refine z_if_ne (tgt := 18) hx hb dX6_hydrant_9 (by decide) (fun c_9 => ?_) (fun c_9 => ?_)
  · skip
    obtain ⟨z, hz, rfl⟩ := inB_t c_9 (by decide)
    refine lv_iload_n hx hb dX6_hydrant_18 rfl (lv_at hl0 2 rfl) ?_
    refine lv_iconst (v := nI 1) hx hb dX6_hydrant_19 (by decide) ?_
    refine lv_bipush (v := nI 30) hx hb dX6_hydrant_20 (by decide) ?_
    have hPc5 : va_P D vwCl (fl []) _ := hP3.sub [] rfl
    refine cr_i (va_runS (As := [.int p, .int (nI 1), .int (nI 30)]) (rest := []) ⟨hx, hb, hml, hown, hts⟩ (c_X6_in l D T p (nI 1) (nI 30) ) (mkS hts okX6_in kw_726 kw_727 ⟨rfl, rfl, Nat.le_of_ble_eq_true rfl, Nat.le_of_ble_eq_true rfl⟩) (ps_ro hK hPc5) rfl rfl hl0.1 rfl (lv_room (Nat.le_of_ble_eq_true rfl)) dX6_hydrant_22 ⟨Nat.le_of_ble_eq_true rfl, Nat.le_of_ble_eq_true rfl⟩) hP3 hS3 (fun r_22 H6 locs6 hq_22 hP6 hS6 => ?_)
    clear hP3 hS3 hPc5
    have hD6 := hD3
    clear hD3
    have hq_22 : r_22 = bI (inB p (nI 1) (nI 30)) := hq_22
    subst hq_22
    refine z_if_ne (tgt := 34) hx hb dX6_hydrant_25 (by decide) (fun c_25 => ?_) (fun c_25 => ?_)
    · skip
      refine lv_aload_n hx hb dX6_hydrant_34 rfl (lv_at hl0 0 rfl) ?_
      have hPc8 : va_P D vwCl (fl [mO q (nI kp) (nI ty) (nI 0) (nI at_) isF op, aW T 0 (q 1) 111 now, aW T 0 (q 3) 666 past]) _ := flP_sub hP6 [0, 1, 3] rfl
      have hDc8 : va_D A (fl [mO q (nI kp) (nI ty) (nI 0) (nI at_) isF op, aW T 0 (q 1) 111 now, aW T 0 (q 3) 666 past]) := flD_sub hD6 [0, 1, 3] (by decide) rfl
      refine cl_v (br := [aW T 0 (q 2) 111 thn, aW T 0 (q 4) 60 txt, aW T 0 (q 5) 27 told, aW T 0 (q 6) 3 wh]) (va_runV (As := []) (rest := []) ⟨hx, hb, hml, hown, hts⟩ (c_X6_saves l D T q kp ty (nI 0) at_ isF op now past (by omega) _) (mkV hts okX6_saves kw_729 kw_731 ks_13 ⟨rfl, rfl, Nat.le_of_ble_eq_true rfl, Nat.le_of_ble_eq_true rfl⟩) (pv_rw hK hPc8 hDc8 (q0 := 0) rfl rfl rfl) rfl rfl hl0.1 rfl (lv_room (Nat.le_of_ble_eq_true rfl)) dX6_hydrant_35 ⟨Nat.le_of_ble_eq_true rfl, Nat.le_of_ble_eq_true rfl⟩) hP6 hD6 hS6 hA [2, 4, 5, 6] [0, 1, 3] rfl (by decide) (fun u_35 H9 locs9 hq_35 hP9 hD9 hS9 => ?_)
      clear hP6 hD6 hS6 hPc8 hDc8
      obtain ⟨past2_35, kp2_35⟩ := u_35
      have hP9 : va_P D vwCl (fl [aW T 0 (q 2) 111 thn, aW T 0 (q 4) 60 txt, aW T 0 (q 5) 27 told, aW T 0 (q 6) 3 wh, mO q (nI kp2_35) (nI ty) (nI 0) (nI at_) isF op, aW T 0 (q 1) 111 now, aW T 0 (q 3) 666 past2_35]) _ := hP9
      have hD9 : va_D A (fl [aW T 0 (q 2) 111 thn, aW T 0 (q 4) 60 txt, aW T 0 (q 5) 27 told, aW T 0 (q 6) 3 wh, mO q (nI kp2_35) (nI ty) (nI 0) (nI at_) isF op, aW T 0 (q 1) 111 now, aW T 0 (q 3) 666 past2_35]) := hD9
      have hq_35 : svP now past kp = past2_35 ∧ svK kp = kp2_35 := hq_35
      obtain ⟨hu_past2_35, hu_kp2_35⟩ := hq_35
      subst hu_past2_35
      subst hu_kp2_35
      refine lv_aload_n hx hb dX6_hydrant_38 rfl (lv_at hl0 0 rfl) ?_
      refine lv_bipush (v := nI 12) hx hb dX6_hydrant_39 (by decide) ?_
      refine lv_bipush (v := nI 6) hx hb dX6_hydrant_41 (by decide) ?_
      refine lv_iload_n hx hb dX6_hydrant_43 rfl (lv_at hl0 1 rfl) ?_
      refine lv_imul hx hb dX6_hydrant_44 ?_
      refine tp_i (y := nI (6 * z)) (pk_mul _ _) ?_
      refine lv_iadd hx hb dX6_hydrant_45 ?_
      refine tp_i (y := nI (12 + (6 * z))) (nI_add _ _) ?_
      refine lv_iconst (v := nI 1) hx hb dX6_hydrant_46 (by decide) ?_
      refine lv_iadd hx hb dX6_hydrant_47 ?_
      refine tp_i (y := nI (12 + (6 * z) + 1)) (nI_add _ _) ?_
      refine lv_iload_n hx hb dX6_hydrant_48 rfl (lv_at hl0 2 rfl) ?_
      have hPc10 : va_P D vwCl (fl [mO q (nI (svK kp)) (nI ty) (nI 0) (nI at_) isF op, aW T 0 (q 1) 111 now]) _ := flP_sub hP9 [4, 5] rfl
      have hDc10 : va_D A (fl [mO q (nI (svK kp)) (nI ty) (nI 0) (nI at_) isF op, aW T 0 (q 1) 111 now]) := flD_sub hD9 [4, 5] (by decide) rfl
      refine cl_i (br := [aW T 0 (q 2) 111 thn, aW T 0 (q 4) 60 txt, aW T 0 (q 5) 27 told, aW T 0 (q 6) 3 wh, aW T 0 (q 3) 666 (svP now past kp)]) (va_runV (As := [.int (nI (12 + (6 * z) + 1)), .int p]) (rest := []) ⟨hx, hb, hml, hown, hts⟩ (c_X6_changes l D T q (svK kp) ty (nI 0) at_ isF op now (12 + (6 * z) + 1) p (by omega) _) (mkV hts okX6_changes kw_733 kw_735 ks_14 ⟨rfl, rfl, Nat.le_of_ble_eq_true rfl, Nat.le_of_ble_eq_true rfl⟩) (pv_rw hK hPc10 hDc10 (q0 := 0) rfl rfl rfl) rfl rfl hl0.1 rfl (lv_room (Nat.le_of_ble_eq_true rfl)) dX6_hydrant_49 ⟨Nat.le_of_ble_eq_true rfl, Nat.le_of_ble_eq_true rfl⟩) hP9 hD9 hS9 hA [0, 1, 2, 3, 6] [4, 5] rfl (by decide) (fun r_49 now2_49 H11 locs11 hq_49 hP11 hD11 hS11 => ?_)
      clear hP9 hD9 hS9 hPc10 hDc10
      have hP11 : va_P D vwCl (fl [aW T 0 (q 2) 111 thn, aW T 0 (q 4) 60 txt, aW T 0 (q 5) 27 told, aW T 0 (q 6) 3 wh, aW T 0 (q 3) 666 (svP now past kp), mO q (nI (svK kp)) (nI ty) (nI 0) (nI at_) isF op, aW T 0 (q 1) 111 now2_49]) _ := hP11
      have hD11 : va_D A (fl [aW T 0 (q 2) 111 thn, aW T 0 (q 4) 60 txt, aW T 0 (q 5) 27 told, aW T 0 (q 6) 3 wh, aW T 0 (q 3) 666 (svP now past kp), mO q (nI (svK kp)) (nI ty) (nI 0) (nI at_) isF op, aW T 0 (q 1) 111 now2_49]) := hD11
      obtain ⟨hr_49, hq_49⟩ : r_49 = now (12 + (6 * z) + 1) ∧ (upd now (12 + (6 * z) + 1) p = now2_49) := hq_49
      subst hr_49
      have hu_now2_49 : upd now (12 + (6 * z) + 1) p = now2_49 := hq_49
      subst hu_now2_49
      refine ret_i hTG (Nat.le_refl _) (Nat.le_refl _) hx hb hr hlocks (((nI 0), (upd now (12 + (6 * z) + 1) p), (svP now past kp), (svK kp))) hP11 hD11 hS11 [5, 6, 0, 4, 1, 2, 3] rfl (by decide) dX6_hydrant_52 ?_
      simp only [hydrantP, setR, noR, c_9, c_25, if_true, nIcl (show z < 2147483648 by omega), ↓reduceIte, Bool.false_eq_true] <;> rfl
    · skip
      refine lv_aload_n hx hb dX6_hydrant_28 rfl (lv_at hl0 0 rfl) ?_
      refine lv_iconst (v := nI 2) hx hb dX6_hydrant_29 (by decide) ?_
      have hPc12 : va_P D vwCl (fl [mO q (nI kp) (nI ty) (nI 0) (nI at_) isF op]) _ := flP_sub hP6 [0] rfl
      have hDc12 : va_D A (fl [mO q (nI kp) (nI ty) (nI 0) (nI at_) isF op]) := flD_sub hD6 [0] (by decide) rfl
      refine cl_i (br := [aW T 0 (q 1) 111 now, aW T 0 (q 2) 111 thn, aW T 0 (q 3) 666 past, aW T 0 (q 4) 60 txt, aW T 0 (q 5) 27 told, aW T 0 (q 6) 3 wh]) (va_runV (As := [.int (nI 2)]) (rest := []) ⟨hx, hb, hml, hown, hts⟩ (c_X6_fails l D T q kp ty (nI 0) at_ isF op (nI 2)  _) (mkV hts okX6_fails kw_715 kw_717 ks_12 ⟨rfl, rfl, Nat.le_of_ble_eq_true rfl, Nat.le_of_ble_eq_true rfl⟩) (pv_rw hK hPc12 hDc12 (q0 := 0) rfl rfl rfl) rfl rfl hl0.1 rfl (lv_room (Nat.le_of_ble_eq_true rfl)) dX6_hydrant_30 ⟨Nat.le_of_ble_eq_true rfl, Nat.le_of_ble_eq_true rfl⟩) hP6 hD6 hS6 hA [1, 2, 3, 4, 5, 6] [0] rfl (by decide) (fun r_30 th2_30 H13 locs13 hq_30 hP13 hD13 hS13 => ?_)
      clear hP6 hD6 hS6 hPc12 hDc12
      have hP13 : va_P D vwCl (fl [aW T 0 (q 1) 111 now, aW T 0 (q 2) 111 thn, aW T 0 (q 3) 666 past, aW T 0 (q 4) 60 txt, aW T 0 (q 5) 27 told, aW T 0 (q 6) 3 wh, mO q (nI kp) (nI ty) th2_30 (nI at_) isF op]) _ := hP13
      have hD13 : va_D A (fl [aW T 0 (q 1) 111 now, aW T 0 (q 2) 111 thn, aW T 0 (q 3) 666 past, aW T 0 (q 4) 60 txt, aW T 0 (q 5) 27 told, aW T 0 (q 6) 3 wh, mO q (nI kp) (nI ty) th2_30 (nI at_) isF op]) := hD13
      obtain ⟨hr_30, hq_30⟩ : r_30 = nI 0 ∧ ((nI 2) = th2_30) := hq_30
      subst hr_30
      have hu_th2_30 : (nI 2) = th2_30 := hq_30
      subst hu_th2_30
      refine ret_i hTG (Nat.le_refl _) (Nat.le_refl _) hx hb hr hlocks (((nI 2), now, past, kp)) hP13 hD13 hS13 [6, 0, 1, 2, 3, 4, 5] rfl (by decide) dX6_hydrant_33 ?_
      simp only [hydrantP, setR, noR, c_9, c_25, if_true, nIcl (show z < 2147483648 by omega), ↓reduceIte, Bool.false_eq_true] <;> rfl
  · skip
    refine lv_aload_n hx hb dX6_hydrant_12 rfl (lv_at hl0 0 rfl) ?_
    refine lv_iconst (v := nI 1) hx hb dX6_hydrant_13 (by decide) ?_
    have hPc14 : va_P D vwCl (fl [mO q (nI kp) (nI ty) (nI 0) (nI at_) isF op]) _ := flP_sub hP3 [0] rfl
    have hDc14 : va_D A (fl [mO q (nI kp) (nI ty) (nI 0) (nI at_) isF op]) := flD_sub hD3 [0] (by decide) rfl
    refine cl_i (br := [aW T 0 (q 1) 111 now, aW T 0 (q 2) 111 thn, aW T 0 (q 3) 666 past, aW T 0 (q 4) 60 txt, aW T 0 (q 5) 27 told, aW T 0 (q 6) 3 wh]) (va_runV (As := [.int (nI 1)]) (rest := []) ⟨hx, hb, hml, hown, hts⟩ (c_X6_fails l D T q kp ty (nI 0) at_ isF op (nI 1)  _) (mkV hts okX6_fails kw_715 kw_717 ks_12 ⟨rfl, rfl, Nat.le_of_ble_eq_true rfl, Nat.le_of_ble_eq_true rfl⟩) (pv_rw hK hPc14 hDc14 (q0 := 0) rfl rfl rfl) rfl rfl hl0.1 rfl (lv_room (Nat.le_of_ble_eq_true rfl)) dX6_hydrant_14 ⟨Nat.le_of_ble_eq_true rfl, Nat.le_of_ble_eq_true rfl⟩) hP3 hD3 hS3 hA [1, 2, 3, 4, 5, 6] [0] rfl (by decide) (fun r_14 th2_14 H15 locs15 hq_14 hP15 hD15 hS15 => ?_)
    clear hP3 hD3 hS3 hPc14 hDc14
    have hP15 : va_P D vwCl (fl [aW T 0 (q 1) 111 now, aW T 0 (q 2) 111 thn, aW T 0 (q 3) 666 past, aW T 0 (q 4) 60 txt, aW T 0 (q 5) 27 told, aW T 0 (q 6) 3 wh, mO q (nI kp) (nI ty) th2_14 (nI at_) isF op]) _ := hP15
    have hD15 : va_D A (fl [aW T 0 (q 1) 111 now, aW T 0 (q 2) 111 thn, aW T 0 (q 3) 666 past, aW T 0 (q 4) 60 txt, aW T 0 (q 5) 27 told, aW T 0 (q 6) 3 wh, mO q (nI kp) (nI ty) th2_14 (nI at_) isF op]) := hD15
    obtain ⟨hr_14, hq_14⟩ : r_14 = nI 0 ∧ ((nI 1) = th2_14) := hq_14
    subst hr_14
    have hu_th2_14 : (nI 1) = th2_14 := hq_14
    subst hu_th2_14
    refine ret_i hTG (Nat.le_refl _) (Nat.le_refl _) hx hb hr hlocks (((nI 1), now, past, kp)) hP15 hD15 hS15 [6, 0, 1, 2, 3, 4, 5] rfl (by decide) dX6_hydrant_17 ?_
    simp only [hydrantP, noR, c_9, if_true, ↓reduceIte, Bool.false_eq_true] <;> rfl
set_option maxHeartbeats 4000000 in
set_option maxRecDepth 100000 in
theorem c_X6_send (l : Launch) (D : va_G) (T : TI) (q : Nat → Nat) (kp : Nat) (ty : Nat) (th : Int32) (at_ : Nat) (isF : Bool) (op : Int32) (now : Nat → Int32) (thn : Nat → Int32) (past : Nat → Int32) (txt : Nat → Int32) (told : Nat → Int32) (wh : Nat → Int32) (cr : Int32) (st : Int32) (hkp : kp ≤ 6) (hok : okM now) : CI l yX6_send cX6_send 4 .int (rmD 2 0 0) D T [.ref (q 0), .int cr, .int st] [mO q (nI kp) (nI ty) th (nI at_) isF op, aW T 0 (q 1) 111 now, aW T 0 (q 2) 111 thn, aW T 0 (q 3) 666 past, aW T 0 (q 4) 60 txt, aW T 0 (q 5) 27 told, aW T 0 (q 6) 3 wh] 0 0 (β := Int32 × (Nat → Int32) × (Nat → Int32) × Nat) (fun ⟨th2, now2, past2, kp2⟩ => [mO q (nI kp2) (nI ty) th2 (nI at_) isF op, aW T 0 (q 1) 111 now2, aW T 0 (q 2) 111 thn, aW T 0 (q 3) 666 past2, aW T 0 (q 4) 60 txt, aW T 0 (q 5) 27 told, aW T 0 (q 6) 3 wh]) (fun (r : Int32) ⟨th2, now2, past2, kp2⟩ => (r, th2, now2, past2, kp2) = sendP cr st now past kp) := by
  intro sz
  refine met_rw (Qc := fun A => va_Qi _ (PST D _ A) A) rfl (Nat.le_of_ble_eq_true rfl) ?_
  intro pX eX sX mX bX mtX cX A hAe hC hA hP0 hD0 hS0 ls0 hl0 TG hTG
  clear hAe
  obtain ⟨hx, hb, hr, hml, hown, hts, hlocks, hin, hK⟩ := hC
  have hown : sX.vm.findClass RX6 = some mX.cls := hown
  have hl0 : lv_has ls0 4 [(0, .ref (q 0)), (1, .int cr), (2, .int st)] := hl0
  refine lv_aload_n hx hb dX6_send_0 rfl (lv_at hl0 0 rfl) ?_
  refine lv_iconst (v := nI 0) hx hb dX6_send_1 (by decide) ?_
  refine r_put (own := RX6) (C := RX6) (F := TX6) (N := 12) (ci := 6) (v := nI 0) hx hb hK hts in_X6 tyX6 tyX6_ok nmX6 hown hP0 hD0 hS0 0 rfl rfl 6 (by decide) kw_676 rfl rfl (Nat.le_of_ble_eq_true rfl) dX6_send_2 (fun (H1 : Heap) (locs1 : List Loc) (hP1 : va_P D vwCl (fl [mO q (nI kp) (nI ty) (nI 0) (nI at_) isF op, aW T 0 (q 1) 111 now, aW T 0 (q 2) 111 thn, aW T 0 (q 3) 666 past, aW T 0 (q 4) 60 txt, aW T 0 (q 5) 27 told, aW T 0 (q 6) 3 wh]) H1) (hD1 : va_D A (fl [mO q (nI kp) (nI ty) (nI 0) (nI at_) isF op, aW T 0 (q 1) 111 now, aW T 0 (q 2) 111 thn, aW T 0 (q 3) 666 past, aW T 0 (q 4) 60 txt, aW T 0 (q 5) 27 told, aW T 0 (q 6) 3 wh])) hS1 => ?_)
  clear hP0 hD0 hS0
  refine lv_iload_n hx hb dX6_send_5 rfl (lv_at hl0 1 rfl) ?_
  have hPc2 : va_P D vwCl (fl []) _ := hP1.sub [] rfl
  refine cr_i (va_runS (As := [.int cr]) (rest := []) ⟨hx, hb, hml, hown, hts⟩ (c_X6_isCrew l D T cr ) (mkS hts okX6_isCrew kw_756 kw_757 ⟨rfl, rfl, Nat.le_of_ble_eq_true rfl, Nat.le_of_ble_eq_true rfl⟩) (ps_ro hK hPc2) rfl rfl hl0.1 rfl (lv_room (Nat.le_of_ble_eq_true rfl)) dX6_send_6 ⟨Nat.le_of_ble_eq_true rfl, Nat.le_of_ble_eq_true rfl⟩) hP1 hS1 (fun r_6 H3 locs3 hq_6 hP3 hS3 => ?_)
  clear hP1 hS1 hPc2
  have hD3 := hD1
  clear hD1
  have hq_6 : r_6 = bI (inB cr (nI 0) (nI 2)) := hq_6
  subst hq_6
  refine z_if_eq (tgt := 19) hx hb dX6_send_9 (by decide) (fun c_9 => ?_) (fun c_9 => ?_)
  · skip
    refine lv_aload_n hx hb dX6_send_19 rfl (lv_at hl0 0 rfl) ?_
    refine lv_iconst (v := nI 1) hx hb dX6_send_20 (by decide) ?_
    have hPc5 : va_P D vwCl (fl [mO q (nI kp) (nI ty) (nI 0) (nI at_) isF op]) _ := flP_sub hP3 [0] rfl
    have hDc5 : va_D A (fl [mO q (nI kp) (nI ty) (nI 0) (nI at_) isF op]) := flD_sub hD3 [0] (by decide) rfl
    refine cl_i (br := [aW T 0 (q 1) 111 now, aW T 0 (q 2) 111 thn, aW T 0 (q 3) 666 past, aW T 0 (q 4) 60 txt, aW T 0 (q 5) 27 told, aW T 0 (q 6) 3 wh]) (va_runV (As := [.int (nI 1)]) (rest := []) ⟨hx, hb, hml, hown, hts⟩ (c_X6_fails l D T q kp ty (nI 0) at_ isF op (nI 1)  _) (mkV hts okX6_fails kw_715 kw_717 ks_12 ⟨rfl, rfl, Nat.le_of_ble_eq_true rfl, Nat.le_of_ble_eq_true rfl⟩) (pv_rw hK hPc5 hDc5 (q0 := 0) rfl rfl rfl) rfl rfl hl0.1 rfl (lv_room (Nat.le_of_ble_eq_true rfl)) dX6_send_21 ⟨Nat.le_of_ble_eq_true rfl, Nat.le_of_ble_eq_true rfl⟩) hP3 hD3 hS3 hA [1, 2, 3, 4, 5, 6] [0] rfl (by decide) (fun r_21 th2_21 H6 locs6 hq_21 hP6 hD6 hS6 => ?_)
    clear hP3 hD3 hS3 hPc5 hDc5
    have hP6 : va_P D vwCl (fl [aW T 0 (q 1) 111 now, aW T 0 (q 2) 111 thn, aW T 0 (q 3) 666 past, aW T 0 (q 4) 60 txt, aW T 0 (q 5) 27 told, aW T 0 (q 6) 3 wh, mO q (nI kp) (nI ty) th2_21 (nI at_) isF op]) _ := hP6
    have hD6 : va_D A (fl [aW T 0 (q 1) 111 now, aW T 0 (q 2) 111 thn, aW T 0 (q 3) 666 past, aW T 0 (q 4) 60 txt, aW T 0 (q 5) 27 told, aW T 0 (q 6) 3 wh, mO q (nI kp) (nI ty) th2_21 (nI at_) isF op]) := hD6
    obtain ⟨hr_21, hq_21⟩ : r_21 = nI 0 ∧ ((nI 1) = th2_21) := hq_21
    subst hr_21
    have hu_th2_21 : (nI 1) = th2_21 := hq_21
    subst hu_th2_21
    refine ret_i hTG (Nat.le_refl _) (Nat.le_refl _) hx hb hr hlocks (((nI 1), now, past, kp)) hP6 hD6 hS6 [6, 0, 1, 2, 3, 4, 5] rfl (by decide) dX6_send_24 ?_
    simp only [sendP, noR, c_9, if_true, ↓reduceIte, Bool.false_eq_true] <;> rfl
  · skip
    refine lv_iload_n hx hb dX6_send_12 rfl (lv_at hl0 2 rfl) ?_
    have hPc7 : va_P D vwCl (fl []) _ := hP3.sub [] rfl
    refine cr_i (va_runS (As := [.int st]) (rest := []) ⟨hx, hb, hml, hown, hts⟩ (c_X6_isStreet l D T st ) (mkS hts okX6_isStreet kw_745 kw_746 ⟨rfl, rfl, Nat.le_of_ble_eq_true rfl, Nat.le_of_ble_eq_true rfl⟩) (ps_ro hK hPc7) rfl rfl hl0.1 rfl (lv_room (Nat.le_of_ble_eq_true rfl)) dX6_send_13 ⟨Nat.le_of_ble_eq_true rfl, Nat.le_of_ble_eq_true rfl⟩) hP3 hS3 (fun r_13 H8 locs8 hq_13 hP8 hS8 => ?_)
    clear hP3 hS3 hPc7
    have hD8 := hD3
    clear hD3
    have hq_13 : r_13 = bI (inB st (nI 0) (nI 11)) := hq_13
    subst hq_13
    refine z_if_ne (tgt := 25) hx hb dX6_send_16 (by decide) (fun c_16 => ?_) (fun c_16 => ?_)
    · skip
      obtain ⟨z, hz, rfl⟩ := inB_t c_9 (by decide)
      obtain ⟨n, hn8, hna, -⟩ := hok z (by omega)
      refine lv_bipush (v := nI 84) hx hb dX6_send_25 (by decide) ?_
      refine lv_bipush (v := nI 9) hx hb dX6_send_27 (by decide) ?_
      refine lv_iload_n hx hb dX6_send_29 rfl (lv_at hl0 1 rfl) ?_
      refine lv_imul hx hb dX6_send_30 ?_
      refine tp_i (y := nI (9 * z)) (pk_mul _ _) ?_
      refine lv_iadd hx hb dX6_send_31 ?_
      refine tp_i (y := nI (84 + (9 * z))) (nI_add _ _) ?_
      refine lv_istore_n (lv' := [(3, .int (nI (84 + (9 * z)))), (0, .ref (q 0)), (1, .int (nI z)), (2, .int st)]) hx hb dX6_send_32 rfl hl0 (by decide) rfl (fun ls10 hl10 => ?_)
      clear hl0
      refine lv_aload_n hx hb dX6_send_33 rfl (lv_at hl10 1 rfl) ?_
      refine r_get (own := RX6) (C := RX6) (F := TX6) (N := 12) (ci := 6) (v := .ref (q 1)) hx hb hK hts in_X6 hown hP8 0 rfl rfl 0 (by decide) kw_670 rfl dX6_send_34 ?_
      refine lv_iload_n hx hb dX6_send_37 rfl (lv_at hl10 0 rfl) ?_
      refine r_iald hx hb hK hP8 1 (f := now) (n := 111) rfl (84 + (9 * z)) (by decide) dX6_send_38 (by omega) ?_
      refine tp_i (y := nI n) (hna) ?_
      refine lv_bipush (v := nI 8) hx hb dX6_send_39 (by decide) ?_
      refine n_icmp_ne (tgt := 50) hx hb (by omega) (by omega) dX6_send_41 (by decide) (fun c_41 => ?_) (fun c_41 => ?_)
      · skip
        refine lv_aload_n hx hb dX6_send_50 rfl (lv_at hl10 1 rfl) ?_
        have hPc12 : va_P D vwCl (fl [mO q (nI kp) (nI ty) (nI 0) (nI at_) isF op, aW T 0 (q 1) 111 now, aW T 0 (q 3) 666 past]) _ := flP_sub hP8 [0, 1, 3] rfl
        have hDc12 : va_D A (fl [mO q (nI kp) (nI ty) (nI 0) (nI at_) isF op, aW T 0 (q 1) 111 now, aW T 0 (q 3) 666 past]) := flD_sub hD8 [0, 1, 3] (by decide) rfl
        refine cl_v (br := [aW T 0 (q 2) 111 thn, aW T 0 (q 4) 60 txt, aW T 0 (q 5) 27 told, aW T 0 (q 6) 3 wh]) (va_runV (As := []) (rest := []) ⟨hx, hb, hml, hown, hts⟩ (c_X6_saves l D T q kp ty (nI 0) at_ isF op now past (by omega) _) (mkV hts okX6_saves kw_729 kw_731 ks_13 ⟨rfl, rfl, Nat.le_of_ble_eq_true rfl, Nat.le_of_ble_eq_true rfl⟩) (pv_rw hK hPc12 hDc12 (q0 := 0) rfl rfl rfl) rfl rfl hl10.1 rfl (lv_room (Nat.le_of_ble_eq_true rfl)) dX6_send_51 ⟨Nat.le_of_ble_eq_true rfl, Nat.le_of_ble_eq_true rfl⟩) hP8 hD8 hS8 hA [2, 4, 5, 6] [0, 1, 3] rfl (by decide) (fun u_51 H13 locs13 hq_51 hP13 hD13 hS13 => ?_)
        clear hP8 hD8 hS8 hPc12 hDc12
        obtain ⟨past2_51, kp2_51⟩ := u_51
        have hP13 : va_P D vwCl (fl [aW T 0 (q 2) 111 thn, aW T 0 (q 4) 60 txt, aW T 0 (q 5) 27 told, aW T 0 (q 6) 3 wh, mO q (nI kp2_51) (nI ty) (nI 0) (nI at_) isF op, aW T 0 (q 1) 111 now, aW T 0 (q 3) 666 past2_51]) _ := hP13
        have hD13 : va_D A (fl [aW T 0 (q 2) 111 thn, aW T 0 (q 4) 60 txt, aW T 0 (q 5) 27 told, aW T 0 (q 6) 3 wh, mO q (nI kp2_51) (nI ty) (nI 0) (nI at_) isF op, aW T 0 (q 1) 111 now, aW T 0 (q 3) 666 past2_51]) := hD13
        have hq_51 : svP now past kp = past2_51 ∧ svK kp = kp2_51 := hq_51
        obtain ⟨hu_past2_51, hu_kp2_51⟩ := hq_51
        subst hu_past2_51
        subst hu_kp2_51
        refine lv_aload_n hx hb dX6_send_54 rfl (lv_at hl10 1 rfl) ?_
        refine r_get (own := RX6) (C := RX6) (F := TX6) (N := 12) (ci := 6) (v := .ref (q 1)) hx hb hK hts in_X6 hown hP13 4 rfl rfl 0 (by decide) kw_670 rfl dX6_send_55 ?_
        refine lv_iload_n hx hb dX6_send_58 rfl (lv_at hl10 0 rfl) ?_
        refine lv_dup2_11 hx hb dX6_send_59 rfl rfl ?_
        refine r_iald hx hb hK hP13 5 (f := now) (n := 111) rfl (84 + (9 * z)) (by decide) dX6_send_60 (by omega) ?_
        refine tp_i (y := nI n) (hna) ?_
        refine lv_iconst (v := nI 1) hx hb dX6_send_61 (by decide) ?_
        refine lv_iadd hx hb dX6_send_62 ?_
        refine tp_i (y := nI (n + 1)) (nI_add _ _) ?_
        refine r_iast hx hb hK hP13 hD13 hS13 5 (f := now) (n := 111) rfl (84 + (9 * z)) (by decide) dX6_send_63 (by omega) (fun (H14 : Heap) (locs14 : List Loc) (hP14 : va_P D vwCl (fl [aW T 0 (q 2) 111 thn, aW T 0 (q 4) 60 txt, aW T 0 (q 5) 27 told, aW T 0 (q 6) 3 wh, mO q (nI (svK kp)) (nI ty) (nI 0) (nI at_) isF op, aW T 0 (q 1) 111 (upd now (84 + (9 * z)) (nI (n + 1))), aW T 0 (q 3) 666 (svP now past kp)]) H14) (hD14 : va_D A (fl [aW T 0 (q 2) 111 thn, aW T 0 (q 4) 60 txt, aW T 0 (q 5) 27 told, aW T 0 (q 6) 3 wh, mO q (nI (svK kp)) (nI ty) (nI 0) (nI at_) isF op, aW T 0 (q 1) 111 (upd now (84 + (9 * z)) (nI (n + 1))), aW T 0 (q 3) 666 (svP now past kp)])) hS14 => ?_)
        clear hP13 hD13 hS13
        refine lv_aload_n hx hb dX6_send_64 rfl (lv_at hl10 1 rfl) ?_
        refine r_get (own := RX6) (C := RX6) (F := TX6) (N := 12) (ci := 6) (v := .ref (q 1)) hx hb hK hts in_X6 hown hP14 4 rfl rfl 0 (by decide) kw_670 rfl dX6_send_65 ?_
        refine lv_iload_n hx hb dX6_send_68 rfl (lv_at hl10 0 rfl) ?_
        refine lv_aload_n hx hb dX6_send_69 rfl (lv_at hl10 1 rfl) ?_
        refine r_get (own := RX6) (C := RX6) (F := TX6) (N := 12) (ci := 6) (v := .ref (q 1)) hx hb hK hts in_X6 hown hP14 4 rfl rfl 0 (by decide) kw_670 rfl dX6_send_70 ?_
        refine lv_iload_n hx hb dX6_send_73 rfl (lv_at hl10 0 rfl) ?_
        refine r_iald hx hb hK hP14 5 (f := (upd now (84 + (9 * z)) (nI (n + 1)))) (n := 111) rfl (84 + (9 * z)) (by decide) dX6_send_74 (by omega) ?_
        refine tp_i (y := nI (n + 1)) (pk_us) ?_
        refine lv_iadd hx hb dX6_send_75 ?_
        refine tp_i (y := nI (84 + (9 * z) + (n + 1))) (nI_add _ _) ?_
        refine lv_iload_n hx hb dX6_send_76 rfl (lv_at hl10 3 rfl) ?_
        refine r_iast hx hb hK hP14 hD14 hS14 5 (f := (upd now (84 + (9 * z)) (nI (n + 1)))) (n := 111) rfl (84 + (9 * z) + (n + 1)) (by decide) dX6_send_77 (by omega) (fun (H15 : Heap) (locs15 : List Loc) (hP15 : va_P D vwCl (fl [aW T 0 (q 2) 111 thn, aW T 0 (q 4) 60 txt, aW T 0 (q 5) 27 told, aW T 0 (q 6) 3 wh, mO q (nI (svK kp)) (nI ty) (nI 0) (nI at_) isF op, aW T 0 (q 1) 111 (upd (upd now (84 + (9 * z)) (nI (n + 1))) (84 + (9 * z) + (n + 1)) st), aW T 0 (q 3) 666 (svP now past kp)]) H15) (hD15 : va_D A (fl [aW T 0 (q 2) 111 thn, aW T 0 (q 4) 60 txt, aW T 0 (q 5) 27 told, aW T 0 (q 6) 3 wh, mO q (nI (svK kp)) (nI ty) (nI 0) (nI at_) isF op, aW T 0 (q 1) 111 (upd (upd now (84 + (9 * z)) (nI (n + 1))) (84 + (9 * z) + (n + 1)) st), aW T 0 (q 3) 666 (svP now past kp)])) hS15 => ?_)
        clear hP14 hD14 hS14
        refine lv_aload_n hx hb dX6_send_78 rfl (lv_at hl10 1 rfl) ?_
        refine r_get (own := RX6) (C := RX6) (F := TX6) (N := 12) (ci := 6) (v := .ref (q 1)) hx hb hK hts in_X6 hown hP15 4 rfl rfl 0 (by decide) kw_670 rfl dX6_send_79 ?_
        refine lv_iload_n hx hb dX6_send_82 rfl (lv_at hl10 0 rfl) ?_
        refine r_iald hx hb hK hP15 5 (f := (upd (upd now (84 + (9 * z)) (nI (n + 1))) (84 + (9 * z) + (n + 1)) st)) (n := 111) rfl (84 + (9 * z)) (by decide) dX6_send_83 (by omega) ?_
        refine tp_i (y := nI (n + 1)) (by rw [pk_un (by omega), pk_us]) ?_
        refine ret_i hTG (Nat.le_refl _) (Nat.le_refl _) hx hb hr hlocks (((nI 0), (upd (upd now (84 + (9 * z)) (nI (n + 1))) (84 + (9 * z) + (n + 1)) st), (svP now past kp), (svK kp))) hP15 hD15 hS15 [4, 5, 0, 6, 1, 2, 3] rfl (by decide) dX6_send_84 ?_
        simp only [sendP, sendR, hna, c_9, c_16, c_41, if_true, nIcl (show z < 2147483648 by omega), nIcl (show n < 2147483648 by omega), ↓reduceIte, Bool.false_eq_true] <;> rfl
      · skip
        refine lv_aload_n hx hb dX6_send_44 rfl (lv_at hl10 1 rfl) ?_
        refine lv_iconst (v := nI 2) hx hb dX6_send_45 (by decide) ?_
        have hPc16 : va_P D vwCl (fl [mO q (nI kp) (nI ty) (nI 0) (nI at_) isF op]) _ := flP_sub hP8 [0] rfl
        have hDc16 : va_D A (fl [mO q (nI kp) (nI ty) (nI 0) (nI at_) isF op]) := flD_sub hD8 [0] (by decide) rfl
        refine cl_i (br := [aW T 0 (q 1) 111 now, aW T 0 (q 2) 111 thn, aW T 0 (q 3) 666 past, aW T 0 (q 4) 60 txt, aW T 0 (q 5) 27 told, aW T 0 (q 6) 3 wh]) (va_runV (As := [.int (nI 2)]) (rest := []) ⟨hx, hb, hml, hown, hts⟩ (c_X6_fails l D T q kp ty (nI 0) at_ isF op (nI 2)  _) (mkV hts okX6_fails kw_715 kw_717 ks_12 ⟨rfl, rfl, Nat.le_of_ble_eq_true rfl, Nat.le_of_ble_eq_true rfl⟩) (pv_rw hK hPc16 hDc16 (q0 := 0) rfl rfl rfl) rfl rfl hl10.1 rfl (lv_room (Nat.le_of_ble_eq_true rfl)) dX6_send_46 ⟨Nat.le_of_ble_eq_true rfl, Nat.le_of_ble_eq_true rfl⟩) hP8 hD8 hS8 hA [1, 2, 3, 4, 5, 6] [0] rfl (by decide) (fun r_46 th2_46 H17 locs17 hq_46 hP17 hD17 hS17 => ?_)
        clear hP8 hD8 hS8 hPc16 hDc16
        have hP17 : va_P D vwCl (fl [aW T 0 (q 1) 111 now, aW T 0 (q 2) 111 thn, aW T 0 (q 3) 666 past, aW T 0 (q 4) 60 txt, aW T 0 (q 5) 27 told, aW T 0 (q 6) 3 wh, mO q (nI kp) (nI ty) th2_46 (nI at_) isF op]) _ := hP17
        have hD17 : va_D A (fl [aW T 0 (q 1) 111 now, aW T 0 (q 2) 111 thn, aW T 0 (q 3) 666 past, aW T 0 (q 4) 60 txt, aW T 0 (q 5) 27 told, aW T 0 (q 6) 3 wh, mO q (nI kp) (nI ty) th2_46 (nI at_) isF op]) := hD17
        obtain ⟨hr_46, hq_46⟩ : r_46 = nI 0 ∧ ((nI 2) = th2_46) := hq_46
        subst hr_46
        have hu_th2_46 : (nI 2) = th2_46 := hq_46
        subst hu_th2_46
        refine ret_i hTG (Nat.le_refl _) (Nat.le_refl _) hx hb hr hlocks (((nI 2), now, past, kp)) hP17 hD17 hS17 [6, 0, 1, 2, 3, 4, 5] rfl (by decide) dX6_send_49 ?_
        simp only [sendP, noR, hna, c_9, c_16, c_41, if_true, nIcl (show z < 2147483648 by omega), nIcl (show n < 2147483648 by omega), ↓reduceIte, Bool.false_eq_true] <;> rfl
    · skip
      refine lv_aload_n hx hb dX6_send_19 rfl (lv_at hl0 0 rfl) ?_
      refine lv_iconst (v := nI 1) hx hb dX6_send_20 (by decide) ?_
      have hPc18 : va_P D vwCl (fl [mO q (nI kp) (nI ty) (nI 0) (nI at_) isF op]) _ := flP_sub hP8 [0] rfl
      have hDc18 : va_D A (fl [mO q (nI kp) (nI ty) (nI 0) (nI at_) isF op]) := flD_sub hD8 [0] (by decide) rfl
      refine cl_i (br := [aW T 0 (q 1) 111 now, aW T 0 (q 2) 111 thn, aW T 0 (q 3) 666 past, aW T 0 (q 4) 60 txt, aW T 0 (q 5) 27 told, aW T 0 (q 6) 3 wh]) (va_runV (As := [.int (nI 1)]) (rest := []) ⟨hx, hb, hml, hown, hts⟩ (c_X6_fails l D T q kp ty (nI 0) at_ isF op (nI 1)  _) (mkV hts okX6_fails kw_715 kw_717 ks_12 ⟨rfl, rfl, Nat.le_of_ble_eq_true rfl, Nat.le_of_ble_eq_true rfl⟩) (pv_rw hK hPc18 hDc18 (q0 := 0) rfl rfl rfl) rfl rfl hl0.1 rfl (lv_room (Nat.le_of_ble_eq_true rfl)) dX6_send_21 ⟨Nat.le_of_ble_eq_true rfl, Nat.le_of_ble_eq_true rfl⟩) hP8 hD8 hS8 hA [1, 2, 3, 4, 5, 6] [0] rfl (by decide) (fun r_21 th2_21 H19 locs19 hq_21 hP19 hD19 hS19 => ?_)
      clear hP8 hD8 hS8 hPc18 hDc18
      have hP19 : va_P D vwCl (fl [aW T 0 (q 1) 111 now, aW T 0 (q 2) 111 thn, aW T 0 (q 3) 666 past, aW T 0 (q 4) 60 txt, aW T 0 (q 5) 27 told, aW T 0 (q 6) 3 wh, mO q (nI kp) (nI ty) th2_21 (nI at_) isF op]) _ := hP19
      have hD19 : va_D A (fl [aW T 0 (q 1) 111 now, aW T 0 (q 2) 111 thn, aW T 0 (q 3) 666 past, aW T 0 (q 4) 60 txt, aW T 0 (q 5) 27 told, aW T 0 (q 6) 3 wh, mO q (nI kp) (nI ty) th2_21 (nI at_) isF op]) := hD19
      obtain ⟨hr_21, hq_21⟩ : r_21 = nI 0 ∧ ((nI 1) = th2_21) := hq_21
      subst hr_21
      have hu_th2_21 : (nI 1) = th2_21 := hq_21
      subst hu_th2_21
      refine ret_i hTG (Nat.le_refl _) (Nat.le_refl _) hx hb hr hlocks (((nI 1), now, past, kp)) hP19 hD19 hS19 [6, 0, 1, 2, 3, 4, 5] rfl (by decide) dX6_send_24 ?_
      simp only [sendP, noR, c_9, c_16, if_true, ↓reduceIte, Bool.false_eq_true] <;> rfl
set_option maxHeartbeats 4000000 in
set_option maxRecDepth 100000 in
theorem c_X6_skip (l : Launch) (D : va_G) (T : TI) (q : Nat → Nat) (kp : Nat) (ty : Nat) (th : Int32) (at_ : Nat) (isF : Bool) (op : Int32) (now : Nat → Int32) (thn : Nat → Int32) (past : Nat → Int32) (txt : Nat → Int32) (told : Nat → Int32) (wh : Nat → Int32) (cr : Int32) (hkp : kp ≤ 6) (hok : okM now) : CI l yX6_skip cX6_skip 3 .int (rmD 2 0 0) D T [.ref (q 0), .int cr] [mO q (nI kp) (nI ty) th (nI at_) isF op, aW T 0 (q 1) 111 now, aW T 0 (q 2) 111 thn, aW T 0 (q 3) 666 past, aW T 0 (q 4) 60 txt, aW T 0 (q 5) 27 told, aW T 0 (q 6) 3 wh] 0 0 (β := Int32 × (Nat → Int32) × (Nat → Int32) × Nat) (fun ⟨th2, now2, past2, kp2⟩ => [mO q (nI kp2) (nI ty) th2 (nI at_) isF op, aW T 0 (q 1) 111 now2, aW T 0 (q 2) 111 thn, aW T 0 (q 3) 666 past2, aW T 0 (q 4) 60 txt, aW T 0 (q 5) 27 told, aW T 0 (q 6) 3 wh]) (fun (r : Int32) ⟨th2, now2, past2, kp2⟩ => (r, th2, now2, past2, kp2) = skipP cr now past kp) := by
  intro sz
  refine met_rw (Qc := fun A => va_Qi _ (PST D _ A) A) rfl (Nat.le_of_ble_eq_true rfl) ?_
  intro pX eX sX mX bX mtX cX A hAe hC hA hP0 hD0 hS0 ls0 hl0 TG hTG
  clear hAe
  obtain ⟨hx, hb, hr, hml, hown, hts, hlocks, hin, hK⟩ := hC
  have hown : sX.vm.findClass RX6 = some mX.cls := hown
  have hl0 : lv_has ls0 3 [(0, .ref (q 0)), (1, .int cr)] := hl0
  refine lv_aload_n hx hb dX6_skip_0 rfl (lv_at hl0 0 rfl) ?_
  refine lv_iconst (v := nI 0) hx hb dX6_skip_1 (by decide) ?_
  refine r_put (own := RX6) (C := RX6) (F := TX6) (N := 12) (ci := 6) (v := nI 0) hx hb hK hts in_X6 tyX6 tyX6_ok nmX6 hown hP0 hD0 hS0 0 rfl rfl 6 (by decide) kw_676 rfl rfl (Nat.le_of_ble_eq_true rfl) dX6_skip_2 (fun (H1 : Heap) (locs1 : List Loc) (hP1 : va_P D vwCl (fl [mO q (nI kp) (nI ty) (nI 0) (nI at_) isF op, aW T 0 (q 1) 111 now, aW T 0 (q 2) 111 thn, aW T 0 (q 3) 666 past, aW T 0 (q 4) 60 txt, aW T 0 (q 5) 27 told, aW T 0 (q 6) 3 wh]) H1) (hD1 : va_D A (fl [mO q (nI kp) (nI ty) (nI 0) (nI at_) isF op, aW T 0 (q 1) 111 now, aW T 0 (q 2) 111 thn, aW T 0 (q 3) 666 past, aW T 0 (q 4) 60 txt, aW T 0 (q 5) 27 told, aW T 0 (q 6) 3 wh])) hS1 => ?_)
  clear hP0 hD0 hS0
  refine lv_iload_n hx hb dX6_skip_5 rfl (lv_at hl0 1 rfl) ?_
  have hPc2 : va_P D vwCl (fl []) _ := hP1.sub [] rfl
  refine cr_i (va_runS (As := [.int cr]) (rest := []) ⟨hx, hb, hml, hown, hts⟩ (c_X6_isCrew l D T cr ) (mkS hts okX6_isCrew kw_756 kw_757 ⟨rfl, rfl, Nat.le_of_ble_eq_true rfl, Nat.le_of_ble_eq_true rfl⟩) (ps_ro hK hPc2) rfl rfl hl0.1 rfl (lv_room (Nat.le_of_ble_eq_true rfl)) dX6_skip_6 ⟨Nat.le_of_ble_eq_true rfl, Nat.le_of_ble_eq_true rfl⟩) hP1 hS1 (fun r_6 H3 locs3 hq_6 hP3 hS3 => ?_)
  clear hP1 hS1 hPc2
  have hD3 := hD1
  clear hD1
  have hq_6 : r_6 = bI (inB cr (nI 0) (nI 2)) := hq_6
  subst hq_6
  refine z_if_ne (tgt := 18) hx hb dX6_skip_9 (by decide) (fun c_9 => ?_) (fun c_9 => ?_)
  · skip
    obtain ⟨z, hz, rfl⟩ := inB_t c_9 (by decide)
    refine lv_aload_n hx hb dX6_skip_18 rfl (lv_at hl0 0 rfl) ?_
    have hPc5 : va_P D vwCl (fl [mO q (nI kp) (nI ty) (nI 0) (nI at_) isF op, aW T 0 (q 1) 111 now, aW T 0 (q 3) 666 past]) _ := flP_sub hP3 [0, 1, 3] rfl
    have hDc5 : va_D A (fl [mO q (nI kp) (nI ty) (nI 0) (nI at_) isF op, aW T 0 (q 1) 111 now, aW T 0 (q 3) 666 past]) := flD_sub hD3 [0, 1, 3] (by decide) rfl
    refine cl_v (br := [aW T 0 (q 2) 111 thn, aW T 0 (q 4) 60 txt, aW T 0 (q 5) 27 told, aW T 0 (q 6) 3 wh]) (va_runV (As := []) (rest := []) ⟨hx, hb, hml, hown, hts⟩ (c_X6_saves l D T q kp ty (nI 0) at_ isF op now past (by omega) _) (mkV hts okX6_saves kw_729 kw_731 ks_13 ⟨rfl, rfl, Nat.le_of_ble_eq_true rfl, Nat.le_of_ble_eq_true rfl⟩) (pv_rw hK hPc5 hDc5 (q0 := 0) rfl rfl rfl) rfl rfl hl0.1 rfl (lv_room (Nat.le_of_ble_eq_true rfl)) dX6_skip_19 ⟨Nat.le_of_ble_eq_true rfl, Nat.le_of_ble_eq_true rfl⟩) hP3 hD3 hS3 hA [2, 4, 5, 6] [0, 1, 3] rfl (by decide) (fun u_19 H6 locs6 hq_19 hP6 hD6 hS6 => ?_)
    clear hP3 hD3 hS3 hPc5 hDc5
    obtain ⟨past2_19, kp2_19⟩ := u_19
    have hP6 : va_P D vwCl (fl [aW T 0 (q 2) 111 thn, aW T 0 (q 4) 60 txt, aW T 0 (q 5) 27 told, aW T 0 (q 6) 3 wh, mO q (nI kp2_19) (nI ty) (nI 0) (nI at_) isF op, aW T 0 (q 1) 111 now, aW T 0 (q 3) 666 past2_19]) _ := hP6
    have hD6 : va_D A (fl [aW T 0 (q 2) 111 thn, aW T 0 (q 4) 60 txt, aW T 0 (q 5) 27 told, aW T 0 (q 6) 3 wh, mO q (nI kp2_19) (nI ty) (nI 0) (nI at_) isF op, aW T 0 (q 1) 111 now, aW T 0 (q 3) 666 past2_19]) := hD6
    have hq_19 : svP now past kp = past2_19 ∧ svK kp = kp2_19 := hq_19
    obtain ⟨hu_past2_19, hu_kp2_19⟩ := hq_19
    subst hu_past2_19
    subst hu_kp2_19
    refine lv_aload_n hx hb dX6_skip_22 rfl (lv_at hl0 0 rfl) ?_
    refine r_get (own := RX6) (C := RX6) (F := TX6) (N := 12) (ci := 6) (v := .ref (q 1)) hx hb hK hts in_X6 hown hP6 4 rfl rfl 0 (by decide) kw_670 rfl dX6_skip_23 ?_
    refine lv_iload_n hx hb dX6_skip_26 rfl (lv_at hl0 1 rfl) ?_
    have hPc7 : va_P D vwCl (fl [aW T 0 (q 1) 111 now]) _ := hP6.sub [5] rfl
    refine cr_i (va_runS (As := [.ref (q 1), .int (nI z)]) (rest := []) ⟨hx, hb, hml, hown, hts⟩ (c_X6_first l D T (q 1) now z (by omega)) (mkS hts okX6_first kw_763 kw_764 ⟨rfl, rfl, Nat.le_of_ble_eq_true rfl, Nat.le_of_ble_eq_true rfl⟩) (ps_ro hK hPc7) rfl rfl hl0.1 rfl (lv_room (Nat.le_of_ble_eq_true rfl)) dX6_skip_27 ⟨Nat.le_of_ble_eq_true rfl, Nat.le_of_ble_eq_true rfl⟩) hP6 hS6 (fun r_27 H8 locs8 hq_27 hP8 hS8 => ?_)
    clear hP6 hS6 hPc7
    have hD8 := hD6
    clear hD6
    have hq_27 : r_27 = frM now z := hq_27
    subst hq_27
    refine lv_istore_n (lv' := [(2, .int (frM now z)), (0, .ref (q 0)), (1, .int (nI z))]) hx hb dX6_skip_30 rfl hl0 (by decide) rfl (fun ls9 hl9 => ?_)
    clear hl0
    refine lv_iload_n hx hb dX6_skip_31 rfl (lv_at hl9 0 rfl) ?_
    refine lv_iconst (v := (-1)) hx hb dX6_skip_32 (by decide) ?_
    refine lv_icmp_eq (tgt := 44) hx hb dX6_skip_33 (by decide) (fun c_33 => ?_) (fun c_33 => ?_)
    · skip
      refine lv_iload_n hx hb dX6_skip_44 rfl (lv_at hl9 0 rfl) ?_
      refine ret_i hTG (Nat.le_refl _) (Nat.le_refl _) hx hb hr hlocks (((nI 0), now, (svP now past kp), (svK kp))) hP8 hD8 hS8 [4, 5, 0, 6, 1, 2, 3] rfl (by decide) dX6_skip_45 ?_
      simp only [skipP, c_9, c_33, if_true, nIcl (show z < 2147483648 by omega), ↓reduceIte, Bool.false_eq_true] <;> first | rfl | (unfold skM; rw [hna, nIcl (show n < 2147483648 by omega)])
    · skip
      obtain ⟨n, hn8, hna, -⟩ := hok z (by omega)
      have hn0 : 0 < n := by
        rcases Nat.eq_zero_or_pos n with e | e
        · subst e; exact absurd (show frM now z = -1 from if_pos hna) c_33
        · exact e
      refine lv_aload_n hx hb dX6_skip_36 rfl (lv_at hl9 1 rfl) ?_
      refine r_get (own := RX6) (C := RX6) (F := TX6) (N := 12) (ci := 6) (v := .ref (q 1)) hx hb hK hts in_X6 hown hP8 4 rfl rfl 0 (by decide) kw_670 rfl dX6_skip_37 ?_
      refine lv_iload_n hx hb dX6_skip_40 rfl (lv_at hl9 2 rfl) ?_
      have hPc11 : va_P D vwCl (fl [aW T 0 (q 1) 111 now]) _ := flP_sub hP8 [5] rfl
      have hDc11 : va_D A (fl [aW T 0 (q 1) 111 now]) := flD_sub hD8 [5] (by decide) rfl
      refine cl_v (br := [aW T 0 (q 2) 111 thn, aW T 0 (q 4) 60 txt, aW T 0 (q 5) 27 told, aW T 0 (q 6) 3 wh, mO q (nI (svK kp)) (nI ty) (nI 0) (nI at_) isF op, aW T 0 (q 3) 666 (svP now past kp)]) (va_runS (As := [.ref (q 1), .int (nI z)]) (rest := []) ⟨hx, hb, hml, hown, hts⟩ (c_X6_skips l D T (q 1) now z n (by omega) (by omega) (by omega) (hna) _) (mkS hts okX6_skips kw_766 kw_767 ⟨rfl, rfl, Nat.le_of_ble_eq_true rfl, Nat.le_of_ble_eq_true rfl⟩) (ps_rw hK hPc11 hDc11) rfl rfl hl9.1 rfl (lv_room (Nat.le_of_ble_eq_true rfl)) dX6_skip_41 ⟨Nat.le_of_ble_eq_true rfl, Nat.le_of_ble_eq_true rfl⟩) hP8 hD8 hS8 hA [0, 1, 2, 3, 4, 6] [5] rfl (by decide) (fun a2_41 H12 locs12 hq_41 hP12 hD12 hS12 => ?_)
      clear hP8 hD8 hS8 hPc11 hDc11
      have hP12 : va_P D vwCl (fl [aW T 0 (q 2) 111 thn, aW T 0 (q 4) 60 txt, aW T 0 (q 5) 27 told, aW T 0 (q 6) 3 wh, mO q (nI (svK kp)) (nI ty) (nI 0) (nI at_) isF op, aW T 0 (q 3) 666 (svP now past kp), aW T 0 (q 1) 111 a2_41]) _ := hP12
      have hD12 : va_D A (fl [aW T 0 (q 2) 111 thn, aW T 0 (q 4) 60 txt, aW T 0 (q 5) 27 told, aW T 0 (q 6) 3 wh, mO q (nI (svK kp)) (nI ty) (nI 0) (nI at_) isF op, aW T 0 (q 3) 666 (svP now past kp), aW T 0 (q 1) 111 a2_41]) := hD12
      have hq_41 : skI now (84 + 9 * z) n n = a2_41 := hq_41
      have hu_a2_41 : skI now (84 + 9 * z) n n = a2_41 := hq_41
      subst hu_a2_41
      refine lv_iload_n hx hb dX6_skip_44 rfl (lv_at hl9 0 rfl) ?_
      refine ret_i hTG (Nat.le_refl _) (Nat.le_refl _) hx hb hr hlocks (((nI 0), (skI now (84 + 9 * z) n n), (svP now past kp), (svK kp))) hP12 hD12 hS12 [4, 6, 0, 5, 1, 2, 3] rfl (by decide) dX6_skip_45 ?_
      simp only [skipP, c_9, c_33, if_true, nIcl (show z < 2147483648 by omega), ↓reduceIte, Bool.false_eq_true] <;> first | rfl | (unfold skM; rw [hna, nIcl (show n < 2147483648 by omega)])
  · skip
    refine lv_aload_n hx hb dX6_skip_12 rfl (lv_at hl0 0 rfl) ?_
    refine lv_iconst (v := nI 1) hx hb dX6_skip_13 (by decide) ?_
    have hPc13 : va_P D vwCl (fl [mO q (nI kp) (nI ty) (nI 0) (nI at_) isF op]) _ := flP_sub hP3 [0] rfl
    have hDc13 : va_D A (fl [mO q (nI kp) (nI ty) (nI 0) (nI at_) isF op]) := flD_sub hD3 [0] (by decide) rfl
    refine cl_i (br := [aW T 0 (q 1) 111 now, aW T 0 (q 2) 111 thn, aW T 0 (q 3) 666 past, aW T 0 (q 4) 60 txt, aW T 0 (q 5) 27 told, aW T 0 (q 6) 3 wh]) (va_runV (As := [.int (nI 1)]) (rest := []) ⟨hx, hb, hml, hown, hts⟩ (c_X6_fails l D T q kp ty (nI 0) at_ isF op (nI 1)  _) (mkV hts okX6_fails kw_715 kw_717 ks_12 ⟨rfl, rfl, Nat.le_of_ble_eq_true rfl, Nat.le_of_ble_eq_true rfl⟩) (pv_rw hK hPc13 hDc13 (q0 := 0) rfl rfl rfl) rfl rfl hl0.1 rfl (lv_room (Nat.le_of_ble_eq_true rfl)) dX6_skip_14 ⟨Nat.le_of_ble_eq_true rfl, Nat.le_of_ble_eq_true rfl⟩) hP3 hD3 hS3 hA [1, 2, 3, 4, 5, 6] [0] rfl (by decide) (fun r_14 th2_14 H14 locs14 hq_14 hP14 hD14 hS14 => ?_)
    clear hP3 hD3 hS3 hPc13 hDc13
    have hP14 : va_P D vwCl (fl [aW T 0 (q 1) 111 now, aW T 0 (q 2) 111 thn, aW T 0 (q 3) 666 past, aW T 0 (q 4) 60 txt, aW T 0 (q 5) 27 told, aW T 0 (q 6) 3 wh, mO q (nI kp) (nI ty) th2_14 (nI at_) isF op]) _ := hP14
    have hD14 : va_D A (fl [aW T 0 (q 1) 111 now, aW T 0 (q 2) 111 thn, aW T 0 (q 3) 666 past, aW T 0 (q 4) 60 txt, aW T 0 (q 5) 27 told, aW T 0 (q 6) 3 wh, mO q (nI kp) (nI ty) th2_14 (nI at_) isF op]) := hD14
    obtain ⟨hr_14, hq_14⟩ : r_14 = nI 0 ∧ ((nI 1) = th2_14) := hq_14
    subst hr_14
    have hu_th2_14 : (nI 1) = th2_14 := hq_14
    subst hu_th2_14
    refine ret_i hTG (Nat.le_refl _) (Nat.le_refl _) hx hb hr hlocks (((nI 1), now, past, kp)) hP14 hD14 hS14 [6, 0, 1, 2, 3, 4, 5] rfl (by decide) dX6_skip_17 ?_
    simp only [skipP, noR, c_9, if_true, ↓reduceIte, Bool.false_eq_true] <;> rfl
set_option maxHeartbeats 4000000 in
set_option maxRecDepth 100000 in
theorem c_X6_isFor (l : Launch) (D : va_G) (T : TI) (k : Nat) (v : Int32) (hk : k ≤ 3) : OI l yX6_isFor cX6_isFor 2 .boolean (rmD 1 0 0) D T [.int (nI k), .int v] [] (fun r => r = bI (forB k v)) := by
  refine met_ro rfl (Nat.le_of_ble_eq_true rfl) ?_
  intro pX eX sX mX bX mtX cX hC hP0 hS0 ls0 hl0 TG hTG
  obtain ⟨hx, hb, hr, hml, hown, hts, hlocks, hin, hK⟩ := hC
  have hown : sX.vm.findClass RX6 = some mX.cls := hown
  have hl0 : lv_has ls0 2 [(0, .int (nI k)), (1, .int v)] := hl0
  refine lv_iload_n hx hb dX6_isFor_0 rfl (lv_at hl0 1 rfl) ?_
  refine lv_iload_n hx hb dX6_isFor_1 rfl (lv_at hl0 0 rfl) ?_
  refine lv_iconst (v := nI 2) hx hb dX6_isFor_2 (by decide) ?_
  refine n_icmp_ne (tgt := 10) hx hb (by omega) (by omega) dX6_isFor_3 (by decide) (fun c_3 => ?_) (fun c_3 => ?_)
  · skip
    refine lv_iconst (v := nI 0) hx hb dX6_isFor_10 (by decide) ?_
    refine lv_iload_n hx hb dX6_isFor_11 rfl (lv_at hl0 0 rfl) ?_
    refine n_if_ne (tgt := 20) hx hb (by omega) dX6_isFor_12 (by decide) (fun c_12 => ?_) (fun c_12 => ?_)
    · skip
      refine lv_iload_n hx hb dX6_isFor_20 rfl (lv_at hl0 0 rfl) ?_
      refine lv_iconst (v := nI 1) hx hb dX6_isFor_21 (by decide) ?_
      refine n_icmp_ne (tgt := 30) hx hb (by omega) (by omega) dX6_isFor_22 (by decide) (fun c_22 => ?_) (fun c_22 => ?_)
      · skip
        refine lv_iload_n hx hb dX6_isFor_30 rfl (lv_at hl0 0 rfl) ?_
        refine lv_iconst (v := nI 2) hx hb dX6_isFor_31 (by decide) ?_
        refine n_icmp_ne (tgt := 40) hx hb (by omega) (by omega) dX6_isFor_32 (by decide) (fun c_32 => ?_) (fun c_32 => ?_)
        · skip
          refine lv_bipush (v := nI 20) hx hb dX6_isFor_40 (by decide) ?_
          have hPc5 : va_P D vwCl (fl []) _ := hP0.sub [] rfl
          refine cr_i (va_runS (As := [.int v, .int (nI 0), .int (nI 20)]) (rest := []) ⟨hx, hb, hml, hown, hts⟩ (c_X6_in l D T v (nI 0) (nI 20) ) (mkS hts okX6_in kw_726 kw_727 ⟨rfl, rfl, Nat.le_of_ble_eq_true rfl, Nat.le_of_ble_eq_true rfl⟩) (ps_ro hK hPc5) rfl rfl hl0.1 rfl (lv_room (Nat.le_of_ble_eq_true rfl)) dX6_isFor_42 ⟨Nat.le_of_ble_eq_true rfl, Nat.le_of_ble_eq_true rfl⟩) hP0 hS0 (fun r_42 H6 locs6 hq_42 hP6 hS6 => ?_)
          clear hP0 hS0 hPc5
          have hq_42 : r_42 = bI (inB v (nI 0) (nI 20)) := hq_42
          subst hq_42
          refine ro_z (b := (inB v (nI 0) (nI 20))) rfl hTG (Nat.le_refl _) (Nat.le_refl _) hx hb hr hlocks hS6 dX6_isFor_45 ?_
          rcases (show k = 0 ∨ k = 1 ∨ k = 2 ∨ k = 3 by omega) with rfl | rfl | rfl | rfl <;> first | rfl | omega
        · skip
          refine lv_bipush (v := nI 9) hx hb dX6_isFor_35 (by decide) ?_
          refine lv_goto (tgt := 42) hx hb dX6_isFor_37 (by decide) ?_
          have hPc7 : va_P D vwCl (fl []) _ := hP0.sub [] rfl
          refine cr_i (va_runS (As := [.int v, .int (nI 0), .int (nI 9)]) (rest := []) ⟨hx, hb, hml, hown, hts⟩ (c_X6_in l D T v (nI 0) (nI 9) ) (mkS hts okX6_in kw_726 kw_727 ⟨rfl, rfl, Nat.le_of_ble_eq_true rfl, Nat.le_of_ble_eq_true rfl⟩) (ps_ro hK hPc7) rfl rfl hl0.1 rfl (lv_room (Nat.le_of_ble_eq_true rfl)) dX6_isFor_42 ⟨Nat.le_of_ble_eq_true rfl, Nat.le_of_ble_eq_true rfl⟩) hP0 hS0 (fun r_42 H8 locs8 hq_42 hP8 hS8 => ?_)
          clear hP0 hS0 hPc7
          have hq_42 : r_42 = bI (inB v (nI 0) (nI 9)) := hq_42
          subst hq_42
          refine ro_z (b := (inB v (nI 0) (nI 9))) rfl hTG (Nat.le_refl _) (Nat.le_refl _) hx hb hr hlocks hS8 dX6_isFor_45 ?_
          rcases (show k = 0 ∨ k = 1 ∨ k = 2 ∨ k = 3 by omega) with rfl | rfl | rfl | rfl <;> first | rfl | omega
      · skip
        refine lv_bipush (v := nI 60) hx hb dX6_isFor_25 (by decide) ?_
        refine lv_goto (tgt := 42) hx hb dX6_isFor_27 (by decide) ?_
        have hPc9 : va_P D vwCl (fl []) _ := hP0.sub [] rfl
        refine cr_i (va_runS (As := [.int v, .int (nI 0), .int (nI 60)]) (rest := []) ⟨hx, hb, hml, hown, hts⟩ (c_X6_in l D T v (nI 0) (nI 60) ) (mkS hts okX6_in kw_726 kw_727 ⟨rfl, rfl, Nat.le_of_ble_eq_true rfl, Nat.le_of_ble_eq_true rfl⟩) (ps_ro hK hPc9) rfl rfl hl0.1 rfl (lv_room (Nat.le_of_ble_eq_true rfl)) dX6_isFor_42 ⟨Nat.le_of_ble_eq_true rfl, Nat.le_of_ble_eq_true rfl⟩) hP0 hS0 (fun r_42 H10 locs10 hq_42 hP10 hS10 => ?_)
        clear hP0 hS0 hPc9
        have hq_42 : r_42 = bI (inB v (nI 0) (nI 60)) := hq_42
        subst hq_42
        refine ro_z (b := (inB v (nI 0) (nI 60))) rfl hTG (Nat.le_refl _) (Nat.le_refl _) hx hb hr hlocks hS10 dX6_isFor_45 ?_
        rcases (show k = 0 ∨ k = 1 ∨ k = 2 ∨ k = 3 by omega) with rfl | rfl | rfl | rfl <;> first | rfl | omega
    · skip
      refine lv_bipush (v := nI 99) hx hb dX6_isFor_15 (by decide) ?_
      refine lv_goto (tgt := 42) hx hb dX6_isFor_17 (by decide) ?_
      have hPc11 : va_P D vwCl (fl []) _ := hP0.sub [] rfl
      refine cr_i (va_runS (As := [.int v, .int (nI 0), .int (nI 99)]) (rest := []) ⟨hx, hb, hml, hown, hts⟩ (c_X6_in l D T v (nI 0) (nI 99) ) (mkS hts okX6_in kw_726 kw_727 ⟨rfl, rfl, Nat.le_of_ble_eq_true rfl, Nat.le_of_ble_eq_true rfl⟩) (ps_ro hK hPc11) rfl rfl hl0.1 rfl (lv_room (Nat.le_of_ble_eq_true rfl)) dX6_isFor_42 ⟨Nat.le_of_ble_eq_true rfl, Nat.le_of_ble_eq_true rfl⟩) hP0 hS0 (fun r_42 H12 locs12 hq_42 hP12 hS12 => ?_)
      clear hP0 hS0 hPc11
      have hq_42 : r_42 = bI (inB v (nI 0) (nI 99)) := hq_42
      subst hq_42
      refine ro_z (b := (inB v (nI 0) (nI 99))) rfl hTG (Nat.le_refl _) (Nat.le_refl _) hx hb hr hlocks hS12 dX6_isFor_45 ?_
      rcases (show k = 0 ∨ k = 1 ∨ k = 2 ∨ k = 3 by omega) with rfl | rfl | rfl | rfl <;> first | rfl | omega
  · skip
    refine lv_iconst (v := nI 1) hx hb dX6_isFor_6 (by decide) ?_
    refine lv_goto (tgt := 11) hx hb dX6_isFor_7 (by decide) ?_
    refine lv_iload_n hx hb dX6_isFor_11 rfl (lv_at hl0 0 rfl) ?_
    refine n_if_ne (tgt := 20) hx hb (by omega) dX6_isFor_12 (by decide) (fun c_12 => ?_) (fun c_12 => ?_)
    · skip
      refine lv_iload_n hx hb dX6_isFor_20 rfl (lv_at hl0 0 rfl) ?_
      refine lv_iconst (v := nI 1) hx hb dX6_isFor_21 (by decide) ?_
      refine n_icmp_ne (tgt := 30) hx hb (by omega) (by omega) dX6_isFor_22 (by decide) (fun c_22 => ?_) (fun c_22 => ?_)
      · skip
        refine lv_iload_n hx hb dX6_isFor_30 rfl (lv_at hl0 0 rfl) ?_
        refine lv_iconst (v := nI 2) hx hb dX6_isFor_31 (by decide) ?_
        refine n_icmp_ne (tgt := 40) hx hb (by omega) (by omega) dX6_isFor_32 (by decide) (fun c_32 => ?_) (fun c_32 => ?_)
        · skip
          refine lv_bipush (v := nI 20) hx hb dX6_isFor_40 (by decide) ?_
          have hPc16 : va_P D vwCl (fl []) _ := hP0.sub [] rfl
          refine cr_i (va_runS (As := [.int v, .int (nI 1), .int (nI 20)]) (rest := []) ⟨hx, hb, hml, hown, hts⟩ (c_X6_in l D T v (nI 1) (nI 20) ) (mkS hts okX6_in kw_726 kw_727 ⟨rfl, rfl, Nat.le_of_ble_eq_true rfl, Nat.le_of_ble_eq_true rfl⟩) (ps_ro hK hPc16) rfl rfl hl0.1 rfl (lv_room (Nat.le_of_ble_eq_true rfl)) dX6_isFor_42 ⟨Nat.le_of_ble_eq_true rfl, Nat.le_of_ble_eq_true rfl⟩) hP0 hS0 (fun r_42 H17 locs17 hq_42 hP17 hS17 => ?_)
          clear hP0 hS0 hPc16
          have hq_42 : r_42 = bI (inB v (nI 1) (nI 20)) := hq_42
          subst hq_42
          refine ro_z (b := (inB v (nI 1) (nI 20))) rfl hTG (Nat.le_refl _) (Nat.le_refl _) hx hb hr hlocks hS17 dX6_isFor_45 ?_
          rcases (show k = 0 ∨ k = 1 ∨ k = 2 ∨ k = 3 by omega) with rfl | rfl | rfl | rfl <;> first | rfl | omega
        · skip
          refine lv_bipush (v := nI 9) hx hb dX6_isFor_35 (by decide) ?_
          refine lv_goto (tgt := 42) hx hb dX6_isFor_37 (by decide) ?_
          have hPc18 : va_P D vwCl (fl []) _ := hP0.sub [] rfl
          refine cr_i (va_runS (As := [.int v, .int (nI 1), .int (nI 9)]) (rest := []) ⟨hx, hb, hml, hown, hts⟩ (c_X6_in l D T v (nI 1) (nI 9) ) (mkS hts okX6_in kw_726 kw_727 ⟨rfl, rfl, Nat.le_of_ble_eq_true rfl, Nat.le_of_ble_eq_true rfl⟩) (ps_ro hK hPc18) rfl rfl hl0.1 rfl (lv_room (Nat.le_of_ble_eq_true rfl)) dX6_isFor_42 ⟨Nat.le_of_ble_eq_true rfl, Nat.le_of_ble_eq_true rfl⟩) hP0 hS0 (fun r_42 H19 locs19 hq_42 hP19 hS19 => ?_)
          clear hP0 hS0 hPc18
          have hq_42 : r_42 = bI (inB v (nI 1) (nI 9)) := hq_42
          subst hq_42
          refine ro_z (b := (inB v (nI 1) (nI 9))) rfl hTG (Nat.le_refl _) (Nat.le_refl _) hx hb hr hlocks hS19 dX6_isFor_45 ?_
          rcases (show k = 0 ∨ k = 1 ∨ k = 2 ∨ k = 3 by omega) with rfl | rfl | rfl | rfl <;> first | rfl | omega
      · skip
        refine lv_bipush (v := nI 60) hx hb dX6_isFor_25 (by decide) ?_
        refine lv_goto (tgt := 42) hx hb dX6_isFor_27 (by decide) ?_
        have hPc20 : va_P D vwCl (fl []) _ := hP0.sub [] rfl
        refine cr_i (va_runS (As := [.int v, .int (nI 1), .int (nI 60)]) (rest := []) ⟨hx, hb, hml, hown, hts⟩ (c_X6_in l D T v (nI 1) (nI 60) ) (mkS hts okX6_in kw_726 kw_727 ⟨rfl, rfl, Nat.le_of_ble_eq_true rfl, Nat.le_of_ble_eq_true rfl⟩) (ps_ro hK hPc20) rfl rfl hl0.1 rfl (lv_room (Nat.le_of_ble_eq_true rfl)) dX6_isFor_42 ⟨Nat.le_of_ble_eq_true rfl, Nat.le_of_ble_eq_true rfl⟩) hP0 hS0 (fun r_42 H21 locs21 hq_42 hP21 hS21 => ?_)
        clear hP0 hS0 hPc20
        have hq_42 : r_42 = bI (inB v (nI 1) (nI 60)) := hq_42
        subst hq_42
        refine ro_z (b := (inB v (nI 1) (nI 60))) rfl hTG (Nat.le_refl _) (Nat.le_refl _) hx hb hr hlocks hS21 dX6_isFor_45 ?_
        rcases (show k = 0 ∨ k = 1 ∨ k = 2 ∨ k = 3 by omega) with rfl | rfl | rfl | rfl <;> first | rfl | omega
    · skip
      refine lv_bipush (v := nI 99) hx hb dX6_isFor_15 (by decide) ?_
      refine lv_goto (tgt := 42) hx hb dX6_isFor_17 (by decide) ?_
      have hPc22 : va_P D vwCl (fl []) _ := hP0.sub [] rfl
      refine cr_i (va_runS (As := [.int v, .int (nI 1), .int (nI 99)]) (rest := []) ⟨hx, hb, hml, hown, hts⟩ (c_X6_in l D T v (nI 1) (nI 99) ) (mkS hts okX6_in kw_726 kw_727 ⟨rfl, rfl, Nat.le_of_ble_eq_true rfl, Nat.le_of_ble_eq_true rfl⟩) (ps_ro hK hPc22) rfl rfl hl0.1 rfl (lv_room (Nat.le_of_ble_eq_true rfl)) dX6_isFor_42 ⟨Nat.le_of_ble_eq_true rfl, Nat.le_of_ble_eq_true rfl⟩) hP0 hS0 (fun r_42 H23 locs23 hq_42 hP23 hS23 => ?_)
      clear hP0 hS0 hPc22
      have hq_42 : r_42 = bI (inB v (nI 1) (nI 99)) := hq_42
      subst hq_42
      refine ro_z (b := (inB v (nI 1) (nI 99))) rfl hTG (Nat.le_refl _) (Nat.le_refl _) hx hb hr hlocks hS23 dX6_isFor_45 ?_
      rcases (show k = 0 ∨ k = 1 ∨ k = 2 ∨ k = 3 by omega) with rfl | rfl | rfl | rfl <;> first | rfl | omega
set_option maxHeartbeats 4000000 in
set_option maxRecDepth 100000 in
theorem c_X6_set (l : Launch) (D : va_G) (T : TI) (q : Nat → Nat) (kp : Nat) (ty : Nat) (th : Int32) (at_ : Nat) (isF : Bool) (op : Int32) (now : Nat → Int32) (thn : Nat → Int32) (past : Nat → Int32) (txt : Nat → Int32) (told : Nat → Int32) (wh : Nat → Int32) (se : Int32) (v : Int32) (hkp : kp ≤ 6) : CI l yX6_set cX6_set 3 .int (rmD 2 0 0) D T [.ref (q 0), .int se, .int v] [mO q (nI kp) (nI ty) th (nI at_) isF op, aW T 0 (q 1) 111 now, aW T 0 (q 2) 111 thn, aW T 0 (q 3) 666 past, aW T 0 (q 4) 60 txt, aW T 0 (q 5) 27 told, aW T 0 (q 6) 3 wh] 0 0 (β := Int32 × (Nat → Int32) × (Nat → Int32) × Nat) (fun ⟨th2, now2, past2, kp2⟩ => [mO q (nI kp2) (nI ty) th2 (nI at_) isF op, aW T 0 (q 1) 111 now2, aW T 0 (q 2) 111 thn, aW T 0 (q 3) 666 past2, aW T 0 (q 4) 60 txt, aW T 0 (q 5) 27 told, aW T 0 (q 6) 3 wh]) (fun (r : Int32) ⟨th2, now2, past2, kp2⟩ => (r, th2, now2, past2, kp2) = setP se v now past kp) := by
  intro sz
  refine met_rw (Qc := fun A => va_Qi _ (PST D _ A) A) rfl (Nat.le_of_ble_eq_true rfl) ?_
  intro pX eX sX mX bX mtX cX A hAe hC hA hP0 hD0 hS0 ls0 hl0 TG hTG
  clear hAe
  obtain ⟨hx, hb, hr, hml, hown, hts, hlocks, hin, hK⟩ := hC
  have hown : sX.vm.findClass RX6 = some mX.cls := hown
  have hl0 : lv_has ls0 3 [(0, .ref (q 0)), (1, .int se), (2, .int v)] := hl0
  refine lv_aload_n hx hb dX6_set_0 rfl (lv_at hl0 0 rfl) ?_
  refine lv_iconst (v := nI 0) hx hb dX6_set_1 (by decide) ?_
  refine r_put (own := RX6) (C := RX6) (F := TX6) (N := 12) (ci := 6) (v := nI 0) hx hb hK hts in_X6 tyX6 tyX6_ok nmX6 hown hP0 hD0 hS0 0 rfl rfl 6 (by decide) kw_676 rfl rfl (Nat.le_of_ble_eq_true rfl) dX6_set_2 (fun (H1 : Heap) (locs1 : List Loc) (hP1 : va_P D vwCl (fl [mO q (nI kp) (nI ty) (nI 0) (nI at_) isF op, aW T 0 (q 1) 111 now, aW T 0 (q 2) 111 thn, aW T 0 (q 3) 666 past, aW T 0 (q 4) 60 txt, aW T 0 (q 5) 27 told, aW T 0 (q 6) 3 wh]) H1) (hD1 : va_D A (fl [mO q (nI kp) (nI ty) (nI 0) (nI at_) isF op, aW T 0 (q 1) 111 now, aW T 0 (q 2) 111 thn, aW T 0 (q 3) 666 past, aW T 0 (q 4) 60 txt, aW T 0 (q 5) 27 told, aW T 0 (q 6) 3 wh])) hS1 => ?_)
  clear hP0 hD0 hS0
  refine lv_iload_n hx hb dX6_set_5 rfl (lv_at hl0 1 rfl) ?_
  refine lv_iconst (v := nI 0) hx hb dX6_set_6 (by decide) ?_
  refine lv_iconst (v := nI 3) hx hb dX6_set_7 (by decide) ?_
  have hPc2 : va_P D vwCl (fl []) _ := hP1.sub [] rfl
  refine cr_i (va_runS (As := [.int se, .int (nI 0), .int (nI 3)]) (rest := []) ⟨hx, hb, hml, hown, hts⟩ (c_X6_in l D T se (nI 0) (nI 3) ) (mkS hts okX6_in kw_726 kw_727 ⟨rfl, rfl, Nat.le_of_ble_eq_true rfl, Nat.le_of_ble_eq_true rfl⟩) (ps_ro hK hPc2) rfl rfl hl0.1 rfl (lv_room (Nat.le_of_ble_eq_true rfl)) dX6_set_8 ⟨Nat.le_of_ble_eq_true rfl, Nat.le_of_ble_eq_true rfl⟩) hP1 hS1 (fun r_8 H3 locs3 hq_8 hP3 hS3 => ?_)
  clear hP1 hS1 hPc2
  have hD3 := hD1
  clear hD1
  have hq_8 : r_8 = bI (inB se (nI 0) (nI 3)) := hq_8
  subst hq_8
  refine z_if_ne (tgt := 20) hx hb dX6_set_11 (by decide) (fun c_11 => ?_) (fun c_11 => ?_)
  · skip
    obtain ⟨z, hz, rfl⟩ := inB_t c_11 (by decide)
    refine lv_iload_n hx hb dX6_set_20 rfl (lv_at hl0 1 rfl) ?_
    refine lv_iload_n hx hb dX6_set_21 rfl (lv_at hl0 2 rfl) ?_
    have hPc5 : va_P D vwCl (fl []) _ := hP3.sub [] rfl
    refine cr_i (va_runS (As := [.int (nI z), .int v]) (rest := []) ⟨hx, hb, hml, hown, hts⟩ (c_X6_isFor l D T z v (by omega)) (mkS hts okX6_isFor kw_773 kw_774 ⟨rfl, rfl, Nat.le_of_ble_eq_true rfl, Nat.le_of_ble_eq_true rfl⟩) (ps_ro hK hPc5) rfl rfl hl0.1 rfl (lv_room (Nat.le_of_ble_eq_true rfl)) dX6_set_22 ⟨Nat.le_of_ble_eq_true rfl, Nat.le_of_ble_eq_true rfl⟩) hP3 hS3 (fun r_22 H6 locs6 hq_22 hP6 hS6 => ?_)
    clear hP3 hS3 hPc5
    have hD6 := hD3
    clear hD3
    have hq_22 : r_22 = bI (forB z v) := hq_22
    subst hq_22
    refine z_if_ne (tgt := 34) hx hb dX6_set_25 (by decide) (fun c_25 => ?_) (fun c_25 => ?_)
    · skip
      refine lv_aload_n hx hb dX6_set_34 rfl (lv_at hl0 0 rfl) ?_
      have hPc8 : va_P D vwCl (fl [mO q (nI kp) (nI ty) (nI 0) (nI at_) isF op, aW T 0 (q 1) 111 now, aW T 0 (q 3) 666 past]) _ := flP_sub hP6 [0, 1, 3] rfl
      have hDc8 : va_D A (fl [mO q (nI kp) (nI ty) (nI 0) (nI at_) isF op, aW T 0 (q 1) 111 now, aW T 0 (q 3) 666 past]) := flD_sub hD6 [0, 1, 3] (by decide) rfl
      refine cl_v (br := [aW T 0 (q 2) 111 thn, aW T 0 (q 4) 60 txt, aW T 0 (q 5) 27 told, aW T 0 (q 6) 3 wh]) (va_runV (As := []) (rest := []) ⟨hx, hb, hml, hown, hts⟩ (c_X6_saves l D T q kp ty (nI 0) at_ isF op now past (by omega) _) (mkV hts okX6_saves kw_729 kw_731 ks_13 ⟨rfl, rfl, Nat.le_of_ble_eq_true rfl, Nat.le_of_ble_eq_true rfl⟩) (pv_rw hK hPc8 hDc8 (q0 := 0) rfl rfl rfl) rfl rfl hl0.1 rfl (lv_room (Nat.le_of_ble_eq_true rfl)) dX6_set_35 ⟨Nat.le_of_ble_eq_true rfl, Nat.le_of_ble_eq_true rfl⟩) hP6 hD6 hS6 hA [2, 4, 5, 6] [0, 1, 3] rfl (by decide) (fun u_35 H9 locs9 hq_35 hP9 hD9 hS9 => ?_)
      clear hP6 hD6 hS6 hPc8 hDc8
      obtain ⟨past2_35, kp2_35⟩ := u_35
      have hP9 : va_P D vwCl (fl [aW T 0 (q 2) 111 thn, aW T 0 (q 4) 60 txt, aW T 0 (q 5) 27 told, aW T 0 (q 6) 3 wh, mO q (nI kp2_35) (nI ty) (nI 0) (nI at_) isF op, aW T 0 (q 1) 111 now, aW T 0 (q 3) 666 past2_35]) _ := hP9
      have hD9 : va_D A (fl [aW T 0 (q 2) 111 thn, aW T 0 (q 4) 60 txt, aW T 0 (q 5) 27 told, aW T 0 (q 6) 3 wh, mO q (nI kp2_35) (nI ty) (nI 0) (nI at_) isF op, aW T 0 (q 1) 111 now, aW T 0 (q 3) 666 past2_35]) := hD9
      have hq_35 : svP now past kp = past2_35 ∧ svK kp = kp2_35 := hq_35
      obtain ⟨hu_past2_35, hu_kp2_35⟩ := hq_35
      subst hu_past2_35
      subst hu_kp2_35
      refine lv_aload_n hx hb dX6_set_38 rfl (lv_at hl0 0 rfl) ?_
      refine lv_iload_n hx hb dX6_set_39 rfl (lv_at hl0 1 rfl) ?_
      refine lv_iload_n hx hb dX6_set_40 rfl (lv_at hl0 2 rfl) ?_
      have hPc10 : va_P D vwCl (fl [mO q (nI (svK kp)) (nI ty) (nI 0) (nI at_) isF op, aW T 0 (q 1) 111 now]) _ := flP_sub hP9 [4, 5] rfl
      have hDc10 : va_D A (fl [mO q (nI (svK kp)) (nI ty) (nI 0) (nI at_) isF op, aW T 0 (q 1) 111 now]) := flD_sub hD9 [4, 5] (by decide) rfl
      refine cl_i (br := [aW T 0 (q 2) 111 thn, aW T 0 (q 4) 60 txt, aW T 0 (q 5) 27 told, aW T 0 (q 6) 3 wh, aW T 0 (q 3) 666 (svP now past kp)]) (va_runV (As := [.int (nI z), .int v]) (rest := []) ⟨hx, hb, hml, hown, hts⟩ (c_X6_changes l D T q (svK kp) ty (nI 0) at_ isF op now z v (by omega) _) (mkV hts okX6_changes kw_733 kw_735 ks_14 ⟨rfl, rfl, Nat.le_of_ble_eq_true rfl, Nat.le_of_ble_eq_true rfl⟩) (pv_rw hK hPc10 hDc10 (q0 := 0) rfl rfl rfl) rfl rfl hl0.1 rfl (lv_room (Nat.le_of_ble_eq_true rfl)) dX6_set_41 ⟨Nat.le_of_ble_eq_true rfl, Nat.le_of_ble_eq_true rfl⟩) hP9 hD9 hS9 hA [0, 1, 2, 3, 6] [4, 5] rfl (by decide) (fun r_41 now2_41 H11 locs11 hq_41 hP11 hD11 hS11 => ?_)
      clear hP9 hD9 hS9 hPc10 hDc10
      have hP11 : va_P D vwCl (fl [aW T 0 (q 2) 111 thn, aW T 0 (q 4) 60 txt, aW T 0 (q 5) 27 told, aW T 0 (q 6) 3 wh, aW T 0 (q 3) 666 (svP now past kp), mO q (nI (svK kp)) (nI ty) (nI 0) (nI at_) isF op, aW T 0 (q 1) 111 now2_41]) _ := hP11
      have hD11 : va_D A (fl [aW T 0 (q 2) 111 thn, aW T 0 (q 4) 60 txt, aW T 0 (q 5) 27 told, aW T 0 (q 6) 3 wh, aW T 0 (q 3) 666 (svP now past kp), mO q (nI (svK kp)) (nI ty) (nI 0) (nI at_) isF op, aW T 0 (q 1) 111 now2_41]) := hD11
      obtain ⟨hr_41, hq_41⟩ : r_41 = now z ∧ (upd now z v = now2_41) := hq_41
      subst hr_41
      have hu_now2_41 : upd now z v = now2_41 := hq_41
      subst hu_now2_41
      refine ret_i hTG (Nat.le_refl _) (Nat.le_refl _) hx hb hr hlocks (((nI 0), (upd now z v), (svP now past kp), (svK kp))) hP11 hD11 hS11 [5, 6, 0, 4, 1, 2, 3] rfl (by decide) dX6_set_44 ?_
      simp only [setP, setR, noR, c_11, c_25, if_true, nIcl (show z < 2147483648 by omega), ↓reduceIte, Bool.false_eq_true] <;> rfl
    · skip
      refine lv_aload_n hx hb dX6_set_28 rfl (lv_at hl0 0 rfl) ?_
      refine lv_iconst (v := nI 2) hx hb dX6_set_29 (by decide) ?_
      have hPc12 : va_P D vwCl (fl [mO q (nI kp) (nI ty) (nI 0) (nI at_) isF op]) _ := flP_sub hP6 [0] rfl
      have hDc12 : va_D A (fl [mO q (nI kp) (nI ty) (nI 0) (nI at_) isF op]) := flD_sub hD6 [0] (by decide) rfl
      refine cl_i (br := [aW T 0 (q 1) 111 now, aW T 0 (q 2) 111 thn, aW T 0 (q 3) 666 past, aW T 0 (q 4) 60 txt, aW T 0 (q 5) 27 told, aW T 0 (q 6) 3 wh]) (va_runV (As := [.int (nI 2)]) (rest := []) ⟨hx, hb, hml, hown, hts⟩ (c_X6_fails l D T q kp ty (nI 0) at_ isF op (nI 2)  _) (mkV hts okX6_fails kw_715 kw_717 ks_12 ⟨rfl, rfl, Nat.le_of_ble_eq_true rfl, Nat.le_of_ble_eq_true rfl⟩) (pv_rw hK hPc12 hDc12 (q0 := 0) rfl rfl rfl) rfl rfl hl0.1 rfl (lv_room (Nat.le_of_ble_eq_true rfl)) dX6_set_30 ⟨Nat.le_of_ble_eq_true rfl, Nat.le_of_ble_eq_true rfl⟩) hP6 hD6 hS6 hA [1, 2, 3, 4, 5, 6] [0] rfl (by decide) (fun r_30 th2_30 H13 locs13 hq_30 hP13 hD13 hS13 => ?_)
      clear hP6 hD6 hS6 hPc12 hDc12
      have hP13 : va_P D vwCl (fl [aW T 0 (q 1) 111 now, aW T 0 (q 2) 111 thn, aW T 0 (q 3) 666 past, aW T 0 (q 4) 60 txt, aW T 0 (q 5) 27 told, aW T 0 (q 6) 3 wh, mO q (nI kp) (nI ty) th2_30 (nI at_) isF op]) _ := hP13
      have hD13 : va_D A (fl [aW T 0 (q 1) 111 now, aW T 0 (q 2) 111 thn, aW T 0 (q 3) 666 past, aW T 0 (q 4) 60 txt, aW T 0 (q 5) 27 told, aW T 0 (q 6) 3 wh, mO q (nI kp) (nI ty) th2_30 (nI at_) isF op]) := hD13
      obtain ⟨hr_30, hq_30⟩ : r_30 = nI 0 ∧ ((nI 2) = th2_30) := hq_30
      subst hr_30
      have hu_th2_30 : (nI 2) = th2_30 := hq_30
      subst hu_th2_30
      refine ret_i hTG (Nat.le_refl _) (Nat.le_refl _) hx hb hr hlocks (((nI 2), now, past, kp)) hP13 hD13 hS13 [6, 0, 1, 2, 3, 4, 5] rfl (by decide) dX6_set_33 ?_
      simp only [setP, setR, noR, c_11, c_25, if_true, nIcl (show z < 2147483648 by omega), ↓reduceIte, Bool.false_eq_true] <;> rfl
  · skip
    refine lv_aload_n hx hb dX6_set_14 rfl (lv_at hl0 0 rfl) ?_
    refine lv_iconst (v := nI 1) hx hb dX6_set_15 (by decide) ?_
    have hPc14 : va_P D vwCl (fl [mO q (nI kp) (nI ty) (nI 0) (nI at_) isF op]) _ := flP_sub hP3 [0] rfl
    have hDc14 : va_D A (fl [mO q (nI kp) (nI ty) (nI 0) (nI at_) isF op]) := flD_sub hD3 [0] (by decide) rfl
    refine cl_i (br := [aW T 0 (q 1) 111 now, aW T 0 (q 2) 111 thn, aW T 0 (q 3) 666 past, aW T 0 (q 4) 60 txt, aW T 0 (q 5) 27 told, aW T 0 (q 6) 3 wh]) (va_runV (As := [.int (nI 1)]) (rest := []) ⟨hx, hb, hml, hown, hts⟩ (c_X6_fails l D T q kp ty (nI 0) at_ isF op (nI 1)  _) (mkV hts okX6_fails kw_715 kw_717 ks_12 ⟨rfl, rfl, Nat.le_of_ble_eq_true rfl, Nat.le_of_ble_eq_true rfl⟩) (pv_rw hK hPc14 hDc14 (q0 := 0) rfl rfl rfl) rfl rfl hl0.1 rfl (lv_room (Nat.le_of_ble_eq_true rfl)) dX6_set_16 ⟨Nat.le_of_ble_eq_true rfl, Nat.le_of_ble_eq_true rfl⟩) hP3 hD3 hS3 hA [1, 2, 3, 4, 5, 6] [0] rfl (by decide) (fun r_16 th2_16 H15 locs15 hq_16 hP15 hD15 hS15 => ?_)
    clear hP3 hD3 hS3 hPc14 hDc14
    have hP15 : va_P D vwCl (fl [aW T 0 (q 1) 111 now, aW T 0 (q 2) 111 thn, aW T 0 (q 3) 666 past, aW T 0 (q 4) 60 txt, aW T 0 (q 5) 27 told, aW T 0 (q 6) 3 wh, mO q (nI kp) (nI ty) th2_16 (nI at_) isF op]) _ := hP15
    have hD15 : va_D A (fl [aW T 0 (q 1) 111 now, aW T 0 (q 2) 111 thn, aW T 0 (q 3) 666 past, aW T 0 (q 4) 60 txt, aW T 0 (q 5) 27 told, aW T 0 (q 6) 3 wh, mO q (nI kp) (nI ty) th2_16 (nI at_) isF op]) := hD15
    obtain ⟨hr_16, hq_16⟩ : r_16 = nI 0 ∧ ((nI 1) = th2_16) := hq_16
    subst hr_16
    have hu_th2_16 : (nI 1) = th2_16 := hq_16
    subst hu_th2_16
    refine ret_i hTG (Nat.le_refl _) (Nat.le_refl _) hx hb hr hlocks (((nI 1), now, past, kp)) hP15 hD15 hS15 [6, 0, 1, 2, 3, 4, 5] rfl (by decide) dX6_set_19 ?_
    simp only [setP, noR, c_11, if_true, ↓reduceIte, Bool.false_eq_true] <;> rfl
set_option maxHeartbeats 4000000 in
set_option maxRecDepth 100000 in
theorem c_X6_undo (l : Launch) (D : va_G) (T : TI) (q : Nat → Nat) (kp : Nat) (ty : Nat) (th : Int32) (at_ : Nat) (isF : Bool) (op : Int32) (now : Nat → Int32) (thn : Nat → Int32) (past : Nat → Int32) (txt : Nat → Int32) (told : Nat → Int32) (wh : Nat → Int32) (hkp : kp ≤ 6) : CI l yX6_undo cX6_undo 1 .int (rmD 1 0 0) D T [.ref (q 0)] [mO q (nI kp) (nI ty) th (nI at_) isF op, aW T 0 (q 1) 111 now, aW T 0 (q 2) 111 thn, aW T 0 (q 3) 666 past, aW T 0 (q 4) 60 txt, aW T 0 (q 5) 27 told, aW T 0 (q 6) 3 wh] 0 0 (β := Int32 × (Nat → Int32) × (Nat → Int32) × Nat) (fun ⟨th2, now2, past2, kp2⟩ => [mO q (nI kp2) (nI ty) th2 (nI at_) isF op, aW T 0 (q 1) 111 now2, aW T 0 (q 2) 111 thn, aW T 0 (q 3) 666 past2, aW T 0 (q 4) 60 txt, aW T 0 (q 5) 27 told, aW T 0 (q 6) 3 wh]) (fun (r : Int32) ⟨th2, now2, past2, kp2⟩ => (r, th2, now2, past2, kp2) = undoP now past kp) := by
  intro sz
  refine met_rw (Qc := fun A => va_Qi _ (PST D _ A) A) rfl (Nat.le_of_ble_eq_true rfl) ?_
  intro pX eX sX mX bX mtX cX A hAe hC hA hP0 hD0 hS0 ls0 hl0 TG hTG
  clear hAe
  obtain ⟨hx, hb, hr, hml, hown, hts, hlocks, hin, hK⟩ := hC
  have hown : sX.vm.findClass RX6 = some mX.cls := hown
  have hl0 : lv_has ls0 1 [(0, .ref (q 0))] := hl0
  refine lv_aload_n hx hb dX6_undo_0 rfl (lv_at hl0 0 rfl) ?_
  refine lv_iconst (v := nI 0) hx hb dX6_undo_1 (by decide) ?_
  refine r_put (own := RX6) (C := RX6) (F := TX6) (N := 12) (ci := 6) (v := nI 0) hx hb hK hts in_X6 tyX6 tyX6_ok nmX6 hown hP0 hD0 hS0 0 rfl rfl 6 (by decide) kw_676 rfl rfl (Nat.le_of_ble_eq_true rfl) dX6_undo_2 (fun (H1 : Heap) (locs1 : List Loc) (hP1 : va_P D vwCl (fl [mO q (nI kp) (nI ty) (nI 0) (nI at_) isF op, aW T 0 (q 1) 111 now, aW T 0 (q 2) 111 thn, aW T 0 (q 3) 666 past, aW T 0 (q 4) 60 txt, aW T 0 (q 5) 27 told, aW T 0 (q 6) 3 wh]) H1) (hD1 : va_D A (fl [mO q (nI kp) (nI ty) (nI 0) (nI at_) isF op, aW T 0 (q 1) 111 now, aW T 0 (q 2) 111 thn, aW T 0 (q 3) 666 past, aW T 0 (q 4) 60 txt, aW T 0 (q 5) 27 told, aW T 0 (q 6) 3 wh])) hS1 => ?_)
  clear hP0 hD0 hS0
  refine lv_aload_n hx hb dX6_undo_5 rfl (lv_at hl0 0 rfl) ?_
  refine r_get (own := RX6) (C := RX6) (F := TX6) (N := 12) (ci := 6) (v := .int (nI kp)) hx hb hK hts in_X6 hown hP1 0 rfl rfl 3 (by decide) kw_673 rfl dX6_undo_6 ?_
  refine n_if_ne (tgt := 18) hx hb (by omega) dX6_undo_9 (by decide) (fun c_9 => ?_) (fun c_9 => ?_)
  · skip
    refine lv_aload_n hx hb dX6_undo_18 rfl (lv_at hl0 0 rfl) ?_
    refine lv_dup hx hb dX6_undo_19 rfl ?_
    refine r_get (own := RX6) (C := RX6) (F := TX6) (N := 12) (ci := 6) (v := .int (nI kp)) hx hb hK hts in_X6 hown hP1 0 rfl rfl 3 (by decide) kw_673 rfl dX6_undo_20 ?_
    refine lv_iconst (v := nI 1) hx hb dX6_undo_23 (by decide) ?_
    refine lv_isub hx hb dX6_undo_24 ?_
    refine tp_i (y := nI (kp - 1)) (pk_sub (by omega)) ?_
    refine r_put (own := RX6) (C := RX6) (F := TX6) (N := 12) (ci := 6) (v := nI (kp - 1)) hx hb hK hts in_X6 tyX6 tyX6_ok nmX6 hown hP1 hD1 hS1 0 rfl rfl 3 (by decide) kw_673 rfl rfl (Nat.le_of_ble_eq_true rfl) dX6_undo_25 (fun (H3 : Heap) (locs3 : List Loc) (hP3 : va_P D vwCl (fl [mO q (nI (kp - 1)) (nI ty) (nI 0) (nI at_) isF op, aW T 0 (q 1) 111 now, aW T 0 (q 2) 111 thn, aW T 0 (q 3) 666 past, aW T 0 (q 4) 60 txt, aW T 0 (q 5) 27 told, aW T 0 (q 6) 3 wh]) H3) (hD3 : va_D A (fl [mO q (nI (kp - 1)) (nI ty) (nI 0) (nI at_) isF op, aW T 0 (q 1) 111 now, aW T 0 (q 2) 111 thn, aW T 0 (q 3) 666 past, aW T 0 (q 4) 60 txt, aW T 0 (q 5) 27 told, aW T 0 (q 6) 3 wh])) hS3 => ?_)
    clear hP1 hD1 hS1
    refine lv_aload_n hx hb dX6_undo_28 rfl (lv_at hl0 0 rfl) ?_
    refine r_get (own := RX6) (C := RX6) (F := TX6) (N := 12) (ci := 6) (v := .ref (q 3)) hx hb hK hts in_X6 hown hP3 0 rfl rfl 2 (by decide) kw_672 rfl dX6_undo_29 ?_
    refine lv_bipush (v := nI 111) hx hb dX6_undo_32 (by decide) ?_
    refine lv_aload_n hx hb dX6_undo_34 rfl (lv_at hl0 0 rfl) ?_
    refine r_get (own := RX6) (C := RX6) (F := TX6) (N := 12) (ci := 6) (v := .int (nI (kp - 1))) hx hb hK hts in_X6 hown hP3 0 rfl rfl 3 (by decide) kw_673 rfl dX6_undo_35 ?_
    refine lv_imul hx hb dX6_undo_38 ?_
    refine tp_i (y := nI (111 * (kp - 1))) (pk_mul _ _) ?_
    refine lv_aload_n hx hb dX6_undo_39 rfl (lv_at hl0 0 rfl) ?_
    refine r_get (own := RX6) (C := RX6) (F := TX6) (N := 12) (ci := 6) (v := .ref (q 1)) hx hb hK hts in_X6 hown hP3 0 rfl rfl 0 (by decide) kw_670 rfl dX6_undo_40 ?_
    refine lv_iconst (v := nI 0) hx hb dX6_undo_43 (by decide) ?_
    have hPc4 : va_P D vwCl (fl [aW T 0 (q 3) 666 past, aW T 0 (q 1) 111 now]) _ := flP_sub hP3 [3, 1] rfl
    have hDc4 : va_D A (fl [aW T 0 (q 3) 666 past, aW T 0 (q 1) 111 now]) := flD_sub hD3 [3, 1] (by decide) rfl
    refine cl_v (br := [mO q (nI (kp - 1)) (nI ty) (nI 0) (nI at_) isF op, aW T 0 (q 2) 111 thn, aW T 0 (q 4) 60 txt, aW T 0 (q 5) 27 told, aW T 0 (q 6) 3 wh]) (va_runS (As := [.ref (q 3), .int (nI (111 * (kp - 1))), .ref (q 1), .int (nI 0)]) (rest := []) ⟨hx, hb, hml, hown, hts⟩ (c_X6_copies l D T (q 3) 666 past (111 * (kp - 1)) (q 1) 111 now 0 (by omega) (by omega) (by omega) (by omega) _) (mkS hts okX6_copies kw_719 kw_720 ⟨rfl, rfl, Nat.le_of_ble_eq_true rfl, Nat.le_of_ble_eq_true rfl⟩) (ps_rw hK hPc4 hDc4) rfl rfl hl0.1 rfl (lv_room (Nat.le_of_ble_eq_true rfl)) dX6_undo_44 ⟨Nat.le_of_ble_eq_true rfl, Nat.le_of_ble_eq_true rfl⟩) hP3 hD3 hS3 hA [0, 2, 4, 5, 6] [3, 1] rfl (by decide) (fun g2_44 H5 locs5 hq_44 hP5 hD5 hS5 => ?_)
    clear hP3 hD3 hS3 hPc4 hDc4
    have hP5 : va_P D vwCl (fl [mO q (nI (kp - 1)) (nI ty) (nI 0) (nI at_) isF op, aW T 0 (q 2) 111 thn, aW T 0 (q 4) 60 txt, aW T 0 (q 5) 27 told, aW T 0 (q 6) 3 wh, aW T 0 (q 3) 666 past, aW T 0 (q 1) 111 g2_44]) _ := hP5
    have hD5 : va_D A (fl [mO q (nI (kp - 1)) (nI ty) (nI 0) (nI at_) isF op, aW T 0 (q 2) 111 thn, aW T 0 (q 4) 60 txt, aW T 0 (q 5) 27 told, aW T 0 (q 6) 3 wh, aW T 0 (q 3) 666 past, aW T 0 (q 1) 111 g2_44]) := hD5
    have hq_44 : va_cpy past now (111 * (kp - 1)) 0 111 = g2_44 := hq_44
    have hu_g2_44 : va_cpy past now (111 * (kp - 1)) 0 111 = g2_44 := hq_44
    subst hu_g2_44
    refine lv_aload_n hx hb dX6_undo_47 rfl (lv_at hl0 0 rfl) ?_
    refine r_get (own := RX6) (C := RX6) (F := TX6) (N := 12) (ci := 6) (v := .int (nI (kp - 1))) hx hb hK hts in_X6 hown hP5 0 rfl rfl 3 (by decide) kw_673 rfl dX6_undo_48 ?_
    refine ret_i hTG (Nat.le_refl _) (Nat.le_refl _) hx hb hr hlocks (((nI 0), (va_cpy past now (111 * (kp - 1)) 0 111), past, (kp - 1))) hP5 hD5 hS5 [0, 6, 1, 5, 2, 3, 4] rfl (by decide) dX6_undo_51 ?_
    simp only [undoP, c_9, if_true, ↓reduceIte, Bool.false_eq_true] <;> rfl
  · skip
    refine lv_aload_n hx hb dX6_undo_12 rfl (lv_at hl0 0 rfl) ?_
    refine lv_iconst (v := nI 1) hx hb dX6_undo_13 (by decide) ?_
    have hPc6 : va_P D vwCl (fl [mO q (nI kp) (nI ty) (nI 0) (nI at_) isF op]) _ := flP_sub hP1 [0] rfl
    have hDc6 : va_D A (fl [mO q (nI kp) (nI ty) (nI 0) (nI at_) isF op]) := flD_sub hD1 [0] (by decide) rfl
    refine cl_i (br := [aW T 0 (q 1) 111 now, aW T 0 (q 2) 111 thn, aW T 0 (q 3) 666 past, aW T 0 (q 4) 60 txt, aW T 0 (q 5) 27 told, aW T 0 (q 6) 3 wh]) (va_runV (As := [.int (nI 1)]) (rest := []) ⟨hx, hb, hml, hown, hts⟩ (c_X6_fails l D T q kp ty (nI 0) at_ isF op (nI 1)  _) (mkV hts okX6_fails kw_715 kw_717 ks_12 ⟨rfl, rfl, Nat.le_of_ble_eq_true rfl, Nat.le_of_ble_eq_true rfl⟩) (pv_rw hK hPc6 hDc6 (q0 := 0) rfl rfl rfl) rfl rfl hl0.1 rfl (lv_room (Nat.le_of_ble_eq_true rfl)) dX6_undo_14 ⟨Nat.le_of_ble_eq_true rfl, Nat.le_of_ble_eq_true rfl⟩) hP1 hD1 hS1 hA [1, 2, 3, 4, 5, 6] [0] rfl (by decide) (fun r_14 th2_14 H7 locs7 hq_14 hP7 hD7 hS7 => ?_)
    clear hP1 hD1 hS1 hPc6 hDc6
    have hP7 : va_P D vwCl (fl [aW T 0 (q 1) 111 now, aW T 0 (q 2) 111 thn, aW T 0 (q 3) 666 past, aW T 0 (q 4) 60 txt, aW T 0 (q 5) 27 told, aW T 0 (q 6) 3 wh, mO q (nI kp) (nI ty) th2_14 (nI at_) isF op]) _ := hP7
    have hD7 : va_D A (fl [aW T 0 (q 1) 111 now, aW T 0 (q 2) 111 thn, aW T 0 (q 3) 666 past, aW T 0 (q 4) 60 txt, aW T 0 (q 5) 27 told, aW T 0 (q 6) 3 wh, mO q (nI kp) (nI ty) th2_14 (nI at_) isF op]) := hD7
    obtain ⟨hr_14, hq_14⟩ : r_14 = nI 0 ∧ ((nI 1) = th2_14) := hq_14
    subst hr_14
    have hu_th2_14 : (nI 1) = th2_14 := hq_14
    subst hu_th2_14
    refine ret_i hTG (Nat.le_refl _) (Nat.le_refl _) hx hb hr hlocks (((nI 1), now, past, kp)) hP7 hD7 hS7 [6, 0, 1, 2, 3, 4, 5] rfl (by decide) dX6_undo_17 ?_
    simp only [undoP, noR, c_9, if_true, ↓reduceIte, Bool.false_eq_true] <;> rfl
set_option maxHeartbeats 4000000 in
set_option maxRecDepth 100000 in
theorem c_X6_append (l : Launch) (D : va_G) (T : TI) (q : Nat → Nat) (kp : Nat) (ty : Nat) (th : Int32) (at_ : Nat) (isF : Bool) (op : Int32) (now : Nat → Int32) (thn : Nat → Int32) (past : Nat → Int32) (txt : Nat → Int32) (told : Nat → Int32) (wh : Nat → Int32) (x : Int32) (hty : ty ≤ 60) : CI l yX6_append cX6_append 2 .int (rmD 1 0 0) D T [.ref (q 0), .int x] [mO q (nI kp) (nI ty) th (nI at_) isF op, aW T 0 (q 1) 111 now, aW T 0 (q 2) 111 thn, aW T 0 (q 3) 666 past, aW T 0 (q 4) 60 txt, aW T 0 (q 5) 27 told, aW T 0 (q 6) 3 wh] 0 0 (β := Int32 × Nat × (Nat → Int32)) (fun ⟨th2, ty2, txt2⟩ => [mO q (nI kp) (nI ty2) th2 (nI at_) isF op, aW T 0 (q 1) 111 now, aW T 0 (q 2) 111 thn, aW T 0 (q 3) 666 past, aW T 0 (q 4) 60 txt2, aW T 0 (q 5) 27 told, aW T 0 (q 6) 3 wh]) (fun (r : Int32) ⟨th2, ty2, txt2⟩ => (r, th2, ty2, txt2) = appendP x ty txt) := by
  intro sz
  refine met_rw (Qc := fun A => va_Qi _ (PST D _ A) A) rfl (Nat.le_of_ble_eq_true rfl) ?_
  intro pX eX sX mX bX mtX cX A hAe hC hA hP0 hD0 hS0 ls0 hl0 TG hTG
  clear hAe
  obtain ⟨hx, hb, hr, hml, hown, hts, hlocks, hin, hK⟩ := hC
  have hown : sX.vm.findClass RX6 = some mX.cls := hown
  have hl0 : lv_has ls0 2 [(0, .ref (q 0)), (1, .int x)] := hl0
  refine lv_aload_n hx hb dX6_append_0 rfl (lv_at hl0 0 rfl) ?_
  refine lv_iconst (v := nI 0) hx hb dX6_append_1 (by decide) ?_
  refine r_put (own := RX6) (C := RX6) (F := TX6) (N := 12) (ci := 6) (v := nI 0) hx hb hK hts in_X6 tyX6 tyX6_ok nmX6 hown hP0 hD0 hS0 0 rfl rfl 6 (by decide) kw_676 rfl rfl (Nat.le_of_ble_eq_true rfl) dX6_append_2 (fun (H1 : Heap) (locs1 : List Loc) (hP1 : va_P D vwCl (fl [mO q (nI kp) (nI ty) (nI 0) (nI at_) isF op, aW T 0 (q 1) 111 now, aW T 0 (q 2) 111 thn, aW T 0 (q 3) 666 past, aW T 0 (q 4) 60 txt, aW T 0 (q 5) 27 told, aW T 0 (q 6) 3 wh]) H1) (hD1 : va_D A (fl [mO q (nI kp) (nI ty) (nI 0) (nI at_) isF op, aW T 0 (q 1) 111 now, aW T 0 (q 2) 111 thn, aW T 0 (q 3) 666 past, aW T 0 (q 4) 60 txt, aW T 0 (q 5) 27 told, aW T 0 (q 6) 3 wh])) hS1 => ?_)
  clear hP0 hD0 hS0
  refine lv_iload_n hx hb dX6_append_5 rfl (lv_at hl0 1 rfl) ?_
  refine lv_bipush (v := nI 33) hx hb dX6_append_6 (by decide) ?_
  refine lv_bipush (v := nI 126) hx hb dX6_append_8 (by decide) ?_
  have hPc2 : va_P D vwCl (fl []) _ := hP1.sub [] rfl
  refine cr_i (va_runS (As := [.int x, .int (nI 33), .int (nI 126)]) (rest := []) ⟨hx, hb, hml, hown, hts⟩ (c_X6_in l D T x (nI 33) (nI 126) ) (mkS hts okX6_in kw_726 kw_727 ⟨rfl, rfl, Nat.le_of_ble_eq_true rfl, Nat.le_of_ble_eq_true rfl⟩) (ps_ro hK hPc2) rfl rfl hl0.1 rfl (lv_room (Nat.le_of_ble_eq_true rfl)) dX6_append_10 ⟨Nat.le_of_ble_eq_true rfl, Nat.le_of_ble_eq_true rfl⟩) hP1 hS1 (fun r_10 H3 locs3 hq_10 hP3 hS3 => ?_)
  clear hP1 hS1 hPc2
  have hD3 := hD1
  clear hD1
  have hq_10 : r_10 = bI (inB x (nI 33) (nI 126)) := hq_10
  subst hq_10
  refine z_if_ne (tgt := 22) hx hb dX6_append_13 (by decide) (fun c_13 => ?_) (fun c_13 => ?_)
  · skip
    refine lv_aload_n hx hb dX6_append_22 rfl (lv_at hl0 0 rfl) ?_
    refine r_get (own := RX6) (C := RX6) (F := TX6) (N := 12) (ci := 6) (v := .int (nI ty)) hx hb hK hts in_X6 hown hP3 0 rfl rfl 5 (by decide) kw_675 rfl dX6_append_23 ?_
    refine lv_bipush (v := nI 60) hx hb dX6_append_26 (by decide) ?_
    refine n_icmp_ne (tgt := 37) hx hb (by omega) (by omega) dX6_append_28 (by decide) (fun c_28 => ?_) (fun c_28 => ?_)
    · skip
      refine lv_aload_n hx hb dX6_append_37 rfl (lv_at hl0 0 rfl) ?_
      refine r_get (own := RX6) (C := RX6) (F := TX6) (N := 12) (ci := 6) (v := .ref (q 4)) hx hb hK hts in_X6 hown hP3 0 rfl rfl 4 (by decide) kw_674 rfl dX6_append_38 ?_
      refine lv_aload_n hx hb dX6_append_41 rfl (lv_at hl0 0 rfl) ?_
      refine r_get (own := RX6) (C := RX6) (F := TX6) (N := 12) (ci := 6) (v := .int (nI ty)) hx hb hK hts in_X6 hown hP3 0 rfl rfl 5 (by decide) kw_675 rfl dX6_append_42 ?_
      refine lv_iload_n hx hb dX6_append_45 rfl (lv_at hl0 1 rfl) ?_
      refine r_iast hx hb hK hP3 hD3 hS3 4 (f := txt) (n := 60) rfl ty (by decide) dX6_append_46 (by omega) (fun (H6 : Heap) (locs6 : List Loc) (hP6 : va_P D vwCl (fl [mO q (nI kp) (nI ty) (nI 0) (nI at_) isF op, aW T 0 (q 1) 111 now, aW T 0 (q 2) 111 thn, aW T 0 (q 3) 666 past, aW T 0 (q 4) 60 (upd txt ty x), aW T 0 (q 5) 27 told, aW T 0 (q 6) 3 wh]) H6) (hD6 : va_D A (fl [mO q (nI kp) (nI ty) (nI 0) (nI at_) isF op, aW T 0 (q 1) 111 now, aW T 0 (q 2) 111 thn, aW T 0 (q 3) 666 past, aW T 0 (q 4) 60 (upd txt ty x), aW T 0 (q 5) 27 told, aW T 0 (q 6) 3 wh])) hS6 => ?_)
      clear hP3 hD3 hS3
      refine lv_aload_n hx hb dX6_append_47 rfl (lv_at hl0 0 rfl) ?_
      refine lv_dup hx hb dX6_append_48 rfl ?_
      refine r_get (own := RX6) (C := RX6) (F := TX6) (N := 12) (ci := 6) (v := .int (nI ty)) hx hb hK hts in_X6 hown hP6 0 rfl rfl 5 (by decide) kw_675 rfl dX6_append_49 ?_
      refine lv_iconst (v := nI 1) hx hb dX6_append_52 (by decide) ?_
      refine lv_iadd hx hb dX6_append_53 ?_
      refine tp_i (y := nI (ty + 1)) (nI_add _ _) ?_
      refine r_put (own := RX6) (C := RX6) (F := TX6) (N := 12) (ci := 6) (v := nI (ty + 1)) hx hb hK hts in_X6 tyX6 tyX6_ok nmX6 hown hP6 hD6 hS6 0 rfl rfl 5 (by decide) kw_675 rfl rfl (Nat.le_of_ble_eq_true rfl) dX6_append_54 (fun (H7 : Heap) (locs7 : List Loc) (hP7 : va_P D vwCl (fl [mO q (nI kp) (nI (ty + 1)) (nI 0) (nI at_) isF op, aW T 0 (q 1) 111 now, aW T 0 (q 2) 111 thn, aW T 0 (q 3) 666 past, aW T 0 (q 4) 60 (upd txt ty x), aW T 0 (q 5) 27 told, aW T 0 (q 6) 3 wh]) H7) (hD7 : va_D A (fl [mO q (nI kp) (nI (ty + 1)) (nI 0) (nI at_) isF op, aW T 0 (q 1) 111 now, aW T 0 (q 2) 111 thn, aW T 0 (q 3) 666 past, aW T 0 (q 4) 60 (upd txt ty x), aW T 0 (q 5) 27 told, aW T 0 (q 6) 3 wh])) hS7 => ?_)
      clear hP6 hD6 hS6
      refine lv_aload_n hx hb dX6_append_57 rfl (lv_at hl0 0 rfl) ?_
      refine r_get (own := RX6) (C := RX6) (F := TX6) (N := 12) (ci := 6) (v := .int (nI (ty + 1))) hx hb hK hts in_X6 hown hP7 0 rfl rfl 5 (by decide) kw_675 rfl dX6_append_58 ?_
      refine ret_i hTG (Nat.le_refl _) (Nat.le_refl _) hx hb hr hlocks (((nI 0), (ty + 1), (upd txt ty x))) hP7 hD7 hS7 [0, 1, 2, 3, 4, 5, 6] rfl (by decide) dX6_append_61 ?_
      simp only [appendP, c_13, c_28, if_true, ↓reduceIte, Bool.false_eq_true] <;> rfl
    · skip
      refine lv_aload_n hx hb dX6_append_31 rfl (lv_at hl0 0 rfl) ?_
      refine lv_iconst (v := nI 2) hx hb dX6_append_32 (by decide) ?_
      have hPc8 : va_P D vwCl (fl [mO q (nI kp) (nI ty) (nI 0) (nI at_) isF op]) _ := flP_sub hP3 [0] rfl
      have hDc8 : va_D A (fl [mO q (nI kp) (nI ty) (nI 0) (nI at_) isF op]) := flD_sub hD3 [0] (by decide) rfl
      refine cl_i (br := [aW T 0 (q 1) 111 now, aW T 0 (q 2) 111 thn, aW T 0 (q 3) 666 past, aW T 0 (q 4) 60 txt, aW T 0 (q 5) 27 told, aW T 0 (q 6) 3 wh]) (va_runV (As := [.int (nI 2)]) (rest := []) ⟨hx, hb, hml, hown, hts⟩ (c_X6_fails l D T q kp ty (nI 0) at_ isF op (nI 2)  _) (mkV hts okX6_fails kw_715 kw_717 ks_12 ⟨rfl, rfl, Nat.le_of_ble_eq_true rfl, Nat.le_of_ble_eq_true rfl⟩) (pv_rw hK hPc8 hDc8 (q0 := 0) rfl rfl rfl) rfl rfl hl0.1 rfl (lv_room (Nat.le_of_ble_eq_true rfl)) dX6_append_33 ⟨Nat.le_of_ble_eq_true rfl, Nat.le_of_ble_eq_true rfl⟩) hP3 hD3 hS3 hA [1, 2, 3, 4, 5, 6] [0] rfl (by decide) (fun r_33 th2_33 H9 locs9 hq_33 hP9 hD9 hS9 => ?_)
      clear hP3 hD3 hS3 hPc8 hDc8
      have hP9 : va_P D vwCl (fl [aW T 0 (q 1) 111 now, aW T 0 (q 2) 111 thn, aW T 0 (q 3) 666 past, aW T 0 (q 4) 60 txt, aW T 0 (q 5) 27 told, aW T 0 (q 6) 3 wh, mO q (nI kp) (nI ty) th2_33 (nI at_) isF op]) _ := hP9
      have hD9 : va_D A (fl [aW T 0 (q 1) 111 now, aW T 0 (q 2) 111 thn, aW T 0 (q 3) 666 past, aW T 0 (q 4) 60 txt, aW T 0 (q 5) 27 told, aW T 0 (q 6) 3 wh, mO q (nI kp) (nI ty) th2_33 (nI at_) isF op]) := hD9
      obtain ⟨hr_33, hq_33⟩ : r_33 = nI 0 ∧ ((nI 2) = th2_33) := hq_33
      subst hr_33
      have hu_th2_33 : (nI 2) = th2_33 := hq_33
      subst hu_th2_33
      refine ret_i hTG (Nat.le_refl _) (Nat.le_refl _) hx hb hr hlocks (((nI 2), ty, txt)) hP9 hD9 hS9 [6, 0, 1, 2, 3, 4, 5] rfl (by decide) dX6_append_36 ?_
      simp only [appendP, c_13, c_28, if_true, ↓reduceIte, Bool.false_eq_true] <;> rfl
  · skip
    refine lv_aload_n hx hb dX6_append_16 rfl (lv_at hl0 0 rfl) ?_
    refine lv_iconst (v := nI 1) hx hb dX6_append_17 (by decide) ?_
    have hPc10 : va_P D vwCl (fl [mO q (nI kp) (nI ty) (nI 0) (nI at_) isF op]) _ := flP_sub hP3 [0] rfl
    have hDc10 : va_D A (fl [mO q (nI kp) (nI ty) (nI 0) (nI at_) isF op]) := flD_sub hD3 [0] (by decide) rfl
    refine cl_i (br := [aW T 0 (q 1) 111 now, aW T 0 (q 2) 111 thn, aW T 0 (q 3) 666 past, aW T 0 (q 4) 60 txt, aW T 0 (q 5) 27 told, aW T 0 (q 6) 3 wh]) (va_runV (As := [.int (nI 1)]) (rest := []) ⟨hx, hb, hml, hown, hts⟩ (c_X6_fails l D T q kp ty (nI 0) at_ isF op (nI 1)  _) (mkV hts okX6_fails kw_715 kw_717 ks_12 ⟨rfl, rfl, Nat.le_of_ble_eq_true rfl, Nat.le_of_ble_eq_true rfl⟩) (pv_rw hK hPc10 hDc10 (q0 := 0) rfl rfl rfl) rfl rfl hl0.1 rfl (lv_room (Nat.le_of_ble_eq_true rfl)) dX6_append_18 ⟨Nat.le_of_ble_eq_true rfl, Nat.le_of_ble_eq_true rfl⟩) hP3 hD3 hS3 hA [1, 2, 3, 4, 5, 6] [0] rfl (by decide) (fun r_18 th2_18 H11 locs11 hq_18 hP11 hD11 hS11 => ?_)
    clear hP3 hD3 hS3 hPc10 hDc10
    have hP11 : va_P D vwCl (fl [aW T 0 (q 1) 111 now, aW T 0 (q 2) 111 thn, aW T 0 (q 3) 666 past, aW T 0 (q 4) 60 txt, aW T 0 (q 5) 27 told, aW T 0 (q 6) 3 wh, mO q (nI kp) (nI ty) th2_18 (nI at_) isF op]) _ := hP11
    have hD11 : va_D A (fl [aW T 0 (q 1) 111 now, aW T 0 (q 2) 111 thn, aW T 0 (q 3) 666 past, aW T 0 (q 4) 60 txt, aW T 0 (q 5) 27 told, aW T 0 (q 6) 3 wh, mO q (nI kp) (nI ty) th2_18 (nI at_) isF op]) := hD11
    obtain ⟨hr_18, hq_18⟩ : r_18 = nI 0 ∧ ((nI 1) = th2_18) := hq_18
    subst hr_18
    have hu_th2_18 : (nI 1) = th2_18 := hq_18
    subst hu_th2_18
    refine ret_i hTG (Nat.le_refl _) (Nat.le_refl _) hx hb hr hlocks (((nI 1), ty, txt)) hP11 hD11 hS11 [6, 0, 1, 2, 3, 4, 5] rfl (by decide) dX6_append_21 ?_
    simp only [appendP, c_13, if_true, ↓reduceIte, Bool.false_eq_true] <;> rfl
set_option maxHeartbeats 4000000 in
set_option maxRecDepth 100000 in
theorem c_X6_clearBuffer (l : Launch) (D : va_G) (T : TI) (q : Nat → Nat) (kp : Nat) (ty : Nat) (th : Int32) (at_ : Nat) (isF : Bool) (op : Int32) (now : Nat → Int32) (thn : Nat → Int32) (past : Nat → Int32) (txt : Nat → Int32) (told : Nat → Int32) (wh : Nat → Int32)  : CI l yX6_clearBuffer cX6_clearBuffer 2 .int (rmD 0 0 0) D T [.ref (q 0)] [mO q (nI kp) (nI ty) th (nI at_) isF op, aW T 0 (q 1) 111 now, aW T 0 (q 2) 111 thn, aW T 0 (q 3) 666 past, aW T 0 (q 4) 60 txt, aW T 0 (q 5) 27 told, aW T 0 (q 6) 3 wh] 0 0 (β := Int32 × Nat) (fun ⟨th2, ty2⟩ => [mO q (nI kp) (nI ty2) th2 (nI at_) isF op, aW T 0 (q 1) 111 now, aW T 0 (q 2) 111 thn, aW T 0 (q 3) 666 past, aW T 0 (q 4) 60 txt, aW T 0 (q 5) 27 told, aW T 0 (q 6) 3 wh]) (fun (r : Int32) ⟨th2, ty2⟩ => r = nI ty ∧ (nI 0 = th2 ∧ 0 = ty2)) := by
  intro sz
  refine met_rw (Qc := fun A => va_Qi _ (PST D _ A) A) rfl (Nat.le_of_ble_eq_true rfl) ?_
  intro pX eX sX mX bX mtX cX A hAe hC hA hP0 hD0 hS0 ls0 hl0 TG hTG
  clear hAe
  obtain ⟨hx, hb, hr, hml, hown, hts, hlocks, hin, hK⟩ := hC
  have hown : sX.vm.findClass RX6 = some mX.cls := hown
  have hl0 : lv_has ls0 2 [(0, .ref (q 0))] := hl0
  refine lv_aload_n hx hb dX6_clearBuffer_0 rfl (lv_at hl0 0 rfl) ?_
  refine lv_iconst (v := nI 0) hx hb dX6_clearBuffer_1 (by decide) ?_
  refine r_put (own := RX6) (C := RX6) (F := TX6) (N := 12) (ci := 6) (v := nI 0) hx hb hK hts in_X6 tyX6 tyX6_ok nmX6 hown hP0 hD0 hS0 0 rfl rfl 6 (by decide) kw_676 rfl rfl (Nat.le_of_ble_eq_true rfl) dX6_clearBuffer_2 (fun (H1 : Heap) (locs1 : List Loc) (hP1 : va_P D vwCl (fl [mO q (nI kp) (nI ty) (nI 0) (nI at_) isF op, aW T 0 (q 1) 111 now, aW T 0 (q 2) 111 thn, aW T 0 (q 3) 666 past, aW T 0 (q 4) 60 txt, aW T 0 (q 5) 27 told, aW T 0 (q 6) 3 wh]) H1) (hD1 : va_D A (fl [mO q (nI kp) (nI ty) (nI 0) (nI at_) isF op, aW T 0 (q 1) 111 now, aW T 0 (q 2) 111 thn, aW T 0 (q 3) 666 past, aW T 0 (q 4) 60 txt, aW T 0 (q 5) 27 told, aW T 0 (q 6) 3 wh])) hS1 => ?_)
  clear hP0 hD0 hS0
  refine lv_aload_n hx hb dX6_clearBuffer_5 rfl (lv_at hl0 0 rfl) ?_
  refine r_get (own := RX6) (C := RX6) (F := TX6) (N := 12) (ci := 6) (v := .int (nI ty)) hx hb hK hts in_X6 hown hP1 0 rfl rfl 5 (by decide) kw_675 rfl dX6_clearBuffer_6 ?_
  refine lv_istore_n (lv' := [(1, .int (nI ty)), (0, .ref (q 0))]) hx hb dX6_clearBuffer_9 rfl hl0 (by decide) rfl (fun ls2 hl2 => ?_)
  clear hl0
  refine lv_aload_n hx hb dX6_clearBuffer_10 rfl (lv_at hl2 1 rfl) ?_
  refine lv_iconst (v := nI 0) hx hb dX6_clearBuffer_11 (by decide) ?_
  refine r_put (own := RX6) (C := RX6) (F := TX6) (N := 12) (ci := 6) (v := nI 0) hx hb hK hts in_X6 tyX6 tyX6_ok nmX6 hown hP1 hD1 hS1 0 rfl rfl 5 (by decide) kw_675 rfl rfl (Nat.le_of_ble_eq_true rfl) dX6_clearBuffer_12 (fun (H3 : Heap) (locs3 : List Loc) (hP3 : va_P D vwCl (fl [mO q (nI kp) (nI 0) (nI 0) (nI at_) isF op, aW T 0 (q 1) 111 now, aW T 0 (q 2) 111 thn, aW T 0 (q 3) 666 past, aW T 0 (q 4) 60 txt, aW T 0 (q 5) 27 told, aW T 0 (q 6) 3 wh]) H3) (hD3 : va_D A (fl [mO q (nI kp) (nI 0) (nI 0) (nI at_) isF op, aW T 0 (q 1) 111 now, aW T 0 (q 2) 111 thn, aW T 0 (q 3) 666 past, aW T 0 (q 4) 60 txt, aW T 0 (q 5) 27 told, aW T 0 (q 6) 3 wh])) hS3 => ?_)
  clear hP1 hD1 hS1
  refine lv_iload_n hx hb dX6_clearBuffer_15 rfl (lv_at hl2 0 rfl) ?_
  refine ret_i hTG (Nat.le_refl _) (Nat.le_refl _) hx hb hr hlocks (((nI 0), 0)) hP3 hD3 hS3 [0, 1, 2, 3, 4, 5, 6] rfl (by decide) dX6_clearBuffer_16 ?_
  first | rfl | trivial
