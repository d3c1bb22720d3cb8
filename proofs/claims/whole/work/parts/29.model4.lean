set_option maxHeartbeats 4000000 in
set_option maxRecDepth 100000 in
theorem c_X6_pass (l : Launch) (D : va_G) (T : TI) (q : Nat → Nat) (kp : Nat) (ty : Nat) (th : Int32) (at_ : Nat) (isF : Bool) (op : Int32) (now : Nat → Int32) (past : Nat → Int32) (wh : Nat → Int32) (h : Int32) (hkp : kp ≤ 6) (hS : okS now) : CI l yX6_pass cX6_pass 4 .int (rmD 5 0 0) D T [.ref (q 0), .int h] [mO q (nI kp) (nI ty) th (nI at_) isF op, aW T 0 (q 1) 111 now, aW T 0 (q 3) 666 past, aW T 0 (q 6) 3 wh] 0 0 (β := Int32 × Int32 × (Nat → Int32) × (Nat → Int32) × (Nat → Int32) × Nat) (fun ⟨th2, op2, now2, past2, wh2, kp2⟩ => [mO q (nI kp2) (nI ty) th2 (nI at_) isF op2, aW T 0 (q 1) 111 now2, aW T 0 (q 3) 666 past2, aW T 0 (q 6) 3 wh2]) (fun (r : Int32) ⟨th2, op2, now2, past2, wh2, kp2⟩ => (r, th2, now2, past2, kp2) = passP h now past kp) := by
  intro sz
  refine met_rw (Qc := fun A => va_Qi _ (PST D _ A) A) rfl (Nat.le_of_ble_eq_true rfl) ?_
  intro pX eX sX mX bX mtX cX A hAe hC hA hP0 hD0 hS0 ls0 hl0 TG hTG
  clear hAe
  obtain ⟨hx, hb, hr, hml, hown, hts, hlocks, hin, hK⟩ := hC
  have hown : sX.vm.findClass RX6 = some mX.cls := hown
  have hl0 : lv_has ls0 4 [(0, .ref (q 0)), (1, .int h)] := hl0
  refine lv_aload_n hx hb dX6_pass_0 rfl (lv_at hl0 0 rfl) ?_
  refine lv_iconst (v := nI 0) hx hb dX6_pass_1 (by decide) ?_
  refine r_put (own := RX6) (C := RX6) (F := TX6) (N := 12) (ci := 6) (v := nI 0) hx hb hK hts in_X6 tyX6 tyX6_ok nmX6 hown hP0 hD0 hS0 0 rfl rfl 6 (by decide) kw_676 rfl rfl (Nat.le_of_ble_eq_true rfl) dX6_pass_2 (fun (H1 : Heap) (locs1 : List Loc) (hP1 : va_P D vwCl (fl [mO q (nI kp) (nI ty) (nI 0) (nI at_) isF op, aW T 0 (q 1) 111 now, aW T 0 (q 3) 666 past, aW T 0 (q 6) 3 wh]) H1) (hD1 : va_D A (fl [mO q (nI kp) (nI ty) (nI 0) (nI at_) isF op, aW T 0 (q 1) 111 now, aW T 0 (q 3) 666 past, aW T 0 (q 6) 3 wh])) hS1 => ?_)
  clear hP0 hD0 hS0
  refine lv_iload_n hx hb dX6_pass_5 rfl (lv_at hl0 1 rfl) ?_
  refine lv_iconst (v := nI 1) hx hb dX6_pass_6 (by decide) ?_
  refine lv_bipush (v := nI 48) hx hb dX6_pass_7 (by decide) ?_
  have hPc2 : va_P D vwCl (fl []) _ := hP1.sub [] rfl
  refine cr_i (va_runS (As := [.int h, .int (nI 1), .int (nI 48)]) (rest := []) ⟨hx, hb, hml, hown, hts⟩ (c_X6_in l D T h (nI 1) (nI 48) ) (mkS hts okX6_in kw_726 kw_727 ⟨rfl, rfl, Nat.le_of_ble_eq_true rfl, Nat.le_of_ble_eq_true rfl⟩) (ps_ro hK hPc2) rfl rfl hl0.1 rfl (lv_room (Nat.le_of_ble_eq_true rfl)) dX6_pass_9 ⟨Nat.le_of_ble_eq_true rfl, Nat.le_of_ble_eq_true rfl⟩) hP1 hS1 (fun r_9 H3 locs3 hq_9 hP3 hS3 => ?_)
  clear hP1 hS1 hPc2
  have hD3 := hD1
  clear hD1
  have hq_9 : r_9 = bI (inB h (nI 1) (nI 48)) := hq_9
  subst hq_9
  refine z_if_ne (tgt := 21) hx hb dX6_pass_12 (by decide) (fun c_12 => ?_) (fun c_12 => ?_)
  · skip
    obtain ⟨z, hz1, hz, rfl⟩ := inB_l c_12 (by decide) (by decide)
    refine lv_aload_n hx hb dX6_pass_21 rfl (lv_at hl0 0 rfl) ?_
    have hPc5 : va_P D vwCl (fl [mO q (nI kp) (nI ty) (nI 0) (nI at_) isF op, aW T 0 (q 1) 111 now, aW T 0 (q 3) 666 past]) _ := flP_sub hP3 [0, 1, 2] rfl
    have hDc5 : va_D A (fl [mO q (nI kp) (nI ty) (nI 0) (nI at_) isF op, aW T 0 (q 1) 111 now, aW T 0 (q 3) 666 past]) := flD_sub hD3 [0, 1, 2] (by decide) rfl
    refine cl_v (br := [aW T 0 (q 6) 3 wh]) (va_runV (As := []) (rest := []) ⟨hx, hb, hml, hown, hts⟩ (c_X6_saves l D T q kp ty (nI 0) at_ isF op now past (by omega) _) (mkV hts okX6_saves kw_729 kw_731 ks_13 ⟨rfl, rfl, Nat.le_of_ble_eq_true rfl, Nat.le_of_ble_eq_true rfl⟩) (pv_rw hK hPc5 hDc5 (q0 := 0) rfl rfl rfl) rfl rfl hl0.1 rfl (lv_room (Nat.le_of_ble_eq_true rfl)) dX6_pass_22 ⟨Nat.le_of_ble_eq_true rfl, Nat.le_of_ble_eq_true rfl⟩) hP3 hD3 hS3 hA [3] [0, 1, 2] rfl (by decide) (fun u_22 H6 locs6 hq_22 hP6 hD6 hS6 => ?_)
    clear hP3 hD3 hS3 hPc5 hDc5
    obtain ⟨past2_22, kp2_22⟩ := u_22
    have hP6 : va_P D vwCl (fl [aW T 0 (q 6) 3 wh, mO q (nI kp2_22) (nI ty) (nI 0) (nI at_) isF op, aW T 0 (q 1) 111 now, aW T 0 (q 3) 666 past2_22]) _ := hP6
    have hD6 : va_D A (fl [aW T 0 (q 6) 3 wh, mO q (nI kp2_22) (nI ty) (nI 0) (nI at_) isF op, aW T 0 (q 1) 111 now, aW T 0 (q 3) 666 past2_22]) := hD6
    have hq_22 : svP now past kp = past2_22 ∧ svK kp = kp2_22 := hq_22
    obtain ⟨hu_past2_22, hu_kp2_22⟩ := hq_22
    subst hu_past2_22
    subst hu_kp2_22
    refine lv_aload_n hx hb dX6_pass_25 rfl (lv_at hl0 0 rfl) ?_
    refine r_get (own := RX6) (C := RX6) (F := TX6) (N := 12) (ci := 6) (v := .ref (q 1)) hx hb hK hts in_X6 hown hP6 1 rfl rfl 0 (by decide) kw_670 rfl dX6_pass_26 ?_
    refine lv_iconst (v := nI 3) hx hb dX6_pass_29 (by decide) ?_
    have hPc7 : va_P D vwCl (fl [aW T 0 (q 1) 111 now]) _ := hP6.sub [2] rfl
    refine cr_i (va_runS (As := [.ref (q 1), .int (nI 3)]) (rest := []) ⟨hx, hb, hml, hown, hts⟩ (c_X6_sum l D T (q 1) now 3 (by omega)) (mkS hts okX6_sum kw_780 kw_781 ⟨rfl, rfl, Nat.le_of_ble_eq_true rfl, Nat.le_of_ble_eq_true rfl⟩) (ps_ro hK hPc7) rfl rfl hl0.1 rfl (lv_room (Nat.le_of_ble_eq_true rfl)) dX6_pass_30 ⟨Nat.le_of_ble_eq_true rfl, Nat.le_of_ble_eq_true rfl⟩) hP6 hS6 (fun r_30 H8 locs8 hq_30 hP8 hS8 => ?_)
    clear hP6 hS6 hPc7
    have hD8 := hD6
    clear hD6
    have hq_30 : r_30 = sumM now 3 12 := hq_30
    subst hq_30
    refine lv_istore_n (lv' := [(2, .int (sumM now 3 12)), (0, .ref (q 0)), (1, .int (nI z))]) hx hb dX6_pass_33 rfl hl0 (by decide) rfl (fun ls9 hl9 => ?_)
    clear hl0
    refine lv_iconst (v := nI 0) hx hb dX6_pass_34 (by decide) ?_
    refine lv_istore_n (lv' := [(3, .int (nI 0)), (2, .int (sumM now 3 12)), (0, .ref (q 0)), (1, .int (nI z))]) hx hb dX6_pass_35 rfl hl9 (by decide) rfl (fun ls10 hl10 => ?_)
    clear hl9
    have hP11 : va_P D vwCl (fl [mO q (nI (svK kp)) (nI ty) (nI 0) (nI at_) isF op, aW T 0 (q 1) 111 now, aW T 0 (q 3) 666 (svP now past kp), aW T 0 (q 6) 3 wh]) _ := flP_sub hP8 [1, 2, 3, 0] rfl
    have hD11 : va_D A (fl [mO q (nI (svK kp)) (nI ty) (nI 0) (nI at_) isF op, aW T 0 (q 1) 111 now, aW T 0 (q 3) 666 (svP now past kp), aW T 0 (q 6) 3 wh]) := flD_sub hD8 [1, 2, 3, 0] (by decide) rfl
    have hS11 := hS8
    clear hP8 hS8 hD8
    have loop36 : ∀ (n_ : Nat) (i : Nat) (op1 : Int32) (g1 : Nat → Int32) (wh1 : Nat → Int32), (i ≤ z) → (g1 = hourN now i) → (z - i) < n_ → ∀ (H : Heap) (locs : List Loc), va_P D vwCl (fl [mO q (nI (svK kp)) (nI ty) (nI 0) (nI at_) isF op1, aW T 0 (q 1) 111 g1, aW T 0 (q 3) 666 (svP now past kp), aW T 0 (q 6) 3 wh1]) H → va_D A (fl [mO q (nI (svK kp)) (nI ty) (nI 0) (nI at_) isF op1, aW T 0 (q 1) 111 g1, aW T 0 (q 3) 666 (svP now past kp), aW T 0 (q 6) 3 wh1]) → va_S A sX.heap H locs → ∀ ls : Array Slot, lv_has ls 4 [(0, .ref (q 0)), (1, .int (nI z)), (2, .int (sumM now 3 12)), (3, .int (nI i))] → W pX l eX (rmD 5 0 0) sX mX ([.ref (q 0), .int (nI z)] : List Value).toArray bX mtX cX H locs 0 0 TG (F0 mX 36 ls []) := by
      intro n_
      induction n_ with
      | zero => intro i op1 g1 wh1 hi hg hmu_ ; exact absurd hmu_ (Nat.not_lt_zero _)
      | succ n_ ih36 =>
        intro i op1 g1 wh1 hi hg hmu_36 H13 locs13 hP13 hD13 hS13 ls13 hl13
        refine lv_iload_n hx hb dX6_pass_36 rfl (lv_at hl13 3 rfl) ?_
        refine lv_iload_n hx hb dX6_pass_37 rfl (lv_at hl13 1 rfl) ?_
        refine n_icmp_ge (tgt := 55) hx hb (by omega) (by omega) dX6_pass_38 (by decide) (fun c_38 => ?_) (fun c_38 => ?_)
        · skip
          have hi2 : z = i := by omega
          subst hi2
          refine lv_aload_n hx hb dX6_pass_55 rfl (lv_at hl13 0 rfl) ?_
          refine r_get (own := RX6) (C := RX6) (F := TX6) (N := 12) (ci := 6) (v := .ref (q 1)) hx hb hK hts in_X6 hown hP13 0 rfl rfl 0 (by decide) kw_670 rfl dX6_pass_56 ?_
          refine lv_iconst (v := nI 3) hx hb dX6_pass_59 (by decide) ?_
          have hPc15 : va_P D vwCl (fl [aW T 0 (q 1) 111 g1]) _ := hP13.sub [1] rfl
          refine cr_i (va_runS (As := [.ref (q 1), .int (nI 3)]) (rest := []) ⟨hx, hb, hml, hown, hts⟩ (c_X6_sum l D T (q 1) g1 3 (by omega)) (mkS hts okX6_sum kw_780 kw_781 ⟨rfl, rfl, Nat.le_of_ble_eq_true rfl, Nat.le_of_ble_eq_true rfl⟩) (ps_ro hK hPc15) rfl rfl hl13.1 rfl (lv_room (Nat.le_of_ble_eq_true rfl)) dX6_pass_60 ⟨Nat.le_of_ble_eq_true rfl, Nat.le_of_ble_eq_true rfl⟩) hP13 hS13 (fun r_60 H16 locs16 hq_60 hP16 hS16 => ?_)
          clear hP13 hS13 hPc15
          have hD16 := hD13
          clear hD13
          have hq_60 : r_60 = sumM g1 3 12 := hq_60
          subst hq_60
          refine lv_iload_n hx hb dX6_pass_63 rfl (lv_at hl13 2 rfl) ?_
          refine lv_isub hx hb dX6_pass_64 ?_
          refine ret_i hTG (Nat.le_refl _) (Nat.le_refl _) hx hb hr hlocks (((nI 0), op1, g1, (svP now past kp), wh1, (svK kp))) hP16 hD16 hS16 [0, 1, 2, 3] rfl (by decide) dX6_pass_65 ?_
          simp only [passP, c_12, if_true, nIcl (show z < 2147483648 by omega), ↓reduceIte]
          rw [hg]
        · skip
          refine lv_aload_n hx hb dX6_pass_41 rfl (lv_at hl13 0 rfl) ?_
          refine lv_aload_n hx hb dX6_pass_42 rfl (lv_at hl13 0 rfl) ?_
          refine r_get (own := RX6) (C := RX6) (F := TX6) (N := 12) (ci := 6) (v := .ref (q 1)) hx hb hK hts in_X6 hown hP13 0 rfl rfl 0 (by decide) kw_670 rfl dX6_pass_43 ?_
          have hPc17 : va_P D vwCl (fl [mO q (nI (svK kp)) (nI ty) (nI 0) (nI at_) isF op1, aW T 0 (q 1) 111 g1, aW T 0 (q 6) 3 wh1]) _ := flP_sub hP13 [0, 1, 3] rfl
          have hDc17 : va_D A (fl [mO q (nI (svK kp)) (nI ty) (nI 0) (nI at_) isF op1, aW T 0 (q 1) 111 g1, aW T 0 (q 6) 3 wh1]) := flD_sub hD13 [0, 1, 3] (by decide) rfl
          refine cl_v (br := [aW T 0 (q 3) 666 (svP now past kp)]) (va_runV (As := [.ref (q 1)]) (rest := []) ⟨hx, hb, hml, hown, hts⟩ (c_X6_hour l D T q (svK kp) ty (nI 0) at_ isF op1 (q 1) g1 wh1 (by rw [hg]; exact (hS.hourN i).okM) _) (mkV hts okX6_hour kw_786 kw_788 ks_15 ⟨rfl, rfl, Nat.le_of_ble_eq_true rfl, Nat.le_of_ble_eq_true rfl⟩) (pv_rw hK hPc17 hDc17 (q0 := 0) rfl rfl rfl) rfl rfl hl13.1 rfl (lv_room (Nat.le_of_ble_eq_true rfl)) dX6_pass_46 ⟨Nat.le_of_ble_eq_true rfl, Nat.le_of_ble_eq_true rfl⟩) hP13 hD13 hS13 hA [2] [0, 1, 3] rfl (by decide) (fun u_46 H18 locs18 hq_46 hP18 hD18 hS18 => ?_)
          clear hP13 hD13 hS13 hPc17 hDc17
          obtain ⟨op2_46, a2_46, wh2_46⟩ := u_46
          have hP18 : va_P D vwCl (fl [aW T 0 (q 3) 666 (svP now past kp), mO q (nI (svK kp)) (nI ty) (nI 0) (nI at_) isF op2_46, aW T 0 (q 1) 111 a2_46, aW T 0 (q 6) 3 wh2_46]) _ := hP18
          have hD18 : va_D A (fl [aW T 0 (q 3) 666 (svP now past kp), mO q (nI (svK kp)) (nI ty) (nI 0) (nI at_) isF op2_46, aW T 0 (q 1) 111 a2_46, aW T 0 (q 6) 3 wh2_46]) := hD18
          have hq_46 : a2_46 = hourF g1 := hq_46
          refine lv_iinc (v := nI (i + 1)) (lv' := [(3, .int (nI (i + 1))), (0, .ref (q 0)), (1, .int (nI z)), (2, .int (sumM now 3 12))]) hx hb dX6_pass_49 hl13 (k := 3) rfl (nI_add i 1) (by decide) rfl (fun ls19 hl19 => ?_)
          clear hl13
          refine lv_goto (tgt := 36) hx hb dX6_pass_52 (by decide) ?_
          have hP20 : va_P D vwCl (fl [mO q (nI (svK kp)) (nI ty) (nI 0) (nI at_) isF op2_46, aW T 0 (q 1) 111 a2_46, aW T 0 (q 3) 666 (svP now past kp), aW T 0 (q 6) 3 wh2_46]) _ := flP_sub hP18 [1, 2, 0, 3] rfl
          have hD20 : va_D A (fl [mO q (nI (svK kp)) (nI ty) (nI 0) (nI at_) isF op2_46, aW T 0 (q 1) 111 a2_46, aW T 0 (q 3) 666 (svP now past kp), aW T 0 (q 6) 3 wh2_46]) := flD_sub hD18 [1, 2, 0, 3] (by decide) rfl
          have hS20 := hS18
          clear hP18 hS18 hD18
          exact ih36 (i + 1) op2_46 a2_46 wh2_46 (by omega) (by rw [hourN, ← hg]; exact hq_46) (by omega) _ _ hP20 hD20 hS20 _ (lv_sub hl19 [1, 2, 3, 0] rfl)
    exact loop36 ((z - 0) + 1) 0 op now wh (by omega) (rfl) (Nat.lt_succ_self _) _ _ hP11 hD11 hS11 _ (lv_sub hl10 [2, 3, 1, 0] rfl)
  · skip
    refine lv_aload_n hx hb dX6_pass_15 rfl (lv_at hl0 0 rfl) ?_
    refine lv_iconst (v := nI 1) hx hb dX6_pass_16 (by decide) ?_
    have hPc21 : va_P D vwCl (fl [mO q (nI kp) (nI ty) (nI 0) (nI at_) isF op]) _ := flP_sub hP3 [0] rfl
    have hDc21 : va_D A (fl [mO q (nI kp) (nI ty) (nI 0) (nI at_) isF op]) := flD_sub hD3 [0] (by decide) rfl
    refine cl_i (br := [aW T 0 (q 1) 111 now, aW T 0 (q 3) 666 past, aW T 0 (q 6) 3 wh]) (va_runV (As := [.int (nI 1)]) (rest := []) ⟨hx, hb, hml, hown, hts⟩ (c_X6_fails l D T q kp ty (nI 0) at_ isF op (nI 1)  _) (mkV hts okX6_fails kw_715 kw_717 ks_12 ⟨rfl, rfl, Nat.le_of_ble_eq_true rfl, Nat.le_of_ble_eq_true rfl⟩) (pv_rw hK hPc21 hDc21 (q0 := 0) rfl rfl rfl) rfl rfl hl0.1 rfl (lv_room (Nat.le_of_ble_eq_true rfl)) dX6_pass_17 ⟨Nat.le_of_ble_eq_true rfl, Nat.le_of_ble_eq_true rfl⟩) hP3 hD3 hS3 hA [1, 2, 3] [0] rfl (by decide) (fun r_17 th2_17 H22 locs22 hq_17 hP22 hD22 hS22 => ?_)
    clear hP3 hD3 hS3 hPc21 hDc21
    have hP22 : va_P D vwCl (fl [aW T 0 (q 1) 111 now, aW T 0 (q 3) 666 past, aW T 0 (q 6) 3 wh, mO q (nI kp) (nI ty) th2_17 (nI at_) isF op]) _ := hP22
    have hD22 : va_D A (fl [aW T 0 (q 1) 111 now, aW T 0 (q 3) 666 past, aW T 0 (q 6) 3 wh, mO q (nI kp) (nI ty) th2_17 (nI at_) isF op]) := hD22
    obtain ⟨hr_17, hq_17⟩ : r_17 = nI 0 ∧ ((nI 1) = th2_17) := hq_17
    subst hr_17
    have hu_th2_17 : (nI 1) = th2_17 := hq_17
    subst hu_th2_17
    refine ret_i hTG (Nat.le_refl _) (Nat.le_refl _) hx hb hr hlocks (((nI 1), op, now, past, wh, kp)) hP22 hD22 hS22 [3, 0, 1, 2] rfl (by decide) dX6_pass_20 ?_
    simp only [passP, noR, c_12, ↓reduceIte, Bool.false_eq_true] <;> rfl
set_option maxHeartbeats 4000000 in
set_option maxRecDepth 100000 in
theorem c_X6_isAt (l : Launch) (D : va_G) (T : TI) (q : Nat → Nat) (kp : Nat) (ty : Nat) (th : Int32) (at_ : Nat) (isF : Bool) (op : Int32) (txt : Nat → Int32) (lo : Int32) (hi : Int32) (hty : ty ≤ 60) (hat : at_ ≤ 60) : OI l yX6_isAt cX6_isAt 3 .boolean (rmD 1 0 0) D T [.ref (q 0), .int lo, .int hi] [mO q (nI kp) (nI ty) th (nI at_) isF op, aW T 0 (q 4) 60 txt] (fun r => r = bI (decide (at_ < ty) && inB (txt at_) lo hi)) := by
  refine met_ro rfl (Nat.le_of_ble_eq_true rfl) ?_
  intro pX eX sX mX bX mtX cX hC hP0 hS0 ls0 hl0 TG hTG
  obtain ⟨hx, hb, hr, hml, hown, hts, hlocks, hin, hK⟩ := hC
  have hown : sX.vm.findClass RX6 = some mX.cls := hown
  have hl0 : lv_has ls0 3 [(0, .ref (q 0)), (1, .int lo), (2, .int hi)] := hl0
  refine lv_aload_n hx hb dX6_isAt_0 rfl (lv_at hl0 0 rfl) ?_
  refine r_get (own := RX6) (C := RX6) (F := TX6) (N := 12) (ci := 6) (v := .int (nI at_)) hx hb hK hts in_X6 hown hP0 0 rfl rfl 7 (by decide) kw_677 rfl dX6_isAt_1 ?_
  refine lv_aload_n hx hb dX6_isAt_4 rfl (lv_at hl0 0 rfl) ?_
  refine r_get (own := RX6) (C := RX6) (F := TX6) (N := 12) (ci := 6) (v := .int (nI ty)) hx hb hK hts in_X6 hown hP0 0 rfl rfl 5 (by decide) kw_675 rfl dX6_isAt_5 ?_
  refine n_icmp_ge (tgt := 32) hx hb (by omega) (by omega) dX6_isAt_8 (by decide) (fun c_8 => ?_) (fun c_8 => ?_)
  · skip
    refine lv_iconst (v := nI 0) hx hb dX6_isAt_32 (by decide) ?_
    refine ro_z (b := false) rfl hTG (Nat.le_refl _) (Nat.le_refl _) hx hb hr hlocks hS0 dX6_isAt_33 ?_
    show bI _ = bI _
    congr 1
    first | (rw [c_25, decide_eq_true (show at_ < ty by omega)]; rfl) | (rw [c_25, decide_eq_true (show at_ < ty by omega)]; done) | (rw [decide_eq_false (show ¬ at_ < ty by omega)]; rfl)
  · skip
    refine lv_aload_n hx hb dX6_isAt_11 rfl (lv_at hl0 0 rfl) ?_
    refine r_get (own := RX6) (C := RX6) (F := TX6) (N := 12) (ci := 6) (v := .ref (q 4)) hx hb hK hts in_X6 hown hP0 0 rfl rfl 4 (by decide) kw_674 rfl dX6_isAt_12 ?_
    refine lv_aload_n hx hb dX6_isAt_15 rfl (lv_at hl0 0 rfl) ?_
    refine r_get (own := RX6) (C := RX6) (F := TX6) (N := 12) (ci := 6) (v := .int (nI at_)) hx hb hK hts in_X6 hown hP0 0 rfl rfl 7 (by decide) kw_677 rfl dX6_isAt_16 ?_
    refine r_iald hx hb hK hP0 1 (f := txt) (n := 60) rfl at_ (by decide) dX6_isAt_19 (by omega) ?_
    refine lv_iload_n hx hb dX6_isAt_20 rfl (lv_at hl0 1 rfl) ?_
    refine lv_iload_n hx hb dX6_isAt_21 rfl (lv_at hl0 2 rfl) ?_
    have hPc2 : va_P D vwCl (fl []) _ := hP0.sub [] rfl
    refine cr_i (va_runS (As := [.int (txt at_), .int lo, .int hi]) (rest := []) ⟨hx, hb, hml, hown, hts⟩ (c_X6_in l D T (txt at_) lo hi ) (mkS hts okX6_in kw_726 kw_727 ⟨rfl, rfl, Nat.le_of_ble_eq_true rfl, Nat.le_of_ble_eq_true rfl⟩) (ps_ro hK hPc2) rfl rfl hl0.1 rfl (lv_room (Nat.le_of_ble_eq_true rfl)) dX6_isAt_22 ⟨Nat.le_of_ble_eq_true rfl, Nat.le_of_ble_eq_true rfl⟩) hP0 hS0 (fun r_22 H3 locs3 hq_22 hP3 hS3 => ?_)
    clear hP0 hS0 hPc2
    have hq_22 : r_22 = bI (inB (txt at_) lo hi) := hq_22
    subst hq_22
    refine z_if_eq (tgt := 32) hx hb dX6_isAt_25 (by decide) (fun c_25 => ?_) (fun c_25 => ?_)
    · skip
      refine lv_iconst (v := nI 0) hx hb dX6_isAt_32 (by decide) ?_
      refine ro_z (b := false) rfl hTG (Nat.le_refl _) (Nat.le_refl _) hx hb hr hlocks hS3 dX6_isAt_33 ?_
      show bI _ = bI _
      congr 1
      first | (rw [c_25, decide_eq_true (show at_ < ty by omega)]; rfl) | (rw [c_25, decide_eq_true (show at_ < ty by omega)]; done) | (rw [decide_eq_false (show ¬ at_ < ty by omega)]; rfl)
    · skip
      refine lv_iconst (v := nI 1) hx hb dX6_isAt_28 (by decide) ?_
      refine lv_goto (tgt := 33) hx hb dX6_isAt_29 (by decide) ?_
      refine ro_z (b := true) rfl hTG (Nat.le_refl _) (Nat.le_refl _) hx hb hr hlocks hS3 dX6_isAt_33 ?_
      show bI _ = bI _
      congr 1
      first | (rw [c_25, decide_eq_true (show at_ < ty by omega)]; rfl) | (rw [c_25, decide_eq_true (show at_ < ty by omega)]; done) | (rw [decide_eq_false (show ¬ at_ < ty by omega)]; rfl)
set_option maxHeartbeats 4000000 in
set_option maxRecDepth 100000 in
theorem c_X6_stops (l : Launch) (D : va_G) (T : TI) (q : Nat → Nat) (kp : Nat) (ty : Nat) (th : Int32) (at_ : Nat) (isF : Bool) (op : Int32) (hty : ty ≤ 60) (hat : at_ ≤ 60) : CI l yX6_stops cX6_stops 1 .boolean (rmD 0 0 0) D T [.ref (q 0)] [mO q (nI kp) (nI ty) th (nI at_) isF op] 0 0 (β := Bool) (fun (isF2 : Bool) => [mO q (nI kp) (nI ty) th (nI at_) isF2 op]) (fun (r : Int32) (isF2 : Bool) => r = nI 0 ∧ isF2 = decide (at_ < ty)) := by
  intro sz
  refine met_rw (Qc := fun A => va_Qi _ (PST D _ A) A) rfl (Nat.le_of_ble_eq_true rfl) ?_
  intro pX eX sX mX bX mtX cX A hAe hC hA hP0 hD0 hS0 ls0 hl0 TG hTG
  clear hAe
  obtain ⟨hx, hb, hr, hml, hown, hts, hlocks, hin, hK⟩ := hC
  have hown : sX.vm.findClass RX6 = some mX.cls := hown
  have hl0 : lv_has ls0 1 [(0, .ref (q 0))] := hl0
  refine lv_aload_n hx hb dX6_stops_0 rfl (lv_at hl0 0 rfl) ?_
  refine lv_aload_n hx hb dX6_stops_1 rfl (lv_at hl0 0 rfl) ?_
  refine r_get (own := RX6) (C := RX6) (F := TX6) (N := 12) (ci := 6) (v := .int (nI at_)) hx hb hK hts in_X6 hown hP0 0 rfl rfl 7 (by decide) kw_677 rfl dX6_stops_2 ?_
  refine lv_aload_n hx hb dX6_stops_5 rfl (lv_at hl0 0 rfl) ?_
  refine r_get (own := RX6) (C := RX6) (F := TX6) (N := 12) (ci := 6) (v := .int (nI ty)) hx hb hK hts in_X6 hown hP0 0 rfl rfl 5 (by decide) kw_675 rfl dX6_stops_6 ?_
  refine n_icmp_ge (tgt := 16) hx hb (by omega) (by omega) dX6_stops_9 (by decide) (fun c_9 => ?_) (fun c_9 => ?_)
  · skip
    refine lv_iconst (v := nI 0) hx hb dX6_stops_16 (by decide) ?_
    refine r_putz (own := RX6) (C := RX6) (F := TX6) (N := 12) (ci := 6) (b := false) hx hb hK hts in_X6 tyX6 tyX6_ok nmX6 hown hP0 hD0 hS0 0 rfl rfl 8 (by decide) kw_678 rfl rfl (Nat.le_of_ble_eq_true rfl) dX6_stops_17 (fun (H2 : Heap) (locs2 : List Loc) (hP2 : va_P D vwCl (fl [mO q (nI kp) (nI ty) th (nI at_) false op]) H2) (hD2 : va_D A (fl [mO q (nI kp) (nI ty) th (nI at_) false op])) hS2 => ?_)
    clear hP0 hD0 hS0
    refine lv_iconst (v := nI 0) hx hb dX6_stops_20 (by decide) ?_
    refine ret_z (b := false) rfl hTG (Nat.le_refl _) (Nat.le_refl _) hx hb hr hlocks ((false)) hP2 hD2 hS2 [0] rfl (by decide) dX6_stops_21 ?_
    first | (refine ⟨rfl, ?_⟩; simp; omega) | exact ⟨rfl, by simp; omega⟩
  · skip
    refine lv_iconst (v := nI 1) hx hb dX6_stops_12 (by decide) ?_
    refine lv_goto (tgt := 17) hx hb dX6_stops_13 (by decide) ?_
    refine r_putz (own := RX6) (C := RX6) (F := TX6) (N := 12) (ci := 6) (b := true) hx hb hK hts in_X6 tyX6 tyX6_ok nmX6 hown hP0 hD0 hS0 0 rfl rfl 8 (by decide) kw_678 rfl rfl (Nat.le_of_ble_eq_true rfl) dX6_stops_17 (fun (H3 : Heap) (locs3 : List Loc) (hP3 : va_P D vwCl (fl [mO q (nI kp) (nI ty) th (nI at_) true op]) H3) (hD3 : va_D A (fl [mO q (nI kp) (nI ty) th (nI at_) true op])) hS3 => ?_)
    clear hP0 hD0 hS0
    refine lv_iconst (v := nI 0) hx hb dX6_stops_20 (by decide) ?_
    refine ret_z (b := false) rfl hTG (Nat.le_refl _) (Nat.le_refl _) hx hb hr hlocks ((true)) hP3 hD3 hS3 [0] rfl (by decide) dX6_stops_21 ?_
    first | (refine ⟨rfl, ?_⟩; simp; omega) | exact ⟨rfl, by simp; omega⟩
